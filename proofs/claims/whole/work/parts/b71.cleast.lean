/-! the class's least -/
section CLE
variable {d : Nat} {g : Nat → Nat → Int32} {q : Nat → Nat → Int64} {P : QT} {w : Nat → Int32} {V M : LW}
theorem wnO_o (hw : WI w) : opO w (wnO V w) := fun n hn h0 => by
  unfold wnO
  split
  · exact opO_w hw n hn h0
  next h =>
    have h1 := wset_lt V w n
    have h2 : wset V w n ≠ 0 := fun e => h (wset_0.mp e)
    exact ⟨by omega, h1⟩
theorem pz_lp (hw : WI w) {f a : Nat} (hf : f < 16) (ha : a < 3) (h4 : g 4 f = nI (am w f)) (h1 : ∀ b, b < am w f → g 179 b = nI (vfor V w f b)) (h2 : ∀ b, b < 3 → g 20 (f * 3 + b) = nI (fd w f (7 + b)))
    (H : wp (ev (d + 1)) P co_priceOf 64 [some (.ref 184), some (.ref 1), some (.int (nI f)), some (.int (nI a)), some (.int (nI (rvx (tot V w f) a (am w f)))), some (.int (nI (am w f)))] [] (E g q)) : ∀ (j b : Nat), b + j = am w f →
    wp (ev (d + 1)) P co_priceOf 20 [some (.ref 184), some (.ref 1), some (.int (nI f)), some (.int (nI a)), some (.int (nI (rvx (tot V w f) a b))), some (.int (nI b))] [] (E g q) := by
  have ha3 := am_le hw hf
  intro j
  induction j with
  | zero =>
    intro b hb
    have hb : b = am w f := hb
    rw [hb, b_co_priceOf_20]
    simp -implicitDefEqProofs (disch := first | assumption | omega) only [szS_0, szS_i, szS_r, szS_l, x_cons, x_goto, ob_some, kl_i, kl_r, kl_l, kl_n, push_n, push_s, pop_0, pop_i, pop_r, Int.reduceToNat, List.length_cons, List.length_nil, Nat.reduceAdd, Nat.reduceLeDiff, Nat.zero_add, true_and, nI_n0, nat_le, Nat.add_zero, i_1, rt_co_priceOf, x_al0, x_al1, x_call, x_getf, x_goto, x_iadd, x_iaload, x_iceq, x_icge, x_icne, x_il2, x_il3, x_il4, x_il5, x_inc5, x_iret, x_is4, x_is5, x_ishl, x_isub, x_ldc, fd_1_0, fd_1_1, fd_1_2, fd_1_3, fd_1_4, fd_2_0, sf_2_0, fd_2_1, fd_2_2, fd_2_3, fd_2_4, ld_4, sd_4, ln_4, h4, nI_ltE, Nat.lt_irrefl, ↓reduceIte]
    exact H
  | succ j ih =>
    intro b hb
    have hb' : b < am w f := by omega
    have l1 := rvx_l (T := tot V w f) (a := a) (m := 6000999) b fun c hc => tot_l hw hf (by omega)
    have l2 := tot_l hw (V := V) hf (show b < 3 by omega)
    have hi := ih (b + 1) (by omega)
    have er : rvx (tot V w f) a (b + 1) = if b = a then rvx (tot V w f) a b else if rvx (tot V w f) a b < tot V w f b then tot V w f b else rvx (tot V w f) a b := rfl
    rw [er] at hi
    rw [b_co_priceOf_20]
    simp -implicitDefEqProofs (disch := first | assumption | omega) only [szS_0, szS_i, szS_r, szS_l, x_cons, x_goto, ob_some, kl_i, kl_r, kl_l, kl_n, push_n, push_s, pop_0, pop_i, pop_r, Int.reduceToNat, List.length_cons, List.length_nil, Nat.reduceAdd, Nat.reduceLeDiff, Nat.zero_add, true_and, nI_n0, nat_le, Nat.add_zero, i_1, rt_co_priceOf, x_al0, x_al1, x_call, x_getf, x_goto, x_iadd, x_iaload, x_iceq, x_icge, x_icne, x_il2, x_il3, x_il4, x_il5, x_inc5, x_iret, x_is4, x_is5, x_ishl, x_isub, x_ldc, fd_1_0, fd_1_1, fd_1_2, fd_1_3, fd_1_4, fd_2_0, sf_2_0, fd_2_1, fd_2_2, fd_2_3, fd_2_4, ld_4, sd_4, ln_4, h4, nI_ltE, hb', ↓reduceIte, nI_eqE]
    by_cases e : b = a
    · rw [if_pos e] at hi
      rw [if_pos e]
      try simp -implicitDefEqProofs (disch := first | assumption | omega) only [b_co_priceOf_58, szS_0, szS_i, szS_r, szS_l, x_cons, x_goto, ob_some, kl_i, kl_r, kl_l, kl_n, push_n, push_s, pop_0, pop_i, pop_r, Int.reduceToNat, List.length_cons, List.length_nil, Nat.reduceAdd, Nat.reduceLeDiff, Nat.zero_add, true_and, nI_n0, nat_le, Nat.add_zero, i_1, rt_co_priceOf, x_al0, x_al1, x_call, x_getf, x_goto, x_iadd, x_iaload, x_iceq, x_icge, x_icne, x_il2, x_il3, x_il4, x_il5, x_inc5, x_iret, x_is4, x_is5, x_ishl, x_isub, x_ldc, nI_add]
      exact hi
    · rw [if_neg e] at hi
      rw [if_neg e]
      try simp -implicitDefEqProofs (disch := first | assumption | omega) only [szS_0, szS_i, szS_r, szS_l, x_cons, x_goto, ob_some, kl_i, kl_r, kl_l, kl_n, push_n, push_s, pop_0, pop_i, pop_r, Int.reduceToNat, List.length_cons, List.length_nil, Nat.reduceAdd, Nat.reduceLeDiff, Nat.zero_add, true_and, nI_n0, nat_le, Nat.add_zero, i_1, rt_co_priceOf, x_al0, x_al1, x_call, x_getf, x_goto, x_iadd, x_iaload, x_iceq, x_icge, x_icne, x_il2, x_il3, x_il4, x_il5, x_inc5, x_iret, x_is4, x_is5, x_ishl, x_isub, x_ldc, fd_184_0, fd_184_1, fd_184_2, fd_184_3, fd_184_4, fd_184_5, fd_184_6, fd_184_7, sf_184_7, fd_184_8, sf_184_8, fd_184_9, fd_184_10, fd_184_11]
      rw [s_strength (t := 1) (by decide) hf (by omega) (h1 b hb') (h2 b (by omega))]
      simp -implicitDefEqProofs (disch := first | assumption | omega) only [szS_0, szS_i, szS_r, szS_l, x_cons, x_goto, ob_some, kl_i, kl_r, kl_l, kl_n, push_n, push_s, pop_0, pop_i, pop_r, Int.reduceToNat, List.length_cons, List.length_nil, Nat.reduceAdd, Nat.reduceLeDiff, Nat.zero_add, true_and, nI_n0, nat_le, Nat.add_zero, i_1, rt_co_priceOf, x_al0, x_al1, x_call, x_getf, x_goto, x_iadd, x_iaload, x_iceq, x_icge, x_icne, x_il2, x_il3, x_il4, x_il5, x_inc5, x_iret, x_is4, x_is5, x_ishl, x_isub, x_ldc, s_jmax, nI_ltE, nI_ite, nI_add, b_co_priceOf_58]
      exact hi
theorem s_priceOf (hw : WI w) {f a : Nat} (hf : f < nn w) (hs : fd w f 0 = 0) (ha : a < am w f) (h4 : g 4 f = nI (am w f)) (h1 : ∀ b, b < am w f → g 179 b = nI (vfor V w f b)) (h2 : ∀ b, b < 3 → g 20 (f * 3 + b) = nI (fd w f (7 + b))) (h9 : g 189 f = nI (wnO V w f)) :
    callC (ev (d + 2)) co_priceOf [.ref 184, .ref 1, .int (nI f), .int (nI a)] (E g q) P = P (some (.int (nI (coF V w f a)))) (E g q) := by
  refine call_eq (in_co_priceOf rfl ?_)
  have h0 := wi_n hw
  have ha3 := am_le hw (n := f) (by omega)
  have hol := (wnO_o (V := V) hw f hf hs).2
  have hpl : (2 : Nat) ^ am w f ≤ 2 ^ 3 := Nat.pow_le_pow_right (by decide) ha3
  have hal : (2 : Nat) ^ a ≤ 2 ^ 3 := Nat.pow_le_pow_right (by decide) (by omega)
  have l1 := rvx_l (T := tot V w f) (a := a) (m := 6000999) (am w f) fun c hc => tot_l hw (by omega) (by omega)
  have l2 := tot_l hw (V := V) (f := f) (by omega) (show a < 3 by omega)
  rw [b_co_priceOf_0]
  simp -implicitDefEqProofs (disch := first | assumption | omega) only [szS_0, szS_i, szS_r, szS_l, x_cons, x_goto, ob_some, kl_i, kl_r, kl_l, kl_n, push_n, push_s, pop_0, pop_i, pop_r, Int.reduceToNat, List.length_cons, List.length_nil, Nat.reduceAdd, Nat.reduceLeDiff, Nat.zero_add, true_and, nI_n0, nat_le, Nat.add_zero, i_1, rt_co_priceOf, x_al0, x_al1, x_call, x_getf, x_goto, x_iadd, x_iaload, x_iceq, x_icge, x_icne, x_il2, x_il3, x_il4, x_il5, x_inc5, x_iret, x_is4, x_is5, x_ishl, x_isub, x_ldc, fd_184_0, fd_184_1, fd_184_2, fd_184_3, fd_184_4, fd_184_5, fd_184_6, fd_184_7, sf_184_7, fd_184_8, sf_184_8, fd_184_9, fd_184_10, fd_184_11, ld_189, sd_189, ln_189, h9, nI_shl1, nI_eqE]
  by_cases e : wnO V w f = 2 ^ a
  · have ec : coF V w f a = 0 := if_pos e
    rw [ec]
    simp -implicitDefEqProofs (disch := first | assumption | omega) only [e, ↓reduceIte, szS_0, szS_i, szS_r, szS_l, x_cons, x_goto, ob_some, kl_i, kl_r, kl_l, kl_n, push_n, push_s, pop_0, pop_i, pop_r, Int.reduceToNat, List.length_cons, List.length_nil, Nat.reduceAdd, Nat.reduceLeDiff, Nat.zero_add, true_and, nI_n0, nat_le, Nat.add_zero, i_1, rt_co_priceOf, x_al0, x_al1, x_call, x_getf, x_goto, x_iadd, x_iaload, x_iceq, x_icge, x_icne, x_il2, x_il3, x_il4, x_il5, x_inc5, x_iret, x_is4, x_is5, x_ishl, x_isub, x_ldc]
    all_goals first | rfl | exact ⟨rfl, rfl⟩ | exact ⟨rfl, trivial⟩ | exact ⟨trivial, rfl⟩ | trivial
  · have ec : coF V w f a = rvx (tot V w f) a (am w f) + 1 - tot V w f a := if_neg e
    have hok := co_ok (V := V) (w := w) ha e
    rw [ec, if_neg e, b_co_priceOf_14]
    simp -implicitDefEqProofs (disch := first | assumption | omega) only [szS_0, szS_i, szS_r, szS_l, x_cons, x_goto, ob_some, kl_i, kl_r, kl_l, kl_n, push_n, push_s, pop_0, pop_i, pop_r, Int.reduceToNat, List.length_cons, List.length_nil, Nat.reduceAdd, Nat.reduceLeDiff, Nat.zero_add, true_and, nI_n0, nat_le, Nat.add_zero, i_1, rt_co_priceOf, x_al0, x_al1, x_call, x_getf, x_goto, x_iadd, x_iaload, x_iceq, x_icge, x_icne, x_il2, x_il3, x_il4, x_il5, x_inc5, x_iret, x_is4, x_is5, x_ishl, x_isub, x_ldc]
    refine pz_lp (V := V) hw (by omega) (by omega) h4 h1 h2 ?_ (am w f) 0 (Nat.zero_add _)
    rw [b_co_priceOf_64]
    simp -implicitDefEqProofs (disch := first | assumption | omega) only [szS_0, szS_i, szS_r, szS_l, x_cons, x_goto, ob_some, kl_i, kl_r, kl_l, kl_n, push_n, push_s, pop_0, pop_i, pop_r, Int.reduceToNat, List.length_cons, List.length_nil, Nat.reduceAdd, Nat.reduceLeDiff, Nat.zero_add, true_and, nI_n0, nat_le, Nat.add_zero, i_1, rt_co_priceOf, x_al0, x_al1, x_call, x_getf, x_goto, x_iadd, x_iaload, x_iceq, x_icge, x_icne, x_il2, x_il3, x_il4, x_il5, x_inc5, x_iret, x_is4, x_is5, x_ishl, x_isub, x_ldc, fd_184_0, fd_184_1, fd_184_2, fd_184_3, fd_184_4, fd_184_5, fd_184_6, fd_184_7, sf_184_7, fd_184_8, sf_184_8, fd_184_9, fd_184_10, fd_184_11]
    rw [s_strength (t := 1) (by decide) (by omega) (by omega) (h1 a ha) (h2 a (by omega))]
    simp -implicitDefEqProofs (disch := first | assumption | omega) only [szS_0, szS_i, szS_r, szS_l, x_cons, x_goto, ob_some, kl_i, kl_r, kl_l, kl_n, push_n, push_s, pop_0, pop_i, pop_r, Int.reduceToNat, List.length_cons, List.length_nil, Nat.reduceAdd, Nat.reduceLeDiff, Nat.zero_add, true_and, nI_n0, nat_le, Nat.add_zero, i_1, rt_co_priceOf, x_al0, x_al1, x_call, x_getf, x_goto, x_iadd, x_iaload, x_iceq, x_icge, x_icne, x_il2, x_il3, x_il4, x_il5, x_inc5, x_iret, x_is4, x_is5, x_ishl, x_isub, x_ldc, nI_add, nI_sub, hok]
    all_goals first | rfl | exact ⟨rfl, rfl⟩ | exact ⟨rfl, trivial⟩ | exact ⟨trivial, rfl⟩ | trivial
/-- the forks below n are weighed -/
def wgD (V : LW) (w : Nat → Int32) (n : Nat) (g : Nat → Nat → Int32) : Prop := ∀ m, m < n → m < nn w → fd w m 0 = 0 → g 189 m = nI (wnO V w m) ∧ ∀ b, b < am w m → g 190 (m * 3 + b) = nI (coF V w m b)
theorem wg_in (hw : WI w) {f : Nat} (hf : f < nn w) (hs : fd w f 0 = 0) {g0 : Nat → Nat → Int32} (h4 : g0 4 f = nI (am w f)) (h1 : ∀ b, b < am w f → g0 179 b = nI (vfor V w f b)) (h2 : ∀ b, b < 3 → g0 20 (f * 3 + b) = nI (fd w f (7 + b))) (h9 : g0 189 f = nI (wnO V w f))
    (H : ∀ g', (∀ b, b ≠ 190 → g' b = g0 b) → (∀ k, k < f * 3 → g' 190 k = g0 190 k) → (∀ b, b < am w f → g' 190 (f * 3 + b) = nI (coF V w f b)) → wp (ev (d + 4)) P co_weighForks 96 [some (.ref 184), some (.ref 1), some (.int (nI f)), some (.int (nI (am w f)))] [] (E g' q)) : ∀ (j a : Nat) (g : Nat → Nat → Int32), a + j = am w f → (∀ b, b ≠ 190 → g b = g0 b) → (∀ k, k < f * 3 → g 190 k = g0 190 k) → (∀ b, b < a → g 190 (f * 3 + b) = nI (coF V w f b)) →
    wp (ev (d + 4)) P co_weighForks 60 [some (.ref 184), some (.ref 1), some (.int (nI f)), some (.int (nI a))] [] (E g q) := by
  have hN := wi_n hw
  have ha3 := am_le hw (n := f) (by omega)
  intro j
  induction j with
  | zero =>
    intro a g hb e0 e1 e2
    have hb : a = am w f := hb
    subst hb
    have e4 : g 4 f = nI (am w f) := by rw [e0 4 (by decide)]; exact h4
    rw [b_co_weighForks_60]
    simp -implicitDefEqProofs (disch := first | assumption | omega) only [szS_0, szS_i, szS_r, szS_l, x_cons, x_goto, ob_some, kl_i, kl_r, kl_l, kl_n, push_n, push_s, pop_0, pop_i, pop_r, Int.reduceToNat, List.length_cons, List.length_nil, Nat.reduceAdd, Nat.reduceLeDiff, Nat.zero_add, true_and, nI_n0, nat_le, Nat.add_zero, i_1, rt_co_weighForks, x_al0, x_al1, x_call, x_getf, x_goto, x_iadd, x_iaload, x_iastore, x_icge, x_ifne, x_il2, x_il3, x_imul, x_inc2, x_inc3, x_is2, x_is3, x_ldc, x_vret, fd_1_0, fd_1_1, fd_1_2, fd_1_3, fd_1_4, fd_2_0, sf_2_0, fd_2_1, fd_2_2, fd_2_3, fd_2_4, ld_4, sd_4, ln_4, e4, nI_ltE, Nat.lt_irrefl, ↓reduceIte]
    exact H g e0 e1 e2
  | succ j ih =>
    intro a g hb e0 e1 e2
    have hb' : a < am w f := by omega
    have e4 : g 4 f = nI (am w f) := by rw [e0 4 (by decide)]; exact h4
    rw [b_co_weighForks_60]
    simp -implicitDefEqProofs (disch := first | assumption | omega) only [szS_0, szS_i, szS_r, szS_l, x_cons, x_goto, ob_some, kl_i, kl_r, kl_l, kl_n, push_n, push_s, pop_0, pop_i, pop_r, Int.reduceToNat, List.length_cons, List.length_nil, Nat.reduceAdd, Nat.reduceLeDiff, Nat.zero_add, true_and, nI_n0, nat_le, Nat.add_zero, i_1, rt_co_weighForks, x_al0, x_al1, x_call, x_getf, x_goto, x_iadd, x_iaload, x_iastore, x_icge, x_ifne, x_il2, x_il3, x_imul, x_inc2, x_inc3, x_is2, x_is3, x_ldc, x_vret, fd_1_0, fd_1_1, fd_1_2, fd_1_3, fd_1_4, fd_2_0, sf_2_0, fd_2_1, fd_2_2, fd_2_3, fd_2_4, fd_184_0, fd_184_1, fd_184_2, fd_184_3, fd_184_4, fd_184_5, fd_184_6, fd_184_7, sf_184_7, fd_184_8, sf_184_8, fd_184_9, fd_184_10, fd_184_11, ld_4, sd_4, ln_4, e4, nI_ltE, hb', ↓reduceIte, nI_mul, nI_add]
    rw [s_priceOf (d := d + 2) (V := V) hw hf hs hb' e4 (fun b hb => by rw [e0 179 (by decide)]; exact h1 b hb) (fun b hb => by rw [e0 20 (by decide)]; exact h2 b hb) (by rw [e0 189 (by decide)]; exact h9)]
    simp -implicitDefEqProofs (disch := first | assumption | omega) only [szS_0, szS_i, szS_r, szS_l, x_cons, x_goto, ob_some, kl_i, kl_r, kl_l, kl_n, push_n, push_s, pop_0, pop_i, pop_r, Int.reduceToNat, List.length_cons, List.length_nil, Nat.reduceAdd, Nat.reduceLeDiff, Nat.zero_add, true_and, nI_n0, nat_le, Nat.add_zero, i_1, rt_co_weighForks, x_al0, x_al1, x_call, x_getf, x_goto, x_iadd, x_iaload, x_iastore, x_icge, x_ifne, x_il2, x_il3, x_imul, x_inc2, x_inc3, x_is2, x_is3, x_ldc, x_vret, ld_190, sd_190, ln_190, pu_g, upw_s, upw_w, pu_s, nI_add]
    refine ih (a + 1) _ (by omega) (fun b hb => by rw [upw_o hb]; exact e0 b hb) (fun k hk => ?_) fun b hb => ?_
    · rw [upw_s, pu_n (by omega)]
      exact e1 k hk
    · rw [upw_s]
      by_cases e : b = a
      · rw [e, pu_s]
      · rw [pu_n (by omega)]
        exact e2 b (by omega)
theorem wg_lp (hw : WI w) {g0 : Nat → Nat → Int32} (hc0 : Tc 1 w g0) (hL0 : CL 1 g0 V M) (H : ∀ g', (∀ b, b ≠ 179 → b ≠ 180 → b ≠ 181 → b ≠ 25 → b ≠ 189 → b ≠ 190 → g' b = g0 b) → wgD V w (nn w) g' → P none (E g' q)) : ∀ (j n : Nat) (g : Nat → Nat → Int32) (o : Option Value), n + j = nn w → (∀ b, b ≠ 179 → b ≠ 180 → b ≠ 181 → b ≠ 25 → b ≠ 189 → b ≠ 190 → g b = g0 b) → wgD V w n g →
    wp (ev (d + 4)) P co_weighForks 2 [some (.ref 184), some (.ref 1), some (.int (nI n)), o] [] (E g q) := by
  have hN := wi_n hw
  intro j
  induction j with
  | zero =>
    intro n g o hn hg hD
    have hn : n = nn w := hn
    subst hn
    have e1 : g 2 0 = nI (nn w) := by rw [hg 2 (by decide) (by decide) (by decide) (by decide) (by decide) (by decide)]; exact (tc_n hc0).trans hN.1
    rw [b_co_weighForks_2]
    simp -implicitDefEqProofs (disch := first | assumption | omega) only [szS_0, szS_i, szS_r, szS_l, x_cons, x_goto, ob_some, kl_i, kl_r, kl_l, kl_n, push_n, push_s, pop_0, pop_i, pop_r, Int.reduceToNat, List.length_cons, List.length_nil, Nat.reduceAdd, Nat.reduceLeDiff, Nat.zero_add, true_and, nI_n0, nat_le, Nat.add_zero, i_1, rt_co_weighForks, x_al0, x_al1, x_call, x_getf, x_goto, x_iadd, x_iaload, x_iastore, x_icge, x_ifne, x_il2, x_il3, x_imul, x_inc2, x_inc3, x_is2, x_is3, x_ldc, x_vret, fd_1_0, fd_1_1, fd_1_2, fd_1_3, fd_1_4, fd_2_0, sf_2_0, fd_2_1, fd_2_2, fd_2_3, fd_2_4, e1, nI_ltE, Nat.lt_irrefl, ↓reduceIte, b_co_weighForks_102]
    exact H g hg hD
  | succ j ih =>
    intro n g o hn hg hD
    have hn' : n < nn w := by omega
    have hn16 : n < 16 := by omega
    have hc : Tc 1 w g := Tc_c hc0 fun a a1 a2 => hg a (by omega) (by omega) (by omega) (by omega) (by omega) (by omega)
    have hL : CL 1 g V M := CL_c hL0 fun a a1 a2 a3 => hg a (by omega) (by omega) (by omega) (by omega) (by omega) (by omega)
    have hz := wi_0 hw hn16
    have e1 : g 2 0 = nI (nn w) := (tc_n hc).trans hN.1
    have e2 : g 3 n = nI (fd w n 0) := (tc_so hc hn16).trans hz.1
    rw [b_co_weighForks_2]
    simp -implicitDefEqProofs (disch := first | assumption | omega) only [szS_0, szS_i, szS_r, szS_l, x_cons, x_goto, ob_some, kl_i, kl_r, kl_l, kl_n, push_n, push_s, pop_0, pop_i, pop_r, Int.reduceToNat, List.length_cons, List.length_nil, Nat.reduceAdd, Nat.reduceLeDiff, Nat.zero_add, true_and, nI_n0, nat_le, Nat.add_zero, i_1, rt_co_weighForks, x_al0, x_al1, x_call, x_getf, x_goto, x_iadd, x_iaload, x_iastore, x_icge, x_ifne, x_il2, x_il3, x_imul, x_inc2, x_inc3, x_is2, x_is3, x_ldc, x_vret, fd_1_0, fd_1_1, fd_1_2, fd_1_3, fd_1_4, fd_2_0, sf_2_0, fd_2_1, fd_2_2, fd_2_3, fd_2_4, ld_3, sd_3, ln_3, e1, e2, nI_ltE, hn', ↓reduceIte, nI_eqE]
    by_cases h0 : fd w n 0 = 0
    · rw [if_pos h0]
      try simp -implicitDefEqProofs (disch := first | assumption | omega) only [szS_0, szS_i, szS_r, szS_l, x_cons, x_goto, ob_some, kl_i, kl_r, kl_l, kl_n, push_n, push_s, pop_0, pop_i, pop_r, Int.reduceToNat, List.length_cons, List.length_nil, Nat.reduceAdd, Nat.reduceLeDiff, Nat.zero_add, true_and, nI_n0, nat_le, Nat.add_zero, i_1, rt_co_weighForks, x_al0, x_al1, x_call, x_getf, x_goto, x_iadd, x_iaload, x_iastore, x_icge, x_ifne, x_il2, x_il3, x_imul, x_inc2, x_inc3, x_is2, x_is3, x_ldc, x_vret, fd_184_0, fd_184_1, fd_184_2, fd_184_3, fd_184_4, fd_184_5, fd_184_6, fd_184_7, sf_184_7, fd_184_8, sf_184_8, fd_184_9, fd_184_10, fd_184_11]
      refine s_countVotes (t := 1) (by decide) hw hc hL hn' h0 fun g1 f1 c1 => ?_
      have o1 : ∀ b, b ≠ 179 → b ≠ 180 → b ≠ 181 → b ≠ 25 → g1 b = g b := f1
      have hc1 : Tc 1 w g1 := Tc_c hc fun a a1 a2 => o1 a (by omega) (by omega) (by omega) (by omega)
      have hcf := tc_f hc1 hn' h0
      have a3 : g1 4 n = nI (am w n) := (tc_am hc1 hn16).trans (wi_1 hw hn16).1
      have v1 : ∀ a, a < am w n → g1 179 a = nI (vfor V w n a) := fun a ha => by have := am_le hw hn16; rw [c1.1 a (by omega), if_pos ha]
      have v2 : ∀ a, a < 3 → g1 20 (n * 3 + a) = nI (fd w n (7 + a)) := fun a ha => (hcf.2.2 a ha).trans (wi_b hw hn16 ha).1
      have v5 : g1 18 n = nI (fd w n 5) := hcf.1.trans (wi_x hw hn16).1.1
      simp -implicitDefEqProofs (disch := first | assumption | omega) only [szS_0, szS_i, szS_r, szS_l, x_cons, x_goto, ob_some, kl_i, kl_r, kl_l, kl_n, push_n, push_s, pop_0, pop_i, pop_r, Int.reduceToNat, List.length_cons, List.length_nil, Nat.reduceAdd, Nat.reduceLeDiff, Nat.zero_add, true_and, nI_n0, nat_le, Nat.add_zero, i_1, rt_co_weighForks, x_al0, x_al1, x_call, x_getf, x_goto, x_iadd, x_iaload, x_iastore, x_icge, x_ifne, x_il2, x_il3, x_imul, x_inc2, x_inc3, x_is2, x_is3, x_ldc, x_vret, fd_184_0, fd_184_1, fd_184_2, fd_184_3, fd_184_4, fd_184_5, fd_184_6, fd_184_7, sf_184_7, fd_184_8, sf_184_8, fd_184_9, fd_184_10, fd_184_11]
      rw [s_mostFor (t := 1) (by decide) hw hn16 a3 v1 v2]
      simp -implicitDefEqProofs (disch := first | assumption | omega) only [szS_0, szS_i, szS_r, szS_l, x_cons, x_goto, ob_some, kl_i, kl_r, kl_l, kl_n, push_n, push_s, pop_0, pop_i, pop_r, Int.reduceToNat, List.length_cons, List.length_nil, Nat.reduceAdd, Nat.reduceLeDiff, Nat.zero_add, true_and, nI_n0, nat_le, Nat.add_zero, i_1, rt_co_weighForks, x_al0, x_al1, x_call, x_getf, x_goto, x_iadd, x_iaload, x_iastore, x_icge, x_ifne, x_il2, x_il3, x_imul, x_inc2, x_inc3, x_is2, x_is3, x_ldc, x_vret]
      rw [s_winners (t := 1) (by decide) hw hn16 a3 v1 v2 v5]
      simp -implicitDefEqProofs (disch := first | assumption | omega) only [szS_0, szS_i, szS_r, szS_l, x_cons, x_goto, ob_some, kl_i, kl_r, kl_l, kl_n, push_n, push_s, pop_0, pop_i, pop_r, Int.reduceToNat, List.length_cons, List.length_nil, Nat.reduceAdd, Nat.reduceLeDiff, Nat.zero_add, true_and, nI_n0, nat_le, Nat.add_zero, i_1, rt_co_weighForks, x_al0, x_al1, x_call, x_getf, x_goto, x_iadd, x_iaload, x_iastore, x_icge, x_ifne, x_il2, x_il3, x_imul, x_inc2, x_inc3, x_is2, x_is3, x_ldc, x_vret, ld_189, sd_189, ln_189, pu_g, upw_s, upw_w, pu_s]
      refine wg_in (V := V) (g0 := upw g1 189 (pu (g1 189) n (nI (wnO V w n)))) hw hn' h0 (by rw [upw_o (by decide)]; exact a3) (fun b hb => by rw [upw_o (by decide)]; exact v1 b hb) (fun b hb => by rw [upw_o (by decide)]; exact v2 b hb) (by rw [upw_s, pu_s]) (fun g2 f2 f3 f4 => ?_) (am w n) 0 _ (Nat.zero_add _) (fun _ _ => rfl) (fun _ _ => rfl) fun b hb => absurd hb (Nat.not_lt_zero b)
      rw [b_co_weighForks_96]
      simp -implicitDefEqProofs (disch := first | assumption | omega) only [szS_0, szS_i, szS_r, szS_l, x_cons, x_goto, ob_some, kl_i, kl_r, kl_l, kl_n, push_n, push_s, pop_0, pop_i, pop_r, Int.reduceToNat, List.length_cons, List.length_nil, Nat.reduceAdd, Nat.reduceLeDiff, Nat.zero_add, true_and, nI_n0, nat_le, Nat.add_zero, i_1, rt_co_weighForks, x_al0, x_al1, x_call, x_getf, x_goto, x_iadd, x_iaload, x_iastore, x_icge, x_ifne, x_il2, x_il3, x_imul, x_inc2, x_inc3, x_is2, x_is3, x_ldc, x_vret, nI_add]
      refine ih (n + 1) g2 _ (by omega) (fun b b1 b2 b3 b4 b5 b6 => by rw [f2 b b6, upw_o b5, o1 b b1 b2 b3 b4]; exact hg b b1 b2 b3 b4 b5 b6) fun m hm hm2 hms => ?_
      by_cases e : m = n
      · rw [e]
        exact ⟨by rw [f2 189 (by decide), upw_s, pu_s], f4⟩
      · obtain ⟨x1, x2⟩ := hD m (by omega) hm2 hms
        refine ⟨by rw [f2 189 (by decide), upw_s, pu_n e, o1 189 (by decide) (by decide) (by decide) (by decide)]; exact x1, fun b hb => ?_⟩
        have := am_le hw (n := m) (by omega)
        rw [f3 _ (by omega), upw_o (by decide), o1 190 (by decide) (by decide) (by decide) (by decide)]
        exact x2 b hb
    · rw [if_neg h0]
      try simp -implicitDefEqProofs (disch := first | assumption | omega) only [b_co_weighForks_96, szS_0, szS_i, szS_r, szS_l, x_cons, x_goto, ob_some, kl_i, kl_r, kl_l, kl_n, push_n, push_s, pop_0, pop_i, pop_r, Int.reduceToNat, List.length_cons, List.length_nil, Nat.reduceAdd, Nat.reduceLeDiff, Nat.zero_add, true_and, nI_n0, nat_le, Nat.add_zero, i_1, rt_co_weighForks, x_al0, x_al1, x_call, x_getf, x_goto, x_iadd, x_iaload, x_iastore, x_icge, x_ifne, x_il2, x_il3, x_imul, x_inc2, x_inc3, x_is2, x_is3, x_ldc, x_vret, nI_add]
      refine ih (n + 1) g o (by omega) hg fun m hm hm2 hms => ?_
      by_cases e : m = n
      · rw [e] at hms
        exact absurd hms h0
      · exact hD m (by omega) hm2 hms
theorem s_weighForks (hw : WI w) (hc : Tc 1 w g) (hL : CL 1 g V M) (H : ∀ g', (∀ b, b ≠ 179 → b ≠ 180 → b ≠ 181 → b ≠ 25 → b ≠ 189 → b ≠ 190 → g' b = g b) → wgD V w (nn w) g' → P none (E g' q)) : callC (ev (d + 5)) co_weighForks [.ref 184, .ref 1] (E g q) P := by
  refine in_co_weighForks rfl ?_
  rw [b_co_weighForks_0]
  simp -implicitDefEqProofs (disch := first | assumption | omega) only [szS_0, szS_i, szS_r, szS_l, x_cons, x_goto, ob_some, kl_i, kl_r, kl_l, kl_n, push_n, push_s, pop_0, pop_i, pop_r, Int.reduceToNat, List.length_cons, List.length_nil, Nat.reduceAdd, Nat.reduceLeDiff, Nat.zero_add, true_and, nI_n0, nat_le, Nat.add_zero, i_1, rt_co_weighForks, x_al0, x_al1, x_call, x_getf, x_goto, x_iadd, x_iaload, x_iastore, x_icge, x_ifne, x_il2, x_il3, x_imul, x_inc2, x_inc3, x_is2, x_is3, x_ldc, x_vret]
  exact wg_lp (M := M) hw hc hL H (nn w) 0 g none (Nat.zero_add _) (fun _ _ _ _ _ _ _ => rfl) fun m hm => absurd hm (Nat.not_lt_zero m)
/-! whether an arm is tried -/
theorem chq_no {co : Nat → Nat → Nat} {f a b : Nat} (h : chp w co f a b = true) : ∀ N, b < N → chq w co f a N = false
  | 0, hb => absurd hb (Nat.not_lt_zero b)
  | N + 1, hb => by
    unfold chq
    by_cases e : b = N
    · rw [← e, h]
      exact Bool.and_false _
    · rw [chq_no h N (by omega)]
      rfl
theorem ch_lp (hw : WI w) {co : Nat → Nat → Nat} {f a : Nat} (hf : f < nn w) (ha : a < am w f) (hc : Tc 1 w g) (hco : ∀ b, b < am w f → g 190 (f * 3 + b) = nI (co f b) ∧ co f b ≤ 6001000) (H : P (some (.int (bI (chq w co f a (am w f))))) (E g q)) : ∀ (j b : Nat) (o6 o7 : Option Value), b + j = am w f → chq w co f a b = true →
    wp (ev d) P co_isCheapestTo 10 [some (.ref 184), some (.ref 2), some (.int (nI f)), some (.int (nI a)), some (.int (nI (f * 3 + a))), some (.int (nI b)), o6, o7] [] (E g q) := by
  have hN := wi_n hw
  have ha3 := am_le hw (n := f) (by omega)
  have e4 : g 4 f = nI (am w f) := (tc_am hc (by omega)).trans (wi_1 hw (by omega)).1
  have e5 : ∀ b, b < am w f → g 5 (f * 3 + b) = nI (tg w f b) := fun b hb => (tc_to hc (by omega) (by omega)).trans (wi_t hw (by omega) (by omega)).1
  have tl : ∀ b, b < am w f → tg w f b < 16 := fun b hb => by have := tg_lt hw (n := f) (by omega) hb; omega
  obtain ⟨ca1, ca2⟩ := hco a ha
  have hta := tl a ha
  have eta := e5 a ha
  intro j
  induction j with
  | zero =>
    intro b o6 o7 hb hq
    have hb : b = am w f := hb
    rw [hb] at hq
    rw [hq] at H
    rw [hb, b_co_isCheapestTo_10]
    simp -implicitDefEqProofs (disch := first | assumption | omega) only [szS_0, szS_i, szS_r, szS_l, x_cons, x_goto, ob_some, kl_i, kl_r, kl_l, kl_n, push_n, push_s, pop_0, pop_i, pop_r, Int.reduceToNat, List.length_cons, List.length_nil, Nat.reduceAdd, Nat.reduceLeDiff, Nat.zero_add, true_and, nI_n0, nat_le, Nat.add_zero, i_1, rt_co_isCheapestTo_0, rt_co_isCheapestTo_1, rt_co_isCheapestTo_b, x_al0, x_al1, x_getf, x_goto, x_iadd, x_iaload, x_iceq, x_icge, x_iclt, x_icne, x_ifeq, x_il2, x_il3, x_il4, x_il5, x_il6, x_il7, x_imul, x_inc5, x_iret, x_is4, x_is5, x_is6, x_is7, x_ldc, fd_2_0, sf_2_0, fd_2_1, fd_2_2, fd_2_3, fd_2_4, ld_4, sd_4, ln_4, e4, nI_ltE, Nat.lt_irrefl, ↓reduceIte, b_co_isCheapestTo_112]
    exact H
  | succ j ih =>
    intro b o6 o7 hb hq
    have hb' : b < am w f := by omega
    obtain ⟨cb1, cb2⟩ := hco b hb'
    have htb := tl b hb'
    have etb := e5 b hb'
    have fin : ∀ X : Nat, X ≤ 1 → (X = 1 ↔ (co f b < co f a ∨ (co f b = co f a ∧ b < a))) → wp (ev d) P co_isCheapestTo 74 [some (.ref 184), some (.ref 2), some (.int (nI f)), some (.int (nI a)), some (.int (nI (f * 3 + a))), some (.int (nI b)), some (.int (nI (f * 3 + b))), o7] [.int (nI X)] (E g q) := by
      intro X hX hX1
      have next : chp w co f a b = false → wp (ev d) P co_isCheapestTo 106 [some (.ref 184), some (.ref 2), some (.int (nI f)), some (.int (nI a)), some (.int (nI (f * 3 + a))), some (.int (nI b)), some (.int (nI (f * 3 + b))), some (.int (nI X))] [] (E g q) := by
        intro hn
        rw [b_co_isCheapestTo_106]
        simp -implicitDefEqProofs (disch := first | assumption | omega) only [szS_0, szS_i, szS_r, szS_l, x_cons, x_goto, ob_some, kl_i, kl_r, kl_l, kl_n, push_n, push_s, pop_0, pop_i, pop_r, Int.reduceToNat, List.length_cons, List.length_nil, Nat.reduceAdd, Nat.reduceLeDiff, Nat.zero_add, true_and, nI_n0, nat_le, Nat.add_zero, i_1, rt_co_isCheapestTo_0, rt_co_isCheapestTo_1, rt_co_isCheapestTo_b, x_al0, x_al1, x_getf, x_goto, x_iadd, x_iaload, x_iceq, x_icge, x_iclt, x_icne, x_ifeq, x_il2, x_il3, x_il4, x_il5, x_il6, x_il7, x_imul, x_inc5, x_iret, x_is4, x_is5, x_is6, x_is7, x_ldc, nI_add]
        refine ih (b + 1) _ _ (by omega) ?_
        show (chq w co f a b && !chp w co f a b) = true
        rw [hq, hn]
        rfl
      rw [b_co_isCheapestTo_74]
      simp -implicitDefEqProofs (disch := first | assumption | omega) only [szS_0, szS_i, szS_r, szS_l, x_cons, x_goto, ob_some, kl_i, kl_r, kl_l, kl_n, push_n, push_s, pop_0, pop_i, pop_r, Int.reduceToNat, List.length_cons, List.length_nil, Nat.reduceAdd, Nat.reduceLeDiff, Nat.zero_add, true_and, nI_n0, nat_le, Nat.add_zero, i_1, rt_co_isCheapestTo_0, rt_co_isCheapestTo_1, rt_co_isCheapestTo_b, x_al0, x_al1, x_getf, x_goto, x_iadd, x_iaload, x_iceq, x_icge, x_iclt, x_icne, x_ifeq, x_il2, x_il3, x_il4, x_il5, x_il6, x_il7, x_imul, x_inc5, x_iret, x_is4, x_is5, x_is6, x_is7, x_ldc, nI_eqE]
      by_cases h1 : b = a
      · rw [if_pos h1]
        exact next (decide_eq_false fun h => h.1 h1)
      · rw [if_neg h1]
        try simp -implicitDefEqProofs (disch := first | assumption | omega) only [szS_0, szS_i, szS_r, szS_l, x_cons, x_goto, ob_some, kl_i, kl_r, kl_l, kl_n, push_n, push_s, pop_0, pop_i, pop_r, Int.reduceToNat, List.length_cons, List.length_nil, Nat.reduceAdd, Nat.reduceLeDiff, Nat.zero_add, true_and, nI_n0, nat_le, Nat.add_zero, i_1, rt_co_isCheapestTo_0, rt_co_isCheapestTo_1, rt_co_isCheapestTo_b, x_al0, x_al1, x_getf, x_goto, x_iadd, x_iaload, x_iceq, x_icge, x_iclt, x_icne, x_ifeq, x_il2, x_il3, x_il4, x_il5, x_il6, x_il7, x_imul, x_inc5, x_iret, x_is4, x_is5, x_is6, x_is7, x_ldc, fd_2_0, sf_2_0, fd_2_1, fd_2_2, fd_2_3, fd_2_4, ld_5, sd_5, ln_5, etb, eta, nI_eqE]
        by_cases h2 : tg w f b = tg w f a
        · simp -implicitDefEqProofs (disch := first | assumption | omega) only [h2, ↓reduceIte, szS_0, szS_i, szS_r, szS_l, x_cons, x_goto, ob_some, kl_i, kl_r, kl_l, kl_n, push_n, push_s, pop_0, pop_i, pop_r, Int.reduceToNat, List.length_cons, List.length_nil, Nat.reduceAdd, Nat.reduceLeDiff, Nat.zero_add, true_and, nI_n0, nat_le, Nat.add_zero, i_1, rt_co_isCheapestTo_0, rt_co_isCheapestTo_1, rt_co_isCheapestTo_b, x_al0, x_al1, x_getf, x_goto, x_iadd, x_iaload, x_iceq, x_icge, x_iclt, x_icne, x_ifeq, x_il2, x_il3, x_il4, x_il5, x_il6, x_il7, x_imul, x_inc5, x_iret, x_is4, x_is5, x_is6, x_is7, x_ldc, nI_eqE]
          by_cases h3 : X = 0
          · rw [if_pos h3]
            exact next (decide_eq_false fun h => by have := hX1.mpr h.2.2; omega)
          · have hp : chp w co f a b = true := decide_eq_true ⟨h1, h2, hX1.mp (by omega)⟩
            rw [chq_no hp _ hb'] at H
            rw [if_neg h3]
            try simp -implicitDefEqProofs (disch := first | assumption | omega) only [szS_0, szS_i, szS_r, szS_l, x_cons, x_goto, ob_some, kl_i, kl_r, kl_l, kl_n, push_n, push_s, pop_0, pop_i, pop_r, Int.reduceToNat, List.length_cons, List.length_nil, Nat.reduceAdd, Nat.reduceLeDiff, Nat.zero_add, true_and, nI_n0, nat_le, Nat.add_zero, i_1, rt_co_isCheapestTo_0, rt_co_isCheapestTo_1, rt_co_isCheapestTo_b, x_al0, x_al1, x_getf, x_goto, x_iadd, x_iaload, x_iceq, x_icge, x_iclt, x_icne, x_ifeq, x_il2, x_il3, x_il4, x_il5, x_il6, x_il7, x_imul, x_inc5, x_iret, x_is4, x_is5, x_is6, x_is7, x_ldc]
            exact H
        · rw [if_neg h2]
          exact next (decide_eq_false fun h => h2 h.2.1)
    rw [b_co_isCheapestTo_10]
    simp -implicitDefEqProofs (disch := first | assumption | omega) only [szS_0, szS_i, szS_r, szS_l, x_cons, x_goto, ob_some, kl_i, kl_r, kl_l, kl_n, push_n, push_s, pop_0, pop_i, pop_r, Int.reduceToNat, List.length_cons, List.length_nil, Nat.reduceAdd, Nat.reduceLeDiff, Nat.zero_add, true_and, nI_n0, nat_le, Nat.add_zero, i_1, rt_co_isCheapestTo_0, rt_co_isCheapestTo_1, rt_co_isCheapestTo_b, x_al0, x_al1, x_getf, x_goto, x_iadd, x_iaload, x_iceq, x_icge, x_iclt, x_icne, x_ifeq, x_il2, x_il3, x_il4, x_il5, x_il6, x_il7, x_imul, x_inc5, x_iret, x_is4, x_is5, x_is6, x_is7, x_ldc, fd_2_0, sf_2_0, fd_2_1, fd_2_2, fd_2_3, fd_2_4, fd_184_0, fd_184_1, fd_184_2, fd_184_3, fd_184_4, fd_184_5, fd_184_6, fd_184_7, sf_184_7, fd_184_8, sf_184_8, fd_184_9, fd_184_10, fd_184_11, ld_4, sd_4, ln_4, ld_190, sd_190, ln_190, e4, nI_ltE, hb', ↓reduceIte, nI_mul, nI_add, ca1, cb1]
    by_cases h1 : co f b < co f a
    · rw [if_pos h1]
      try simp -implicitDefEqProofs (disch := first | assumption | omega) only [b_co_isCheapestTo_69, szS_0, szS_i, szS_r, szS_l, x_cons, x_goto, ob_some, kl_i, kl_r, kl_l, kl_n, push_n, push_s, pop_0, pop_i, pop_r, Int.reduceToNat, List.length_cons, List.length_nil, Nat.reduceAdd, Nat.reduceLeDiff, Nat.zero_add, true_and, nI_n0, nat_le, Nat.add_zero, i_1, rt_co_isCheapestTo_0, rt_co_isCheapestTo_1, rt_co_isCheapestTo_b, x_al0, x_al1, x_getf, x_goto, x_iadd, x_iaload, x_iceq, x_icge, x_iclt, x_icne, x_ifeq, x_il2, x_il3, x_il4, x_il5, x_il6, x_il7, x_imul, x_inc5, x_iret, x_is4, x_is5, x_is6, x_is7, x_ldc]
      exact fin 1 (Nat.le_refl _) ⟨fun _ => Or.inl h1, fun _ => rfl⟩
    · rw [if_neg h1]
      try simp -implicitDefEqProofs (disch := first | assumption | omega) only [szS_0, szS_i, szS_r, szS_l, x_cons, x_goto, ob_some, kl_i, kl_r, kl_l, kl_n, push_n, push_s, pop_0, pop_i, pop_r, Int.reduceToNat, List.length_cons, List.length_nil, Nat.reduceAdd, Nat.reduceLeDiff, Nat.zero_add, true_and, nI_n0, nat_le, Nat.add_zero, i_1, rt_co_isCheapestTo_0, rt_co_isCheapestTo_1, rt_co_isCheapestTo_b, x_al0, x_al1, x_getf, x_goto, x_iadd, x_iaload, x_iceq, x_icge, x_iclt, x_icne, x_ifeq, x_il2, x_il3, x_il4, x_il5, x_il6, x_il7, x_imul, x_inc5, x_iret, x_is4, x_is5, x_is6, x_is7, x_ldc, fd_184_0, fd_184_1, fd_184_2, fd_184_3, fd_184_4, fd_184_5, fd_184_6, fd_184_7, sf_184_7, fd_184_8, sf_184_8, fd_184_9, fd_184_10, fd_184_11, ld_190, sd_190, ln_190, ca1, cb1, nI_eqE]
      by_cases h2 : co f b = co f a
      · simp -implicitDefEqProofs (disch := first | assumption | omega) only [h2, ↓reduceIte, szS_0, szS_i, szS_r, szS_l, x_cons, x_goto, ob_some, kl_i, kl_r, kl_l, kl_n, push_n, push_s, pop_0, pop_i, pop_r, Int.reduceToNat, List.length_cons, List.length_nil, Nat.reduceAdd, Nat.reduceLeDiff, Nat.zero_add, true_and, nI_n0, nat_le, Nat.add_zero, i_1, rt_co_isCheapestTo_0, rt_co_isCheapestTo_1, rt_co_isCheapestTo_b, x_al0, x_al1, x_getf, x_goto, x_iadd, x_iaload, x_iceq, x_icge, x_iclt, x_icne, x_ifeq, x_il2, x_il3, x_il4, x_il5, x_il6, x_il7, x_imul, x_inc5, x_iret, x_is4, x_is5, x_is6, x_is7, x_ldc, nI_ltE]
        by_cases h3 : b < a
        · rw [if_pos h3]
          try simp -implicitDefEqProofs (disch := first | assumption | omega) only [b_co_isCheapestTo_69, szS_0, szS_i, szS_r, szS_l, x_cons, x_goto, ob_some, kl_i, kl_r, kl_l, kl_n, push_n, push_s, pop_0, pop_i, pop_r, Int.reduceToNat, List.length_cons, List.length_nil, Nat.reduceAdd, Nat.reduceLeDiff, Nat.zero_add, true_and, nI_n0, nat_le, Nat.add_zero, i_1, rt_co_isCheapestTo_0, rt_co_isCheapestTo_1, rt_co_isCheapestTo_b, x_al0, x_al1, x_getf, x_goto, x_iadd, x_iaload, x_iceq, x_icge, x_iclt, x_icne, x_ifeq, x_il2, x_il3, x_il4, x_il5, x_il6, x_il7, x_imul, x_inc5, x_iret, x_is4, x_is5, x_is6, x_is7, x_ldc]
          exact fin 1 (Nat.le_refl _) ⟨fun _ => Or.inr ⟨h2, h3⟩, fun _ => rfl⟩
        · rw [if_neg h3]
          try simp -implicitDefEqProofs (disch := first | assumption | omega) only [b_co_isCheapestTo_73, szS_0, szS_i, szS_r, szS_l, x_cons, x_goto, ob_some, kl_i, kl_r, kl_l, kl_n, push_n, push_s, pop_0, pop_i, pop_r, Int.reduceToNat, List.length_cons, List.length_nil, Nat.reduceAdd, Nat.reduceLeDiff, Nat.zero_add, true_and, nI_n0, nat_le, Nat.add_zero, i_1, rt_co_isCheapestTo_0, rt_co_isCheapestTo_1, rt_co_isCheapestTo_b, x_al0, x_al1, x_getf, x_goto, x_iadd, x_iaload, x_iceq, x_icge, x_iclt, x_icne, x_ifeq, x_il2, x_il3, x_il4, x_il5, x_il6, x_il7, x_imul, x_inc5, x_iret, x_is4, x_is5, x_is6, x_is7, x_ldc]
          exact fin 0 (Nat.zero_le _) ⟨fun h => absurd h Nat.zero_ne_one, fun h => by omega⟩
      · rw [if_neg h2]
        try simp -implicitDefEqProofs (disch := first | assumption | omega) only [b_co_isCheapestTo_73, szS_0, szS_i, szS_r, szS_l, x_cons, x_goto, ob_some, kl_i, kl_r, kl_l, kl_n, push_n, push_s, pop_0, pop_i, pop_r, Int.reduceToNat, List.length_cons, List.length_nil, Nat.reduceAdd, Nat.reduceLeDiff, Nat.zero_add, true_and, nI_n0, nat_le, Nat.add_zero, i_1, rt_co_isCheapestTo_0, rt_co_isCheapestTo_1, rt_co_isCheapestTo_b, x_al0, x_al1, x_getf, x_goto, x_iadd, x_iaload, x_iceq, x_icge, x_iclt, x_icne, x_ifeq, x_il2, x_il3, x_il4, x_il5, x_il6, x_il7, x_imul, x_inc5, x_iret, x_is4, x_is5, x_is6, x_is7, x_ldc]
        exact fin 0 (Nat.zero_le _) ⟨fun h => absurd h Nat.zero_ne_one, fun h => by omega⟩
theorem s_isCh (hw : WI w) {co : Nat → Nat → Nat} {f a : Nat} (hf : f < nn w) (ha : a < am w f) (hc : Tc 1 w g) (hco : ∀ b, b < am w f → g 190 (f * 3 + b) = nI (co f b) ∧ co f b ≤ 6001000) :
    callC (ev (d + 1)) co_isCheapestTo [.ref 184, .ref 2, .int (nI f), .int (nI a)] (E g q) P = P (some (.int (bI (chq w co f a (am w f))))) (E g q) := by
  refine call_eq (in_co_isCheapestTo rfl ?_)
  rw [b_co_isCheapestTo_0]
  simp -implicitDefEqProofs (disch := first | assumption | omega) only [szS_0, szS_i, szS_r, szS_l, x_cons, x_goto, ob_some, kl_i, kl_r, kl_l, kl_n, push_n, push_s, pop_0, pop_i, pop_r, Int.reduceToNat, List.length_cons, List.length_nil, Nat.reduceAdd, Nat.reduceLeDiff, Nat.zero_add, true_and, nI_n0, nat_le, Nat.add_zero, i_1, rt_co_isCheapestTo_0, rt_co_isCheapestTo_1, rt_co_isCheapestTo_b, x_al0, x_al1, x_getf, x_goto, x_iadd, x_iaload, x_iceq, x_icge, x_iclt, x_icne, x_ifeq, x_il2, x_il3, x_il4, x_il5, x_il6, x_il7, x_imul, x_inc5, x_iret, x_is4, x_is5, x_is6, x_is7, x_ldc, nI_mul, nI_add]
  exact ch_lp hw hf ha hc hco ⟨rfl, rfl⟩ (am w f) 0 none none (Nat.zero_add _) rfl
/-! the search -/
/-- the cheapest so far, as it is kept -/
def stR (g : Nat → Nat → Int32) : CND → Prop
  | none => g 184 7 = -1
  | some p => g 184 7 = nI p.1 ∧ p.1 ≤ 96032000 ∧ ∀ i, i < 16 → g 193 i = nI (p.2 i)
def frF (g g' : Nat → Nat → Int32) : Prop := ∀ b, b ≠ 184 → b ≠ 189 → b ≠ 191 → b ≠ 193 → (b < 185 ∨ 188 < b) → g' b = g b
theorem frF_t {g1 g2 g3 : Nat → Nat → Int32} (h : frF g1 g2) (h' : frF g2 g3) : frF g1 g3 := fun b b1 b2 b3 b4 b5 => by rw [h' b b1 b2 b3 b4 b5, h b b1 b2 b3 b4 b5]
/-- what is the case when a node is come to -/
def FLi (w : Nat → Int32) (V : LW) (t : Nat) (op bo : Nat → Nat) (st : CND) (g : Nat → Nat → Int32) : Prop :=
  Tc 1 w g ∧ g 184 8 = nI t ∧ (∀ f, f < nn w → fd w f 0 = 0 → g 189 f = nI (op f)) ∧ (∀ i, i < 16 → g 191 i = nI (bo i)) ∧ (∀ f a, f < nn w → fd w f 0 = 0 → a < am w f → g 190 (f * 3 + a) = nI (coF V w f a)) ∧ stR g st
def FLs (d : Nat) (q : Nat → Nat → Int64) (w : Nat → Int32) (V : LW) (t k : Nat) : Prop := ∀ (n dep s : Nat) (op bo : Nat → Nat) (st : CND) (g : Nat → Nat → Int32) (P : QT), k + dep = 17 → n < nn w → opO w op → s ≤ 6002000 * n → (∀ i, n ≤ i → bo i = 0) → FLi w V t op bo st g → (∀ g', frF g g' → FLi w V t op bo (opl st (BRs w (coF V w) t k n s op bo)) g' → P none (E g' q)) →
  callC (ev (d + k + 5)) co_follow [.ref 184, .ref 1, .int (nI n), .int (nI s), .int (nI dep)] (E g q) P
theorem opl_p {p : Nat × (Nat → Nat)} {y : CND} (h : ∀ r, y = some r → p.1 ≤ r.1) : opl (some p) y = some p := by
  cases y with
  | none => rfl
  | some r =>
    have := h r rfl
    exact if_neg (by omega)
theorem opl_l {p : Nat × (Nat → Nat)} {st : CND} (h : ∀ r, st = some r → p.1 < r.1) : opl st (some p) = some p := by
  cases st with
  | none => rfl
  | some r => exact if_pos (h r rfl)
/-- a town is kept when it is wet -/
theorem s_keepIfWet (hw : WI w) {t s : Nat} {op bo : Nat → Nat} {st : CND} (ht : t < nn w) (hs : fd w t 0 = 1) (ho : opO w op) (hsl : s ≤ 96032000) (hF : FLi w V t op bo st g) (hst : ∀ p, st = some p → s < p.1) (H : ∀ g', frF g g' → FLi w V t op bo (opl st (if wetQ w t op = true then some (s, bo) else none)) g' → P none (E g' q)) : callC (ev (d + 4)) co_keepIfWet [.ref 184, .ref 1, .int (nI s)] (E g q) P := by
  obtain ⟨hc, h8, h9, h1, h0, h7⟩ := hF
  have hN := wi_n hw
  have hwl := wtS_l (w := w) (op := op) (fl := vN w 6) hN.2.1
  have e6 : g 8 0 = nI (vN w 6) := hc.1.2.2.2.2.1.trans (wi_6 hw).1
  refine in_co_keepIfWet rfl ?_
  rw [b_co_keepIfWet_0]
  simp -implicitDefEqProofs (disch := first | assumption | omega) only [szS_0, szS_i, szS_r, szS_l, x_cons, x_goto, ob_some, kl_i, kl_r, kl_l, kl_n, push_n, push_s, pop_0, pop_i, pop_r, Int.reduceToNat, List.length_cons, List.length_nil, Nat.reduceAdd, Nat.reduceLeDiff, Nat.zero_add, true_and, nI_n0, nat_le, Nat.add_zero, rt_co_keepIfWet, x_al0, x_al1, x_call, x_getf, x_iaload, x_ifeq, x_il2, x_ldc, x_putf, x_vret, fd_184_0, fd_184_1, fd_184_2, fd_184_3, fd_184_4, fd_184_5, fd_184_6, fd_184_7, sf_184_7, fd_184_8, sf_184_8, fd_184_9, fd_184_10, fd_184_11, fd_1_0, fd_1_1, fd_1_2, fd_1_3, fd_1_4, fd_7_0, sf_7_0, fd_7_1, sf_7_1, fd_7_2, sf_7_2, fd_7_3, sf_7_3, fd_7_4, sf_7_4, fd_7_5, fd_7_6, fd_7_7, fd_7_8, fd_7_9, fd_7_10, ld_8, sd_8, ln_8, e6]
  refine s_waRun (t := 1) (x := 185) (by decide) (by decide) hw hc (op := op) (o := 189) rfl (by decide) (by decide) h9 ho (fl6 hw) fun g1 f1 W1 => ?_
  have ht16 : t < 32 := by omega
  have e8 : g1 184 8 = nI t := by rw [f1 184 (by decide) (by decide) (by decide) (by decide)]; exact h8
  have er : g1 185 3 = nI (wtS w op (vN w 6) (nn w)) := W1.2.2.2.1
  have eb : (wtS w op (vN w 6) (nn w)).testBit t = wetQ w t op := wtS_t ht hs
  have fr1 : frF g g1 := fun b b1 b2 b3 b4 b5 => f1 b (by omega) (by omega) (by omega) (by omega)
  simp -implicitDefEqProofs (disch := first | assumption | omega) only [szS_0, szS_i, szS_r, szS_l, x_cons, x_goto, ob_some, kl_i, kl_r, kl_l, kl_n, push_n, push_s, pop_0, pop_i, pop_r, Int.reduceToNat, List.length_cons, List.length_nil, Nat.reduceAdd, Nat.reduceLeDiff, Nat.zero_add, true_and, nI_n0, nat_le, Nat.add_zero, rt_co_keepIfWet, x_al0, x_al1, x_call, x_getf, x_iaload, x_ifeq, x_il2, x_ldc, x_putf, x_vret, fd_184_0, fd_184_1, fd_184_2, fd_184_3, fd_184_4, fd_184_5, fd_184_6, fd_184_7, sf_184_7, fd_184_8, sf_184_8, fd_184_9, fd_184_10, fd_184_11, fd_185_0, fd_185_1, fd_185_2, fd_185_3, sf_185_3, fd_185_4, sf_185_4, e8, er]
  rw [s_holds ht16 (by omega), eb]
  simp -implicitDefEqProofs (disch := first | assumption | omega) only [szS_0, szS_i, szS_r, szS_l, x_cons, x_goto, ob_some, kl_i, kl_r, kl_l, kl_n, push_n, push_s, pop_0, pop_i, pop_r, Int.reduceToNat, List.length_cons, List.length_nil, Nat.reduceAdd, Nat.reduceLeDiff, Nat.zero_add, true_and, nI_n0, nat_le, Nat.add_zero, rt_co_keepIfWet, x_al0, x_al1, x_call, x_getf, x_iaload, x_ifeq, x_il2, x_ldc, x_putf, x_vret, bI_0]
  have hc1 : Tc 1 w g1 := Tc_c hc fun a a1 a2 => f1 a (by omega) (by omega) (by omega) (by omega)
  cases hq : wetQ w t op
  · rw [hq, if_neg Bool.false_ne_true, opl_n] at H
    simp -implicitDefEqProofs (disch := first | assumption | omega) only [↓reduceIte, b_co_keepIfWet_65, szS_0, szS_i, szS_r, szS_l, x_cons, x_goto, ob_some, kl_i, kl_r, kl_l, kl_n, push_n, push_s, pop_0, pop_i, pop_r, Int.reduceToNat, List.length_cons, List.length_nil, Nat.reduceAdd, Nat.reduceLeDiff, Nat.zero_add, true_and, nI_n0, nat_le, Nat.add_zero, rt_co_keepIfWet, x_al0, x_al1, x_call, x_getf, x_iaload, x_ifeq, x_il2, x_ldc, x_putf, x_vret]
    refine H g1 fr1 ⟨hc1, e8, fun f hf hs => ?_, fun i hi => ?_, fun f a hf hs ha => ?_, ?_⟩
    · rw [f1 189 (by decide) (by decide) (by decide) (by decide)]
      exact h9 f hf hs
    · rw [f1 191 (by decide) (by decide) (by decide) (by decide)]
      exact h1 i hi
    · rw [f1 190 (by decide) (by decide) (by decide) (by decide)]
      exact h0 f a hf hs ha
    · unfold stR at h7 ⊢
      rw [f1 184 (by decide) (by decide) (by decide) (by decide), f1 193 (by decide) (by decide) (by decide) (by decide)]
      exact h7
  · rw [hq, if_pos rfl, opl_l hst] at H
    simp -implicitDefEqProofs (disch := first | assumption | omega) only [Bool.true_eq_false, ↓reduceIte, szS_0, szS_i, szS_r, szS_l, x_cons, x_goto, ob_some, kl_i, kl_r, kl_l, kl_n, push_n, push_s, pop_0, pop_i, pop_r, Int.reduceToNat, List.length_cons, List.length_nil, Nat.reduceAdd, Nat.reduceLeDiff, Nat.zero_add, true_and, nI_n0, nat_le, Nat.add_zero, rt_co_keepIfWet, x_al0, x_al1, x_call, x_getf, x_iaload, x_ifeq, x_il2, x_ldc, x_putf, x_vret, fd_184_0, fd_184_1, fd_184_2, fd_184_3, fd_184_4, fd_184_5, fd_184_6, fd_184_7, sf_184_7, fd_184_8, sf_184_8, fd_184_9, fd_184_10, fd_184_11, pu_g, upw_w, upw_s, pu_s]
    refine s_cp (na := 16) (nb := 16) rfl rfl (by decide) (by decide) (by decide) (by decide) (by decide) fun r hr => ?_
    simp -implicitDefEqProofs (disch := first | assumption | omega) only [szS_0, szS_i, szS_r, szS_l, x_cons, x_goto, ob_some, kl_i, kl_r, kl_l, kl_n, push_n, push_s, pop_0, pop_i, pop_r, Int.reduceToNat, List.length_cons, List.length_nil, Nat.reduceAdd, Nat.reduceLeDiff, Nat.zero_add, true_and, nI_n0, nat_le, Nat.add_zero, rt_co_keepIfWet, x_al0, x_al1, x_call, x_getf, x_iaload, x_ifeq, x_il2, x_ldc, x_putf, x_vret, b_co_keepIfWet_65]
    refine H _ (fun b b1 b2 b3 b4 b5 => by rw [upw_o b4, upw_o b1]; exact fr1 b b1 b2 b3 b4 b5) ⟨Tc_c hc1 fun a a1 a2 => by rw [upw_o (by omega), upw_o (by omega)], by rw [upw_o (by decide), upw_s, pu_n (by decide)]; exact e8, fun f hf hs => ?_, fun i hi => ?_, fun f a hf hs ha => ?_, ?_, hsl, fun i hi => ?_⟩
    · rw [upw_o (by decide), upw_o (by decide), f1 189 (by decide) (by decide) (by decide) (by decide)]
      exact h9 f hf hs
    · rw [upw_o (by decide), upw_o (by decide), f1 191 (by decide) (by decide) (by decide) (by decide)]
      exact h1 i hi
    · rw [upw_o (by decide), upw_o (by decide), f1 190 (by decide) (by decide) (by decide) (by decide)]
      exact h0 f a hf hs ha
    · rw [upw_o (by decide), upw_s, pu_s]
    · rw [upw_s, hr, if_pos hi, upw_o (by decide), f1 191 (by decide) (by decide) (by decide) (by decide)]
      exact h1 i hi
theorem BRs_s {w : Nat → Int32} {co : Nat → Nat → Nat} {t k n s : Nat} {op bo : Nat → Nat} : BRs w co t (k + 1) n s op bo = if n = t then (if wetQ w t op = true then some (s, bo) else none)
    else if t < n ∨ fd w n 0 = 2 then none
    else if fd w n 0 = 1 then BRs w co t k (tg w n 0) s op bo
    else foB (fun a => BRs w co t k (tg w n a) (s + co n a) (up1 op n (2 ^ a)) (up1 bo n (co n a))) (am w n) := rfl
/-- where a way goes on -/
theorem far_on (hw : WI w) {n t : Nat} (hn : n < nn w) (hnt : n ≠ t) (hf : far w n t ≠ 99) : ¬ (t < n ∨ fd w n 0 = 2) := by
  have hN := wi_n hw
  rintro (h | h)
  · exact hf (far_no hw hn (Or.inl h))
  · obtain ⟨k, hk⟩ := (far_iff hw (by omega)).mp hf
    have ha : fd w n 1 = 0 := (((wi_f hw (n := n) (by omega)).2.2.2.1 hn).2.2 h)
    cases k with
    | zero => exact hnt hk
    | succ k =>
      obtain ⟨a, h1, -⟩ := hk
      have h1 : a < fd w n 1 := h1
      omega
theorem s_follow (hw : WI w) {t : Nat} (ht : t < nn w) (hst : fd w t 0 = 1) : ∀ k, FLs d q w V t k
  | 0 => fun n dep s op bo st g P hk hn ho hs hb hF H => by
    refine in_co_follow rfl ?_
    have l1 : 16 < dep := by omega
    have e : BRs w (coF V w) t 0 n s op bo = none := rfl
    rw [e, opl_n] at H
    rw [b_co_follow_0]
    simp -implicitDefEqProofs (disch := first | assumption | omega) only [szS_0, szS_i, szS_r, szS_l, x_cons, x_goto, ob_some, kl_i, kl_r, kl_l, kl_n, push_n, push_s, pop_0, pop_i, pop_r, Int.reduceToNat, List.length_cons, List.length_nil, Nat.reduceAdd, Nat.reduceLeDiff, Nat.zero_add, true_and, nI_n0, nat_le, Nat.add_zero, i_1, rt_co_follow, x_al0, x_al1, x_call, x_getf, x_goto, x_iadd, x_iaload, x_iastore, x_iceq, x_icge, x_icgt, x_iclt, x_icne, x_ifeq, x_il2, x_il3, x_il4, x_il5, x_il6, x_il7, x_imul, x_inc6, x_is5, x_is6, x_is7, x_ishl, x_ldc, x_m1, x_vret, nI_ltE, l1, ↓reduceIte, b_co_follow_23]
    exact H g (fun _ _ _ _ _ _ => rfl) hF
  | k + 1 => fun n dep s op bo st g P hk hn ho hs hb hF H => by
    refine in_co_follow rfl ?_
    rw [show d + (k + 1) + 4 = d + k + 5 by omega]
    have hN := wi_n hw
    have hn16 : n < 16 := by omega
    have l1 : ¬ 16 < dep := by omega
    have hF' := hF
    obtain ⟨hc, h8, h9, h1, h0, h7⟩ := hF
    have rfr : frF g g := fun _ _ _ _ _ _ => rfl
    have go : (∀ p, st = some p → s < p.1) → wp (ev (d + k + 5)) P co_follow 24 [some (.ref 184), some (.ref 1), some (.int (nI n)), some (.int (nI s)), some (.int (nI dep)), none, none, none] [] (E g q) := by
      intro hlt
      rw [b_co_follow_24]
      simp -implicitDefEqProofs (disch := first | assumption | omega) only [szS_0, szS_i, szS_r, szS_l, x_cons, x_goto, ob_some, kl_i, kl_r, kl_l, kl_n, push_n, push_s, pop_0, pop_i, pop_r, Int.reduceToNat, List.length_cons, List.length_nil, Nat.reduceAdd, Nat.reduceLeDiff, Nat.zero_add, true_and, nI_n0, nat_le, Nat.add_zero, i_1, rt_co_follow, x_al0, x_al1, x_call, x_getf, x_goto, x_iadd, x_iaload, x_iastore, x_iceq, x_icge, x_icgt, x_iclt, x_icne, x_ifeq, x_il2, x_il3, x_il4, x_il5, x_il6, x_il7, x_imul, x_inc6, x_is5, x_is6, x_is7, x_ishl, x_ldc, x_m1, x_vret, fd_184_0, fd_184_1, fd_184_2, fd_184_3, fd_184_4, fd_184_5, fd_184_6, fd_184_7, sf_184_7, fd_184_8, sf_184_8, fd_184_9, fd_184_10, fd_184_11, h8, nI_eqE]
      by_cases hnt : n = t
      · rw [if_pos hnt]
        try simp -implicitDefEqProofs (disch := first | assumption | omega) only [szS_0, szS_i, szS_r, szS_l, x_cons, x_goto, ob_some, kl_i, kl_r, kl_l, kl_n, push_n, push_s, pop_0, pop_i, pop_r, Int.reduceToNat, List.length_cons, List.length_nil, Nat.reduceAdd, Nat.reduceLeDiff, Nat.zero_add, true_and, nI_n0, nat_le, Nat.add_zero, i_1, rt_co_follow, x_al0, x_al1, x_call, x_getf, x_goto, x_iadd, x_iaload, x_iastore, x_iceq, x_icge, x_icgt, x_iclt, x_icne, x_ifeq, x_il2, x_il3, x_il4, x_il5, x_il6, x_il7, x_imul, x_inc6, x_is5, x_is6, x_is7, x_ishl, x_ldc, x_m1, x_vret]
        rw [BRs_s, if_pos hnt] at H
        refine s_keepIfWet (d := d + k + 1) (t := t) hw ht hst ho (by omega) hF' hlt fun g1 f1 F1 => ?_
        simp -implicitDefEqProofs (disch := first | assumption | omega) only [szS_0, szS_i, szS_r, szS_l, x_cons, x_goto, ob_some, kl_i, kl_r, kl_l, kl_n, push_n, push_s, pop_0, pop_i, pop_r, Int.reduceToNat, List.length_cons, List.length_nil, Nat.reduceAdd, Nat.reduceLeDiff, Nat.zero_add, true_and, nI_n0, nat_le, Nat.add_zero, i_1, rt_co_follow, x_al0, x_al1, x_call, x_getf, x_goto, x_iadd, x_iaload, x_iastore, x_iceq, x_icge, x_icgt, x_iclt, x_icne, x_ifeq, x_il2, x_il3, x_il4, x_il5, x_il6, x_il7, x_imul, x_inc6, x_is5, x_is6, x_is7, x_ishl, x_ldc, x_m1, x_vret]
        exact H g1 f1 F1
      · have hfb := far_b hw (s := n) (m := t) hn16
        have e6 : g 6 (n * 16 + t) = nN (far w n t) := tc_fa hc hn (by omega)
        rw [if_neg hnt, b_co_follow_39]
        simp -implicitDefEqProofs (disch := first | assumption | omega) only [szS_0, szS_i, szS_r, szS_l, x_cons, x_goto, ob_some, kl_i, kl_r, kl_l, kl_n, push_n, push_s, pop_0, pop_i, pop_r, Int.reduceToNat, List.length_cons, List.length_nil, Nat.reduceAdd, Nat.reduceLeDiff, Nat.zero_add, true_and, nI_n0, nat_le, Nat.add_zero, i_1, rt_co_follow, x_al0, x_al1, x_call, x_getf, x_goto, x_iadd, x_iaload, x_iastore, x_iceq, x_icge, x_icgt, x_iclt, x_icne, x_ifeq, x_il2, x_il3, x_il4, x_il5, x_il6, x_il7, x_imul, x_inc6, x_is5, x_is6, x_is7, x_ishl, x_ldc, x_m1, x_vret, fd_1_0, fd_1_1, fd_1_2, fd_1_3, fd_1_4, fd_2_0, sf_2_0, fd_2_1, fd_2_2, fd_2_3, fd_2_4, fd_184_0, fd_184_1, fd_184_2, fd_184_3, fd_184_4, fd_184_5, fd_184_6, fd_184_7, sf_184_7, fd_184_8, sf_184_8, fd_184_9, fd_184_10, fd_184_11, ld_6, sd_6, ln_6, h8, nI_mul, nI_add, e6, nN_1]
        by_cases hf : far w n t = 99
        · have e : BRs w (coF V w) t (k + 1) n s op bo = none := BRs_no hw _ _ _ _ _ hn hf
          rw [e, opl_n] at H
          rw [if_pos hf]
          try simp -implicitDefEqProofs (disch := first | assumption | omega) only [szS_0, szS_i, szS_r, szS_l, x_cons, x_goto, ob_some, kl_i, kl_r, kl_l, kl_n, push_n, push_s, pop_0, pop_i, pop_r, Int.reduceToNat, List.length_cons, List.length_nil, Nat.reduceAdd, Nat.reduceLeDiff, Nat.zero_add, true_and, nI_n0, nat_le, Nat.add_zero, i_1, rt_co_follow, x_al0, x_al1, x_call, x_getf, x_goto, x_iadd, x_iaload, x_iastore, x_iceq, x_icge, x_icgt, x_iclt, x_icne, x_ifeq, x_il2, x_il3, x_il4, x_il5, x_il6, x_il7, x_imul, x_inc6, x_is5, x_is6, x_is7, x_ishl, x_ldc, x_m1, x_vret]
          exact H g rfr hF'
        · have hon := far_on hw hn hnt hf
          have hz := wi_0 hw hn16
          have e2 : g 3 n = nI (fd w n 0) := (tc_so hc hn16).trans hz.1
          have ha3 := am_le hw hn16
          rw [BRs_s, if_neg hnt, if_neg hon] at H
          rw [if_neg hf, b_co_follow_61]
          simp -implicitDefEqProofs (disch := first | assumption | omega) only [szS_0, szS_i, szS_r, szS_l, x_cons, x_goto, ob_some, kl_i, kl_r, kl_l, kl_n, push_n, push_s, pop_0, pop_i, pop_r, Int.reduceToNat, List.length_cons, List.length_nil, Nat.reduceAdd, Nat.reduceLeDiff, Nat.zero_add, true_and, nI_n0, nat_le, Nat.add_zero, i_1, rt_co_follow, x_al0, x_al1, x_call, x_getf, x_goto, x_iadd, x_iaload, x_iastore, x_iceq, x_icge, x_icgt, x_iclt, x_icne, x_ifeq, x_il2, x_il3, x_il4, x_il5, x_il6, x_il7, x_imul, x_inc6, x_is5, x_is6, x_is7, x_ishl, x_ldc, x_m1, x_vret, fd_1_0, fd_1_1, fd_1_2, fd_1_3, fd_1_4, fd_2_0, sf_2_0, fd_2_1, fd_2_2, fd_2_3, fd_2_4, ld_3, sd_3, ln_3, e2, nI_eqE]
          by_cases hT : fd w n 0 = 1
          · have h11 := wi_T hw hn hT
            have htl := tg_lt hw (n := n) (a := 0) hn16 (by omega)
            have e5 : g 5 (n * 3) = nI (tg w n 0) := (tc_to hc hn16 (a := 0) (by omega)).trans (wi_t hw hn16 (by omega)).1
            rw [if_pos hT] at H
            rw [if_pos hT]
            try simp -implicitDefEqProofs (disch := first | assumption | omega) only [szS_0, szS_i, szS_r, szS_l, x_cons, x_goto, ob_some, kl_i, kl_r, kl_l, kl_n, push_n, push_s, pop_0, pop_i, pop_r, Int.reduceToNat, List.length_cons, List.length_nil, Nat.reduceAdd, Nat.reduceLeDiff, Nat.zero_add, true_and, nI_n0, nat_le, Nat.add_zero, i_1, rt_co_follow, x_al0, x_al1, x_call, x_getf, x_goto, x_iadd, x_iaload, x_iastore, x_iceq, x_icge, x_icgt, x_iclt, x_icne, x_ifeq, x_il2, x_il3, x_il4, x_il5, x_il6, x_il7, x_imul, x_inc6, x_is5, x_is6, x_is7, x_ishl, x_ldc, x_m1, x_vret, fd_1_0, fd_1_1, fd_1_2, fd_1_3, fd_1_4, fd_2_0, sf_2_0, fd_2_1, fd_2_2, fd_2_3, fd_2_4, ld_5, sd_5, ln_5, nI_mul, e5, nI_add]
            refine s_follow hw ht hst k (tg w n 0) (dep + 1) s op bo st g _ (by omega) htl.2 ho (by omega) (fun i hi => hb i (by omega)) hF' fun g1 f1 F1 => ?_
            simp -implicitDefEqProofs (disch := first | assumption | omega) only [szS_0, szS_i, szS_r, szS_l, x_cons, x_goto, ob_some, kl_i, kl_r, kl_l, kl_n, push_n, push_s, pop_0, pop_i, pop_r, Int.reduceToNat, List.length_cons, List.length_nil, Nat.reduceAdd, Nat.reduceLeDiff, Nat.zero_add, true_and, nI_n0, nat_le, Nat.add_zero, i_1, rt_co_follow, x_al0, x_al1, x_call, x_getf, x_goto, x_iadd, x_iaload, x_iastore, x_iceq, x_icge, x_icgt, x_iclt, x_icne, x_ifeq, x_il2, x_il3, x_il4, x_il5, x_il6, x_il7, x_imul, x_inc6, x_is5, x_is6, x_is7, x_ishl, x_ldc, x_m1, x_vret]
            exact H g1 f1 F1
          · have hs0 : fd w n 0 = 0 := by omega
            have e9 := h9 n hn hs0
            rw [if_neg hT, ← BRs_ch hw hn hs0] at H
            obtain ⟨F, hFe⟩ : ∃ F : Nat → CND, F = fun a => if chq w (coF V w) n a (am w n) = true then BRs w (coF V w) t k (tg w n a) (s + coF V w n a) (up1 op n (2 ^ a)) (up1 bo n (coF V w n a)) else none := ⟨_, rfl⟩
            rw [← hFe] at H
            rw [if_neg hT, b_co_follow_96]
            simp -implicitDefEqProofs (disch := first | assumption | omega) only [szS_0, szS_i, szS_r, szS_l, x_cons, x_goto, ob_some, kl_i, kl_r, kl_l, kl_n, push_n, push_s, pop_0, pop_i, pop_r, Int.reduceToNat, List.length_cons, List.length_nil, Nat.reduceAdd, Nat.reduceLeDiff, Nat.zero_add, true_and, nI_n0, nat_le, Nat.add_zero, i_1, rt_co_follow, x_al0, x_al1, x_call, x_getf, x_goto, x_iadd, x_iaload, x_iastore, x_iceq, x_icge, x_icgt, x_iclt, x_icne, x_ifeq, x_il2, x_il3, x_il4, x_il5, x_il6, x_il7, x_imul, x_inc6, x_is5, x_is6, x_is7, x_ishl, x_ldc, x_m1, x_vret, fd_184_0, fd_184_1, fd_184_2, fd_184_3, fd_184_4, fd_184_5, fd_184_6, fd_184_7, sf_184_7, fd_184_8, sf_184_8, fd_184_9, fd_184_10, fd_184_11, ld_189, sd_189, ln_189, e9]
            have arm : ∀ (j a : Nat) (g1 : Nat → Nat → Int32) (o7 : Option Value), a + j = am w n → frF g g1 → g1 184 8 = nI t → (∀ f, f < nn w → f ≠ n → fd w f 0 = 0 → g1 189 f = nI (op f)) → (∀ i, i < 16 → i ≠ n → g1 191 i = nI (bo i)) → stR g1 (opl st (foB F a)) →
                wp (ev (d + k + 5)) P co_follow 107 [some (.ref 184), some (.ref 1), some (.int (nI n)), some (.int (nI s)), some (.int (nI dep)), some (.int (nI (op n))), some (.int (nI a)), o7] [] (E g1 q) := by
              intro j
              induction j with
              | zero =>
                intro a g1 o7 ha f1 k8 k9 k1 k7
                have ha : a = am w n := ha
                have c1 : Tc 1 w g1 := Tc_c hc fun b b1 b2 => f1 b (by omega) (by omega) (by omega) (by omega) (by omega)
                have e4 : g1 4 n = nI (am w n) := (tc_am c1 hn16).trans (wi_1 hw hn16).1
                subst ha
                rw [b_co_follow_107]
                simp -implicitDefEqProofs (disch := first | assumption | omega) only [szS_0, szS_i, szS_r, szS_l, x_cons, x_goto, ob_some, kl_i, kl_r, kl_l, kl_n, push_n, push_s, pop_0, pop_i, pop_r, Int.reduceToNat, List.length_cons, List.length_nil, Nat.reduceAdd, Nat.reduceLeDiff, Nat.zero_add, true_and, nI_n0, nat_le, Nat.add_zero, i_1, rt_co_follow, x_al0, x_al1, x_call, x_getf, x_goto, x_iadd, x_iaload, x_iastore, x_iceq, x_icge, x_icgt, x_iclt, x_icne, x_ifeq, x_il2, x_il3, x_il4, x_il5, x_il6, x_il7, x_imul, x_inc6, x_is5, x_is6, x_is7, x_ishl, x_ldc, x_m1, x_vret, fd_1_0, fd_1_1, fd_1_2, fd_1_3, fd_1_4, fd_2_0, sf_2_0, fd_2_1, fd_2_2, fd_2_3, fd_2_4, ld_4, sd_4, ln_4, e4, nI_ltE, Nat.lt_irrefl, ↓reduceIte, b_co_follow_200, fd_184_0, fd_184_1, fd_184_2, fd_184_3, fd_184_4, fd_184_5, fd_184_6, fd_184_7, sf_184_7, fd_184_8, sf_184_8, fd_184_9, fd_184_10, fd_184_11, ld_189, sd_189, ln_189, ld_191, sd_191, ln_191, pu_g, upw_s, upw_w, upw_o, pu_s]
                refine H _ (fun b b1 b2 b3 b4 b5 => by rw [upw_o b3, upw_o b2]; exact f1 b b1 b2 b3 b4 b5) ⟨Tc_c c1 fun b b1 b2 => by rw [upw_o (by omega), upw_o (by omega)], by rw [upw_o (by decide), upw_o (by decide)]; exact k8, fun f hf hfs => ?_, fun i hi => ?_, fun f a hf hfs hfa => ?_, ?_⟩
                · rw [upw_o (by decide), upw_s]
                  by_cases e : f = n
                  · rw [e, pu_s]
                  · rw [pu_n e]
                    exact k9 f hf e hfs
                · rw [upw_s]
                  by_cases e : i = n
                  · rw [e, pu_s, hb n (Nat.le_refl _)]
                  · rw [pu_n e]
                    exact k1 i hi e
                · rw [upw_o (by decide), upw_o (by decide), f1 190 (by decide) (by decide) (by decide) (by decide) (by decide)]
                  exact h0 f a hf hfs hfa
                · unfold stR at k7 ⊢
                  rw [upw_o (by decide), upw_o (by decide), upw_o (by decide), upw_o (by decide)]
                  exact k7
              | succ j ih =>
                intro a g1 o7 ha f1 k8 k9 k1 k7
                have ha' : a < am w n := by omega
                have c1 : Tc 1 w g1 := Tc_c hc fun b b1 b2 => f1 b (by omega) (by omega) (by omega) (by omega) (by omega)
                have e4 : g1 4 n = nI (am w n) := (tc_am c1 hn16).trans (wi_1 hw hn16).1
                have k0 : ∀ f a, f < nn w → fd w f 0 = 0 → a < am w f → g1 190 (f * 3 + a) = nI (coF V w f a) := fun f a hf hfs hfa => by
                  rw [f1 190 (by decide) (by decide) (by decide) (by decide) (by decide)]
                  exact h0 f a hf hfs hfa
                have ep := k0 n a hn hs0 ha'
                have e5 : g1 5 (n * 3 + a) = nI (tg w n a) := (tc_to c1 hn16 (by omega)).trans (wi_t hw hn16 (by omega)).1
                have htl := tg_lt hw (n := n) (a := a) hn16 ha'
                have hcl := coF_l (V := V) hw (f := n) (a := a) hn16
                have hp8 : (2 : Nat) ^ a ≤ 2 ^ 3 := Nat.pow_le_pow_right (by decide) (by omega)
                have eFo : foB F (a + 1) = opl (foB F a) (F a) := rfl
                rw [b_co_follow_107]
                simp -implicitDefEqProofs (disch := first | assumption | omega) only [szS_0, szS_i, szS_r, szS_l, x_cons, x_goto, ob_some, kl_i, kl_r, kl_l, kl_n, push_n, push_s, pop_0, pop_i, pop_r, Int.reduceToNat, List.length_cons, List.length_nil, Nat.reduceAdd, Nat.reduceLeDiff, Nat.zero_add, true_and, nI_n0, nat_le, Nat.add_zero, i_1, rt_co_follow, x_al0, x_al1, x_call, x_getf, x_goto, x_iadd, x_iaload, x_iastore, x_iceq, x_icge, x_icgt, x_iclt, x_icne, x_ifeq, x_il2, x_il3, x_il4, x_il5, x_il6, x_il7, x_imul, x_inc6, x_is5, x_is6, x_is7, x_ishl, x_ldc, x_m1, x_vret, fd_1_0, fd_1_1, fd_1_2, fd_1_3, fd_1_4, fd_2_0, sf_2_0, fd_2_1, fd_2_2, fd_2_3, fd_2_4, ld_4, sd_4, ln_4, e4, nI_ltE, ha', ↓reduceIte, nI_mul, nI_add]
                rw [s_isCh (co := coF V w) hw hn ha' c1 fun b hb => ⟨k0 n b hn hs0 hb, coF_l hw hn16⟩]
                simp -implicitDefEqProofs (disch := first | assumption | omega) only [szS_0, szS_i, szS_r, szS_l, x_cons, x_goto, ob_some, kl_i, kl_r, kl_l, kl_n, push_n, push_s, pop_0, pop_i, pop_r, Int.reduceToNat, List.length_cons, List.length_nil, Nat.reduceAdd, Nat.reduceLeDiff, Nat.zero_add, true_and, nI_n0, nat_le, Nat.add_zero, i_1, rt_co_follow, x_al0, x_al1, x_call, x_getf, x_goto, x_iadd, x_iaload, x_iastore, x_iceq, x_icge, x_icgt, x_iclt, x_icne, x_ifeq, x_il2, x_il3, x_il4, x_il5, x_il6, x_il7, x_imul, x_inc6, x_is5, x_is6, x_is7, x_ishl, x_ldc, x_m1, x_vret, bI_0]
                cases hq : chq w (coF V w) n a (am w n)
                · have eF : F a = none := by rw [hFe]; exact if_neg (by rw [hq]; exact Bool.false_ne_true)
                  rw [eF, opl_n] at eFo
                  simp -implicitDefEqProofs (disch := first | assumption | omega) only [↓reduceIte, b_co_follow_194, szS_0, szS_i, szS_r, szS_l, x_cons, x_goto, ob_some, kl_i, kl_r, kl_l, kl_n, push_n, push_s, pop_0, pop_i, pop_r, Int.reduceToNat, List.length_cons, List.length_nil, Nat.reduceAdd, Nat.reduceLeDiff, Nat.zero_add, true_and, nI_n0, nat_le, Nat.add_zero, i_1, rt_co_follow, x_al0, x_al1, x_call, x_getf, x_goto, x_iadd, x_iaload, x_iastore, x_iceq, x_icge, x_icgt, x_iclt, x_icne, x_ifeq, x_il2, x_il3, x_il4, x_il5, x_il6, x_il7, x_imul, x_inc6, x_is5, x_is6, x_is7, x_ishl, x_ldc, x_m1, x_vret, nI_add]
                  exact ih (a + 1) g1 _ (by omega) f1 k8 k9 k1 (by rw [eFo]; exact k7)
                · have eF : F a = BRs w (coF V w) t k (tg w n a) (s + coF V w n a) (up1 op n (2 ^ a)) (up1 bo n (coF V w n a)) := by rw [hFe]; exact if_pos hq
                  simp -implicitDefEqProofs (disch := first | assumption | omega) only [Bool.true_eq_false, ↓reduceIte, szS_0, szS_i, szS_r, szS_l, x_cons, x_goto, ob_some, kl_i, kl_r, kl_l, kl_n, push_n, push_s, pop_0, pop_i, pop_r, Int.reduceToNat, List.length_cons, List.length_nil, Nat.reduceAdd, Nat.reduceLeDiff, Nat.zero_add, true_and, nI_n0, nat_le, Nat.add_zero, i_1, rt_co_follow, x_al0, x_al1, x_call, x_getf, x_goto, x_iadd, x_iaload, x_iastore, x_iceq, x_icge, x_icgt, x_iclt, x_icne, x_ifeq, x_il2, x_il3, x_il4, x_il5, x_il6, x_il7, x_imul, x_inc6, x_is5, x_is6, x_is7, x_ishl, x_ldc, x_m1, x_vret, fd_184_0, fd_184_1, fd_184_2, fd_184_3, fd_184_4, fd_184_5, fd_184_6, fd_184_7, sf_184_7, fd_184_8, sf_184_8, fd_184_9, fd_184_10, fd_184_11, fd_1_0, fd_1_1, fd_1_2, fd_1_3, fd_1_4, fd_2_0, sf_2_0, fd_2_1, fd_2_2, fd_2_3, fd_2_4, ld_5, sd_5, ln_5, ld_189, sd_189, ln_189, ld_190, sd_190, ln_190, ld_191, sd_191, ln_191, pu_g, upw_s, upw_w, upw_o, pu_s, nI_shl1, nI_add, ep, e5]
                  refine s_follow hw ht hst k (tg w n a) (dep + 1) (s + coF V w n a) (up1 op n (2 ^ a)) (up1 bo n (coF V w n a)) (opl st (foB F a)) _ _ (by omega) htl.2 (fun f hf hfs => ?_) (by omega) (fun i hi => by rw [up1_n (by omega)]; exact hb i (by omega)) ⟨Tc_c c1 fun b b1 b2 => by rw [upw_o (by omega), upw_o (by omega)], by rw [upw_o (by decide), upw_o (by decide)]; exact k8, fun f hf hfs => ?_, fun i hi => ?_, fun f a hf hfs hfa => by rw [upw_o (by decide), upw_o (by decide)]; exact k0 f a hf hfs hfa, ?_⟩ fun g2 f2 F2 => ?_
                  · by_cases e : f = n
                    · rw [e, up1_s]
                      exact ⟨Nat.two_pow_pos a, Nat.pow_lt_pow_right (by decide) ha'⟩
                    · rw [up1_n e]
                      exact ho f hf hfs
                  · rw [upw_o (by decide), upw_s]
                    by_cases e : f = n
                    · rw [e, pu_s, up1_s]
                    · rw [pu_n e, up1_n e]
                      exact k9 f hf e hfs
                  · rw [upw_s]
                    by_cases e : i = n
                    · rw [e, pu_s, up1_s]
                    · rw [pu_n e, up1_n e]
                      exact k1 i hi e
                  · unfold stR at k7 ⊢
                    rw [upw_o (by decide), upw_o (by decide), upw_o (by decide), upw_o (by decide)]
                    exact k7
                  · obtain ⟨c2, q8, q9, q1, q0, q7⟩ := F2
                    simp -implicitDefEqProofs (disch := first | assumption | omega) only [szS_0, szS_i, szS_r, szS_l, x_cons, x_goto, ob_some, kl_i, kl_r, kl_l, kl_n, push_n, push_s, pop_0, pop_i, pop_r, Int.reduceToNat, List.length_cons, List.length_nil, Nat.reduceAdd, Nat.reduceLeDiff, Nat.zero_add, true_and, nI_n0, nat_le, Nat.add_zero, i_1, rt_co_follow, x_al0, x_al1, x_call, x_getf, x_goto, x_iadd, x_iaload, x_iastore, x_iceq, x_icge, x_icgt, x_iclt, x_icne, x_ifeq, x_il2, x_il3, x_il4, x_il5, x_il6, x_il7, x_imul, x_inc6, x_is5, x_is6, x_is7, x_ishl, x_ldc, x_m1, x_vret, b_co_follow_194, nI_add]
                    refine ih (a + 1) g2 _ (by omega) (frF_t f1 (frF_t (fun b b1 b2 b3 b4 b5 => by rw [upw_o b3, upw_o b2]) f2)) q8 (fun f hf e hfs => by rw [q9 f hf hfs, up1_n e]) (fun i hi e => by rw [q1 i hi, up1_n e]) ?_
                    rw [eFo, eF, ← opl_a]
                    exact q7
            exact arm (am w n) 0 g none (Nat.zero_add _) rfr h8 (fun f hf _ hfs => h9 f hf hfs) (fun i hi _ => h1 i hi) (by
              have : opl st (foB F 0) = st := opl_n st
              rw [this]
              exact h7)
    rw [b_co_follow_0]
    cases st with
    | none =>
      have e7 : g 184 7 = -1 := h7
      simp -implicitDefEqProofs (disch := first | assumption | omega) only [szS_0, szS_i, szS_r, szS_l, x_cons, x_goto, ob_some, kl_i, kl_r, kl_l, kl_n, push_n, push_s, pop_0, pop_i, pop_r, Int.reduceToNat, List.length_cons, List.length_nil, Nat.reduceAdd, Nat.reduceLeDiff, Nat.zero_add, true_and, nI_n0, nat_le, Nat.add_zero, i_1, rt_co_follow, x_al0, x_al1, x_call, x_getf, x_goto, x_iadd, x_iaload, x_iastore, x_iceq, x_icge, x_icgt, x_iclt, x_icne, x_ifeq, x_il2, x_il3, x_il4, x_il5, x_il6, x_il7, x_imul, x_inc6, x_is5, x_is6, x_is7, x_ishl, x_ldc, x_m1, x_vret, nI_ltE, l1, ↓reduceIte, fd_184_0, fd_184_1, fd_184_2, fd_184_3, fd_184_4, fd_184_5, fd_184_6, fd_184_7, sf_184_7, fd_184_8, sf_184_8, fd_184_9, fd_184_10, fd_184_11, e7]
      exact go fun p hp => by cases hp
    | some p =>
      obtain ⟨e7, hpl, h93⟩ := h7
      have n1 : (nI p.1 = -1) = False := nI_m1 (by omega)
      simp -implicitDefEqProofs (disch := first | assumption | omega) only [szS_0, szS_i, szS_r, szS_l, x_cons, x_goto, ob_some, kl_i, kl_r, kl_l, kl_n, push_n, push_s, pop_0, pop_i, pop_r, Int.reduceToNat, List.length_cons, List.length_nil, Nat.reduceAdd, Nat.reduceLeDiff, Nat.zero_add, true_and, nI_n0, nat_le, Nat.add_zero, i_1, rt_co_follow, x_al0, x_al1, x_call, x_getf, x_goto, x_iadd, x_iaload, x_iastore, x_iceq, x_icge, x_icgt, x_iclt, x_icne, x_ifeq, x_il2, x_il3, x_il4, x_il5, x_il6, x_il7, x_imul, x_inc6, x_is5, x_is6, x_is7, x_ishl, x_ldc, x_m1, x_vret, nI_ltE, l1, ↓reduceIte, fd_184_0, fd_184_1, fd_184_2, fd_184_3, fd_184_4, fd_184_5, fd_184_6, fd_184_7, sf_184_7, fd_184_8, sf_184_8, fd_184_9, fd_184_10, fd_184_11, e7, n1]
      by_cases hlt : s < p.1
      · rw [if_pos hlt]
        exact go fun r hr => by cases hr; exact hlt
      · rw [if_neg hlt]
        try simp -implicitDefEqProofs (disch := first | assumption | omega) only [b_co_follow_23, szS_0, szS_i, szS_r, szS_l, x_cons, x_goto, ob_some, kl_i, kl_r, kl_l, kl_n, push_n, push_s, pop_0, pop_i, pop_r, Int.reduceToNat, List.length_cons, List.length_nil, Nat.reduceAdd, Nat.reduceLeDiff, Nat.zero_add, true_and, nI_n0, nat_le, Nat.add_zero, i_1, rt_co_follow, x_al0, x_al1, x_call, x_getf, x_goto, x_iadd, x_iaload, x_iastore, x_iceq, x_icge, x_icgt, x_iclt, x_icne, x_ifeq, x_il2, x_il3, x_il4, x_il5, x_il6, x_il7, x_imul, x_inc6, x_is5, x_is6, x_is7, x_ishl, x_ldc, x_m1, x_vret]
        rw [opl_p fun r hr => by have := BRs_ge _ _ _ _ _ _ hr; omega] at H
        exact H g rfr hF'
theorem s_vleast (hw : WI w) (hc : Tc 1 w g) (hL : CL 1 g V M) {t k : Int32} (H : ∀ g', fQ g g' → P (some (.int (lsA V w t k))) (E g' q)) : callC (ev (d + 24)) vr_least [.ref 0, .int t, .int k] (E g q) P := by
  refine in_vr_least rfl ?_
  have hN := wi_n hw
  unfold lsA at H
  have no : lsB w t k = false → wp (ev (d + 23)) P vr_least 26 [some (.ref 0), some (.int t), some (.int k), none] [] (E g q) := by
    intro h
    rw [h, if_neg Bool.false_ne_true] at H
    rw [b_vr_least_26]
    simp -implicitDefEqProofs (disch := first | assumption | omega) only [szS_0, szS_i, szS_r, szS_l, x_cons, x_goto, ob_some, kl_i, kl_r, kl_l, kl_n, push_n, push_s, pop_0, pop_i, pop_r, Int.reduceToNat, List.length_cons, List.length_nil, Nat.reduceAdd, Nat.reduceLeDiff, Nat.zero_add, true_and, nI_n0, nat_le, Nat.add_zero, rt_vr_least, x_al0, x_call, x_getf, x_iaload, x_iceq, x_ifeq, x_ifne, x_il1, x_il2, x_il3, x_iret, x_is3, x_isub, x_ldc, x_m1]
    exact H g fQ_r
  have yes : lsB w t k = true → wp (ev (d + 23)) P vr_least 28 [some (.ref 0), some (.int t), some (.int k), none] [] (E g q) := by
    intro h
    rw [h, if_pos rfl] at H
    unfold lsB at h
    rw [Bool.and_eq_true] at h
    obtain ⟨t, ht, rfl, hts⟩ := townB_ex hw h.1
    rw [ix_nI (by omega)] at H
    rw [b_vr_least_28]
    simp -implicitDefEqProofs (disch := first | assumption | omega) only [szS_0, szS_i, szS_r, szS_l, x_cons, x_goto, ob_some, kl_i, kl_r, kl_l, kl_n, push_n, push_s, pop_0, pop_i, pop_r, Int.reduceToNat, List.length_cons, List.length_nil, Nat.reduceAdd, Nat.reduceLeDiff, Nat.zero_add, true_and, nI_n0, nat_le, Nat.add_zero, rt_vr_least, x_al0, x_call, x_getf, x_iaload, x_iceq, x_ifeq, x_ifne, x_il1, x_il2, x_il3, x_iret, x_is3, x_isub, x_ldc, x_m1, fd_0_0, fd_0_1, fd_0_2, fd_0_3, fd_0_4, fd_0_5, fd_0_6, fd_0_7, fd_0_8, fd_0_9, sf_0_9]
    refine in_co_leastBought rfl ?_
    rw [b_co_leastBought_0]
    simp -implicitDefEqProofs (disch := first | assumption | omega) only [szS_0, szS_i, szS_r, szS_l, x_cons, x_goto, ob_some, kl_i, kl_r, kl_l, kl_n, push_n, push_s, pop_0, pop_i, pop_r, Int.reduceToNat, List.length_cons, List.length_nil, Nat.reduceAdd, Nat.reduceLeDiff, Nat.zero_add, true_and, nI_n0, nat_le, Nat.add_zero, rt_co_leastBought, x_al0, x_al1, x_call, x_getf, x_il2, x_iret, x_ldc, x_m1, x_putf]
    refine s_weighForks (d := d + 17) hw hc hL fun g1 f1 D1 => ?_
    have hc1 : Tc 1 w g1 := Tc_c hc fun a a1 a2 => f1 a (by omega) (by omega) (by omega) (by omega) (by omega) (by omega)
    simp -implicitDefEqProofs (disch := first | assumption | omega) only [szS_0, szS_i, szS_r, szS_l, x_cons, x_goto, ob_some, kl_i, kl_r, kl_l, kl_n, push_n, push_s, pop_0, pop_i, pop_r, Int.reduceToNat, List.length_cons, List.length_nil, Nat.reduceAdd, Nat.reduceLeDiff, Nat.zero_add, true_and, nI_n0, nat_le, Nat.add_zero, rt_co_leastBought, x_al0, x_al1, x_call, x_getf, x_il2, x_iret, x_ldc, x_m1, x_putf, fd_184_0, fd_184_1, fd_184_2, fd_184_3, fd_184_4, fd_184_5, fd_184_6, fd_184_7, sf_184_7, fd_184_8, sf_184_8, fd_184_9, fd_184_10, fd_184_11]
    refine s_fill (n := 16) rfl (by decide) (by decide) fun r1 hr1 => ?_
    simp -implicitDefEqProofs (disch := first | assumption | omega) only [szS_0, szS_i, szS_r, szS_l, x_cons, x_goto, ob_some, kl_i, kl_r, kl_l, kl_n, push_n, push_s, pop_0, pop_i, pop_r, Int.reduceToNat, List.length_cons, List.length_nil, Nat.reduceAdd, Nat.reduceLeDiff, Nat.zero_add, true_and, nI_n0, nat_le, Nat.add_zero, rt_co_leastBought, x_al0, x_al1, x_call, x_getf, x_il2, x_iret, x_ldc, x_m1, x_putf, fd_184_0, fd_184_1, fd_184_2, fd_184_3, fd_184_4, fd_184_5, fd_184_6, fd_184_7, sf_184_7, fd_184_8, sf_184_8, fd_184_9, fd_184_10, fd_184_11]
    refine s_fill (n := 16) rfl (by decide) (by decide) fun r2 hr2 => ?_
    simp -implicitDefEqProofs (disch := first | assumption | omega) only [szS_0, szS_i, szS_r, szS_l, x_cons, x_goto, ob_some, kl_i, kl_r, kl_l, kl_n, push_n, push_s, pop_0, pop_i, pop_r, Int.reduceToNat, List.length_cons, List.length_nil, Nat.reduceAdd, Nat.reduceLeDiff, Nat.zero_add, true_and, nI_n0, nat_le, Nat.add_zero, rt_co_leastBought, x_al0, x_al1, x_call, x_getf, x_il2, x_iret, x_ldc, x_m1, x_putf, fd_184_0, fd_184_1, fd_184_2, fd_184_3, fd_184_4, fd_184_5, fd_184_6, fd_184_7, sf_184_7, fd_184_8, sf_184_8, fd_184_9, fd_184_10, fd_184_11, pu_g, upw_s, upw_w, upw_o]
    refine s_follow (V := V) hw ht hts 17 0 0 0 (wnO V w) (fun _ => 0) none _ _ (by omega) (by omega) (wnO_o hw) (Nat.le_refl _) (fun _ _ => rfl) ⟨Tc_c hc1 fun a a1 a2 => by rw [upw_o (by omega), upw_o (by omega), upw_o (by omega)], by rw [upw_s, pu_s], fun f hf hfs => ?_, fun i hi => ?_, fun f a hf hfs hfa => ?_, ?_⟩ fun g2 f2 F2 => ?_
    · rw [upw_o (by decide), upw_o (by decide), upw_o (by decide)]
      exact (D1 f hf hf hfs).1
    · rw [upw_o (by decide), upw_o (by decide), upw_s]
      exact hr1 i hi
    · rw [upw_o (by decide), upw_o (by decide), upw_o (by decide)]
      exact (D1 f hf hf hfs).2 a hfa
    · show upw _ 184 _ 184 7 = -1
      rw [upw_s, pu_n (by decide), pu_s]
    · obtain ⟨-, -, -, -, -, q7⟩ := F2
      have q7 : stR g2 (lsE V w t) := q7
      have fq : fQ g g2 := fQ_mk fun b b1 b2 b4 => by rw [f2 b (by omega) (by omega) (by omega) (by omega) (by omega), upw_o (by omega), upw_o (by omega), upw_o (by omega), f1 b (by omega) (by omega) (by omega) (by omega) (by omega) (by omega)]
      cases hE : lsE V w t with
      | none =>
        rw [hE] at H q7
        have e7 : g2 184 7 = -1 := q7
        simp -implicitDefEqProofs (disch := first | assumption | omega) only [szS_0, szS_i, szS_r, szS_l, x_cons, x_goto, ob_some, kl_i, kl_r, kl_l, kl_n, push_n, push_s, pop_0, pop_i, pop_r, Int.reduceToNat, List.length_cons, List.length_nil, Nat.reduceAdd, Nat.reduceLeDiff, Nat.zero_add, true_and, nI_n0, nat_le, Nat.add_zero, rt_co_leastBought, rt_vr_least, x_al0, x_al1, x_call, x_getf, x_iaload, x_iceq, x_ifeq, x_ifne, x_il1, x_il2, x_il3, x_iret, x_is3, x_isub, x_ldc, x_m1, x_putf, fd_184_0, fd_184_1, fd_184_2, fd_184_3, fd_184_4, fd_184_5, fd_184_6, fd_184_7, sf_184_7, fd_184_8, sf_184_8, fd_184_9, fd_184_10, fd_184_11, e7, ↓reduceIte, b_vr_least_50]
        exact H g2 fq
      | some p =>
        rw [hE] at H q7
        obtain ⟨e7, hpl, h93⟩ := q7
        have n1 : (nI p.1 = -1) = False := nI_m1 (by omega)
        simp -implicitDefEqProofs (disch := first | assumption | omega) only [szS_0, szS_i, szS_r, szS_l, x_cons, x_goto, ob_some, kl_i, kl_r, kl_l, kl_n, push_n, push_s, pop_0, pop_i, pop_r, Int.reduceToNat, List.length_cons, List.length_nil, Nat.reduceAdd, Nat.reduceLeDiff, Nat.zero_add, true_and, nI_n0, nat_le, Nat.add_zero, rt_co_leastBought, rt_vr_least, x_al0, x_al1, x_call, x_getf, x_iaload, x_iceq, x_ifeq, x_ifne, x_il1, x_il2, x_il3, x_iret, x_is3, x_isub, x_ldc, x_m1, x_putf, fd_184_0, fd_184_1, fd_184_2, fd_184_3, fd_184_4, fd_184_5, fd_184_6, fd_184_7, sf_184_7, fd_184_8, sf_184_8, fd_184_9, fd_184_10, fd_184_11, e7, n1, ↓reduceIte]
        have H := H g2 fq
        by_cases k0 : k = nI 0
        · have H : P (some (.int (if k = nI 0 then nI p.1 else nI (p.2 (ix k - 10))))) (E g2 q) := H
          rw [if_pos k0] at H
          simp -implicitDefEqProofs (disch := first | assumption | omega) only [k0, ↓reduceIte, szS_0, szS_i, szS_r, szS_l, x_cons, x_goto, ob_some, kl_i, kl_r, kl_l, kl_n, push_n, push_s, pop_0, pop_i, pop_r, Int.reduceToNat, List.length_cons, List.length_nil, Nat.reduceAdd, Nat.reduceLeDiff, Nat.zero_add, true_and, nI_n0, nat_le, Nat.add_zero, rt_vr_least, x_al0, x_call, x_getf, x_iaload, x_iceq, x_ifeq, x_ifne, x_il1, x_il2, x_il3, x_iret, x_is3, x_isub, x_ldc, x_m1, b_vr_least_50]
          exact H
        · have H : P (some (.int (if k = nI 0 then nI p.1 else nI (p.2 (ix k - 10))))) (E g2 q) := H
          rw [if_neg k0] at H
          obtain ⟨f, hf, hfs, rfl⟩ := askB_ex hw h.2 k0
          rw [ix_nI (by omega), Nat.add_sub_cancel_left] at H
          have e9 := h93 f (by omega)
          simp -implicitDefEqProofs (disch := first | assumption | omega) only [k0, ↓reduceIte, b_vr_least_52, szS_0, szS_i, szS_r, szS_l, x_cons, x_goto, ob_some, kl_i, kl_r, kl_l, kl_n, push_n, push_s, pop_0, pop_i, pop_r, Int.reduceToNat, List.length_cons, List.length_nil, Nat.reduceAdd, Nat.reduceLeDiff, Nat.zero_add, true_and, nI_n0, nat_le, Nat.add_zero, rt_vr_least, x_al0, x_call, x_getf, x_iaload, x_iceq, x_ifeq, x_ifne, x_il1, x_il2, x_il3, x_iret, x_is3, x_isub, x_ldc, x_m1, fd_0_0, fd_0_1, fd_0_2, fd_0_3, fd_0_4, fd_0_5, fd_0_6, fd_0_7, fd_0_8, fd_0_9, sf_0_9, fd_184_0, fd_184_1, fd_184_2, fd_184_3, fd_184_4, fd_184_5, fd_184_6, fd_184_7, sf_184_7, fd_184_8, sf_184_8, fd_184_9, fd_184_10, fd_184_11, ld_193, sd_193, ln_193, nI_sub, Nat.add_sub_cancel_left, e9]
          exact H
  rw [b_vr_least_0]
  simp -implicitDefEqProofs (disch := first | assumption | omega) only [szS_0, szS_i, szS_r, szS_l, x_cons, x_goto, ob_some, kl_i, kl_r, kl_l, kl_n, push_n, push_s, pop_0, pop_i, pop_r, Int.reduceToNat, List.length_cons, List.length_nil, Nat.reduceAdd, Nat.reduceLeDiff, Nat.zero_add, true_and, nI_n0, nat_le, Nat.add_zero, rt_vr_least, x_al0, x_call, x_getf, x_iaload, x_iceq, x_ifeq, x_ifne, x_il1, x_il2, x_il3, x_iret, x_is3, x_isub, x_ldc, x_m1, fd_0_0, fd_0_1, fd_0_2, fd_0_3, fd_0_4, fd_0_5, fd_0_6, fd_0_7, fd_0_8, fd_0_9, sf_0_9, fd_1_0, fd_1_1, fd_1_2, fd_1_3, fd_1_4]
  rw [s_cTown (t := 1) (by decide) hw hc]
  simp -implicitDefEqProofs (disch := first | assumption | omega) only [szS_0, szS_i, szS_r, szS_l, x_cons, x_goto, ob_some, kl_i, kl_r, kl_l, kl_n, push_n, push_s, pop_0, pop_i, pop_r, Int.reduceToNat, List.length_cons, List.length_nil, Nat.reduceAdd, Nat.reduceLeDiff, Nat.zero_add, true_and, nI_n0, nat_le, Nat.add_zero, rt_vr_least, x_al0, x_call, x_getf, x_iaload, x_iceq, x_ifeq, x_ifne, x_il1, x_il2, x_il3, x_iret, x_is3, x_isub, x_ldc, x_m1, bI_0]
  cases h1 : townB w t
  · simp -implicitDefEqProofs (disch := first | assumption | omega) only [↓reduceIte]
    exact no (by unfold lsB; rw [h1, Bool.false_and])
  · simp -implicitDefEqProofs (disch := first | assumption | omega) only [Bool.true_eq_false, ↓reduceIte, szS_0, szS_i, szS_r, szS_l, x_cons, x_goto, ob_some, kl_i, kl_r, kl_l, kl_n, push_n, push_s, pop_0, pop_i, pop_r, Int.reduceToNat, List.length_cons, List.length_nil, Nat.reduceAdd, Nat.reduceLeDiff, Nat.zero_add, true_and, nI_n0, nat_le, Nat.add_zero, rt_vr_least, x_al0, x_call, x_getf, x_iaload, x_iceq, x_ifeq, x_ifne, x_il1, x_il2, x_il3, x_iret, x_is3, x_isub, x_ldc, x_m1]
    by_cases k0 : k = nI 0
    · rw [if_pos k0]
      exact yes (by unfold lsB askB; rw [h1, decide_eq_true k0, Bool.true_or]; rfl)
    · rw [if_neg k0]
      try simp -implicitDefEqProofs (disch := first | assumption | omega) only [szS_0, szS_i, szS_r, szS_l, x_cons, x_goto, ob_some, kl_i, kl_r, kl_l, kl_n, push_n, push_s, pop_0, pop_i, pop_r, Int.reduceToNat, List.length_cons, List.length_nil, Nat.reduceAdd, Nat.reduceLeDiff, Nat.zero_add, true_and, nI_n0, nat_le, Nat.add_zero, rt_vr_least, x_al0, x_call, x_getf, x_iaload, x_iceq, x_ifeq, x_ifne, x_il1, x_il2, x_il3, x_iret, x_is3, x_isub, x_ldc, x_m1]
      rw [s_asks hw hc]
      simp -implicitDefEqProofs (disch := first | assumption | omega) only [szS_0, szS_i, szS_r, szS_l, x_cons, x_goto, ob_some, kl_i, kl_r, kl_l, kl_n, push_n, push_s, pop_0, pop_i, pop_r, Int.reduceToNat, List.length_cons, List.length_nil, Nat.reduceAdd, Nat.reduceLeDiff, Nat.zero_add, true_and, nI_n0, nat_le, Nat.add_zero, rt_vr_least, x_al0, x_call, x_getf, x_iaload, x_iceq, x_ifeq, x_ifne, x_il1, x_il2, x_il3, x_iret, x_is3, x_isub, x_ldc, x_m1, bI_0]
      have eB : askB w k = (decide (nI 10 ≤ k) && forkB w (k - nI 10)) := by
        unfold askB
        rw [decide_eq_false k0, Bool.false_or]
      cases h2 : (decide (nI 10 ≤ k) && forkB w (k - nI 10))
      · simp -implicitDefEqProofs (disch := first | assumption | omega) only [↓reduceIte]
        exact no (by unfold lsB; rw [eB, h2, Bool.and_false])
      · simp -implicitDefEqProofs (disch := first | assumption | omega) only [Bool.true_eq_false, ↓reduceIte]
        exact yes (by unfold lsB; rw [eB, h1, h2]; rfl)
end CLE
