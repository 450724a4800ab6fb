/-! the class's day -/
/-- the heads alone change -/
theorem Tc_h {t : Nat} {w w' : Nat → Int32} {g g' : Nat → Nat → Int32} (hw : WI w) (h : Tc t w g) (e : ∀ k, (∀ m, m < 16 → k ≠ 10 + 20 * m + 10) → w' k = w k) (eg : ∀ a, t < a → a < t + 21 → a ≠ t + 9 → g' a = g a) (e9 : ∀ m, m < 16 → g' (t + 9) m = w' (10 + 20 * m + 10)) : Tc t w' g' := by
  obtain ⟨c1, c2, c3, c4, c5, c6, c7⟩ := h
  have hN := wi_n hw
  have hst : stc w w' := ⟨e 0 fun m hm => by omega, fun n f hn hf => e _ fun m hm => by omega⟩
  refine ⟨⟨?_, ?_, ?_, ?_, ?_, ?_⟩, fun n hn => ?_, fun n a hn ha => ?_, fun s m hs hm => ?_, fun n hn hs => ?_, fun n hn => ?_, fun k hk => ?_⟩
  · rw [eg _ (by omega) (by omega) (by omega), e 0 fun m hm => by omega]; exact c1.1
  · rw [eg _ (by omega) (by omega) (by omega), e 1 fun m hm => by omega]; exact c1.2.1
  · rw [eg _ (by omega) (by omega) (by omega), e 4 fun m hm => by omega]; exact c1.2.2.1
  · rw [eg _ (by omega) (by omega) (by omega), e 3 fun m hm => by omega]; exact c1.2.2.2.1
  · rw [eg _ (by omega) (by omega) (by omega), e 6 fun m hm => by omega]; exact c1.2.2.2.2.1
  · rw [eg _ (by omega) (by omega) (by omega), e 7 fun m hm => by omega]; exact c1.2.2.2.2.2
  · rw [eg _ (by omega) (by omega) (by omega), eg (t + 3) (by omega) (by omega) (by omega), e _ fun m hm => by omega, e _ fun m hm => by omega]; exact c2 n hn
  · rw [eg _ (by omega) (by omega) (by omega), e _ fun m hm => by omega]; exact c3 n a hn ha
  · rw [stc_nn hst] at hs
    rw [eg _ (by omega) (by omega) (by omega), stc_far hw hst (by omega)]; exact c4 s m hs hm
  · rw [stc_nn hst] at hn
    rw [stc_fd hst (by omega) (by decide)] at hs
    rw [eg _ (by omega) (by omega) (by omega), eg (t + 18) (by omega) (by omega) (by omega), eg (t + 19) (by omega) (by omega) (by omega), e _ fun m hm => by omega, e _ fun m hm => by omega]
    exact ⟨(c5 n hn hs).1, (c5 n hn hs).2.1, fun a ha => by rw [e _ fun m hm => by omega]; exact (c5 n hn hs).2.2 a ha⟩
  · obtain ⟨b0, b1, b2, b3, b4, b5, b6, b7⟩ := c6 n hn
    rw [eg (t + 10) (by omega) (by omega) (by omega), eg (t + 11) (by omega) (by omega) (by omega), eg (t + 12) (by omega) (by omega) (by omega), eg (t + 13) (by omega) (by omega) (by omega), eg (t + 14) (by omega) (by omega) (by omega), eg (t + 15) (by omega) (by omega) (by omega), eg (t + 16) (by omega) (by omega) (by omega), e (10 + 20 * n + 11) fun m hm => by omega, e (10 + 20 * n + 15) fun m hm => by omega, e (10 + 20 * n + 16) fun m hm => by omega, e (10 + 20 * n + 12) fun m hm => by omega, e (10 + 20 * n + 13) fun m hm => by omega, e (10 + 20 * n + 14) fun m hm => by omega, e (10 + 20 * n + 17) fun m hm => by omega]
    exact ⟨e9 n hn, b1, b2, b3, b4, b5, b6, b7⟩
  · rw [eg _ (by omega) (by omega) (by omega), e _ fun m hm => by omega]; exact c7 k hk
/-- what the day's flow and draws are tied by -/
def Tx (bk : Bool) (t : Nat) (w : Nat → Int32) (g : Nat → Nat → Int32) : Prop := bkT bk t w g ∧ if bk = true then g (t + 6) 3 = w 5 ∧ g (t + 7) 2 = w 8 ∧ g (t + 7) 3 = w 9 else g (t + 7) 2 = nI 0 ∧ g (t + 7) 3 = nI 0
/-- a day's row: told, or in thought -/
def dyB (V M : LW) (bk : Bool) (w : Nat → Int32) : Nat → Int32 := if bk = true then dy1 V M w else dyR V M (vN w 6) w
def fD (t : Nat) (g g' : Nat → Nat → Int32) : Prop := ∀ b, (b < 175 ∨ 181 < b) → (b < t ∨ t + 30 ≤ b) → g' b = g b
section CD
variable {d : Nat} {g : Nat → Nat → Int32} {q : Nat → Nat → Int64} {P : QT} {t : Nat} {w : Nat → Int32}
theorem wt_lpC (hT : t = 1 ∨ t = 31 ∨ t = 61) (hw : WI w) (hc : Tc t w g) {H1 : Prop} (H : P (some (.int (nN (wtt w (nn w))))) (E g q)) : ∀ (j n : Nat) (o : Option Value), n + j = nn w →
    wp (ev d) P ri_wettest 15 [some (.ref t), some (.ref (t + 8)), some (.int (nN (wtt w n))), some (.int (if wtt w n = 99 then nI 0 else nI (fd w (wtt w n) 12) - nI (fd w (wtt w n) 11))), some (.int (nI n)), o] [] (E g q) := by
  have h0 := wi_n hw
  have e1 : g (t + 1) 0 = nI (nn w) := by rw [tc_n hc]; exact h0.1
  intro j
  induction j with
  | zero =>
    intro n o hn
    have hn : n = nn w := hn
    rw [hn, b_ri_wettest_15]
    simp -implicitDefEqProofs (disch := first | assumption | omega) only [szS_0, szS_i, szS_r, szS_l, x_cons, x_goto, ob_some, kl_i, kl_r, kl_l, kl_n, push_n, push_s, pop_0, pop_i, pop_r, Int.reduceToNat, List.length_cons, List.length_nil, Nat.reduceAdd, Nat.reduceLeDiff, Nat.zero_add, true_and, nI_n0, nat_le, Nat.add_zero, i_1, rt_ri_wettest, x_aaload, x_al0, x_al1, x_as1, x_getf, x_goto, x_iaload, x_iceq, x_icge, x_icle, x_ifeq, x_il2, x_il3, x_il4, x_il5, x_inc4, x_iret, x_is2, x_is3, x_is4, x_is5, x_isub, x_ldc, x_m1, tf_0_0, tf_0_1, tf_0_2, tf_0_3, tf_0_4, tf_1_0, tf_1_1, tf_1_2, tf_1_3, tf_1_4, ts_1_0, e1, nI_ltE, Nat.lt_irrefl, ↓reduceIte, b_ri_wettest_75]
    exact H
  | succ j ih =>
    intro n o hn
    have hn' : n < nn w := by omega
    have hn16 : n < 16 := by omega
    have hy := wi_y hw hn16
    have ht := tc_t hc hn16
    have e11 := ht.2.1.trans hy.2.1.1
    have e12 := ht.2.2.2.2.1.trans hy.2.2.1.1
    have e17 := ht.2.2.2.2.2.2.2.trans hy.2.2.2.2.2.2.2.1
    have l17 := hy.2.2.2.2.2.2.2.2
    have hl := wtt_l (w := w) n
    have hlb : wtt w n ≤ 99 := by omega
    have eW : wtt w (n + 1) = if fd w n 0 = 1 ∧ fd w n 17 = 1 ∧ (wtt w n = 99 ∨ fd w (wtt w n) 12 + fd w n 11 < fd w n 12 + fd w (wtt w n) 11) then n else wtt w n := rfl
    have hz : fd w n 17 = 1 → fd w n 0 = 1 := fun h => by
      refine Classical.byContradiction fun h1 => ?_
      have := (wi_f hw hn16).2.2.2.2.2.2 (Or.inr h1) 17 (by decide) (by decide)
      omega
    have yes : wtt w (n + 1) = n → wp (ev d) P ri_wettest 63 [some (.ref t), some (.ref (t + 8)), some (.int (nN (wtt w n))), some (.int (if wtt w n = 99 then nI 0 else nI (fd w (wtt w n) 12) - nI (fd w (wtt w n) 11))), some (.int (nI n)), some (.int (nI (fd w n 12) - nI (fd w n 11)))] [] (E g q) := by
      intro he
      have hi := ih (n + 1) (some (.int (nI (fd w n 12) - nI (fd w n 11)))) (by omega)
      rw [he, if_neg (by omega), nN_n (by omega)] at hi
      rw [b_ri_wettest_63]
      simp -implicitDefEqProofs (disch := first | assumption | omega) only [szS_0, szS_i, szS_r, szS_l, x_cons, x_goto, ob_some, kl_i, kl_r, kl_l, kl_n, push_n, push_s, pop_0, pop_i, pop_r, Int.reduceToNat, List.length_cons, List.length_nil, Nat.reduceAdd, Nat.reduceLeDiff, Nat.zero_add, true_and, nI_n0, nat_le, Nat.add_zero, i_1, rt_ri_wettest, x_aaload, x_al0, x_al1, x_as1, x_getf, x_goto, x_iaload, x_iceq, x_icge, x_icle, x_ifeq, x_il2, x_il3, x_il4, x_il5, x_inc4, x_iret, x_is2, x_is3, x_is4, x_is5, x_isub, x_ldc, x_m1, b_ri_wettest_69, nI_add]
      exact hi
    have no : wtt w (n + 1) = wtt w n → wp (ev d) P ri_wettest 69 [some (.ref t), some (.ref (t + 8)), some (.int (nN (wtt w n))), some (.int (if wtt w n = 99 then nI 0 else nI (fd w (wtt w n) 12) - nI (fd w (wtt w n) 11))), some (.int (nI n)), some (.int (nI (fd w n 12) - nI (fd w n 11)))] [] (E g q) := by
      intro he
      have hi := ih (n + 1) (some (.int (nI (fd w n 12) - nI (fd w n 11)))) (by omega)
      rw [he] at hi
      rw [b_ri_wettest_69]
      simp -implicitDefEqProofs (disch := first | assumption | omega) only [szS_0, szS_i, szS_r, szS_l, x_cons, x_goto, ob_some, kl_i, kl_r, kl_l, kl_n, push_n, push_s, pop_0, pop_i, pop_r, Int.reduceToNat, List.length_cons, List.length_nil, Nat.reduceAdd, Nat.reduceLeDiff, Nat.zero_add, true_and, nI_n0, nat_le, Nat.add_zero, i_1, rt_ri_wettest, x_aaload, x_al0, x_al1, x_as1, x_getf, x_goto, x_iaload, x_iceq, x_icge, x_icle, x_ifeq, x_il2, x_il3, x_il4, x_il5, x_inc4, x_iret, x_is2, x_is3, x_is4, x_is5, x_isub, x_ldc, x_m1, nI_add]
      exact hi
    generalize hmo : (if wtt w n = 99 then nI 0 else nI (fd w (wtt w n) 12) - nI (fd w (wtt w n) 11)) = mo at *
    rw [b_ri_wettest_15]
    simp -implicitDefEqProofs (disch := first | assumption | omega) only [szS_0, szS_i, szS_r, szS_l, x_cons, x_goto, ob_some, kl_i, kl_r, kl_l, kl_n, push_n, push_s, pop_0, pop_i, pop_r, Int.reduceToNat, List.length_cons, List.length_nil, Nat.reduceAdd, Nat.reduceLeDiff, Nat.zero_add, true_and, nI_n0, nat_le, Nat.add_zero, i_1, rt_ri_wettest, x_aaload, x_al0, x_al1, x_as1, x_getf, x_goto, x_iaload, x_iceq, x_icge, x_icle, x_ifeq, x_il2, x_il3, x_il4, x_il5, x_inc4, x_iret, x_is2, x_is3, x_is4, x_is5, x_isub, x_ldc, x_m1, tf_0_0, tf_0_1, tf_0_2, tf_0_3, tf_0_4, tf_1_0, tf_1_1, tf_1_2, tf_1_3, tf_1_4, ts_1_0, tr_0, tr_1, tr_2, tr_3, tr_4, tr_5, tr_6, tr_7, tl_10, td_10, tl_13, td_13, tl_16, td_16, e1, e11, e12, e17, nI_ltE, hn', ↓reduceIte, nI_eqE]
    by_cases hb : fd w n 17 = 0
    · rw [if_pos hb]
      exact no (by rw [eW, if_neg fun h => by omega])
    · have hb1 : fd w n 17 = 1 := by omega
      rw [if_neg hb]
      simp -implicitDefEqProofs (disch := first | assumption | omega) only [szS_0, szS_i, szS_r, szS_l, x_cons, x_goto, ob_some, kl_i, kl_r, kl_l, kl_n, push_n, push_s, pop_0, pop_i, pop_r, Int.reduceToNat, List.length_cons, List.length_nil, Nat.reduceAdd, Nat.reduceLeDiff, Nat.zero_add, true_and, nI_n0, nat_le, Nat.add_zero, i_1, rt_ri_wettest, x_aaload, x_al0, x_al1, x_as1, x_getf, x_goto, x_iaload, x_iceq, x_icge, x_icle, x_ifeq, x_il2, x_il3, x_il4, x_il5, x_inc4, x_iret, x_is2, x_is3, x_is4, x_is5, x_isub, x_ldc, x_m1, nN_1]
      by_cases h9 : wtt w n = 99
      · rw [if_pos h9]
        exact yes (by rw [eW, if_pos ⟨hz hb1, hb1, Or.inl h9⟩])
      · have hbt := hl.resolve_left h9
        have hyb := wi_y hw (n := wtt w n) (by omega)
        have l11 := hyb.2.1.2
        have l12 := hyb.2.2.1.2
        rw [if_neg h9] at hmo ⊢
        have ess : (mo < nI (fd w n 12) - nI (fd w n 11)) = (fd w (wtt w n) 12 + fd w n 11 < fd w n 12 + fd w (wtt w n) 11) := by
          rw [← hmo]
          exact nI_ss (by omega) (by omega) (by omega) (by omega)
        by_cases hv : fd w (wtt w n) 12 + fd w n 11 < fd w n 12 + fd w (wtt w n) 11
        · rw [if_pos (by rw [ess]; exact hv)]
          exact yes (by rw [eW, if_pos ⟨hz hb1, hb1, Or.inr hv⟩])
        · rw [if_neg (by rw [ess]; exact hv)]
          exact no (by rw [eW, if_neg fun h => h.2.2.elim h9 hv])
theorem s_cwettest (hT : t = 1 ∨ t = 31 ∨ t = 61) (hw : WI w) (hc : Tc t w g) : callC (ev (d + 1)) ri_wettest [.ref t] (E g q) P = P (some (.int (nN (wtt w (nn w))))) (E g q) := by
  refine call_eq (in_ri_wettest (by rcases hT with rfl | rfl | rfl <;> rfl) ?_)
  rw [b_ri_wettest_0]
  simp -implicitDefEqProofs (disch := first | assumption | omega) only [szS_0, szS_i, szS_r, szS_l, x_cons, x_goto, ob_some, kl_i, kl_r, kl_l, kl_n, push_n, push_s, pop_0, pop_i, pop_r, Int.reduceToNat, List.length_cons, List.length_nil, Nat.reduceAdd, Nat.reduceLeDiff, Nat.zero_add, true_and, nI_n0, nat_le, Nat.add_zero, i_1, rt_ri_wettest, x_aaload, x_al0, x_al1, x_as1, x_getf, x_goto, x_iaload, x_iceq, x_icge, x_icle, x_ifeq, x_il2, x_il3, x_il4, x_il5, x_inc4, x_iret, x_is2, x_is3, x_is4, x_is5, x_isub, x_ldc, x_m1, tf_0_0, tf_0_1, tf_0_2, tf_0_3, tf_0_4, tf_6_0, tf_6_1, tf_6_2, tf_6_3, tf_6_4, tf_6_5, tf_6_6, tf_6_7, tf_6_8, tf_6_9, tf_6_10, ts_6_0, ts_6_1, ts_6_2, ts_6_3, ts_6_4]
  exact wt_lpC hT hw hc (H1 := True) ⟨rfl, rfl⟩ (nn w) 0 none (Nat.zero_add _)
theorem ma_lp (hT : t = 1 ∨ t = 31 ∨ t = 61) (hw : WI w) {V M : LW} {to : Nat} (hto : to < nn w) (ht0 : fd w to 0 = 1) (hwt : fd w to 17 = 1) {g0 : Nat → Nat → Int32} (hL : CL t g0 V M) (H : ∀ g', (∀ b, b ≠ 181 → b ≠ t + 28 → b ≠ t + 9 → g' b = g0 b) → Tc t (mvR M w to (nn w)) g' → P none (E g' q)) :
    ∀ (j n : Nat) (g : Nat → Nat → Int32) (o : Option Value), n + j = nn w → (∀ b, b ≠ 181 → b ≠ t + 28 → b ≠ t + 9 → g b = g0 b) → Tc t (mvR M w to n) g →
    wp (ev (d + 3)) P ri_moveAway 18 [some (.ref 174), some (.ref t), some (.ref (t + 9)), some (.int (nI to)), some (.int (nI n)), o] [] (E g q) := by
  have h0 := wi_n hw
  have mz := nI_m1 (a := to) (by omega)
  intro j
  induction j with
  | zero =>
    intro n g o hn hr hc
    have hn : n = nn w := hn
    have e0 : nn (mvR M w to n) = nn w := nn_c (mvR_o _ (fun t ht => by omega) (by omega))
    have hN := wi_n (mvR_wi hw hto ht0 (M := M) n (by omega)).1
    have e1 : g (t + 1) 0 = nI (nn w) := by rw [tc_n hc, hN.1, e0]
    rw [b_ri_moveAway_18]
    simp -implicitDefEqProofs (disch := first | assumption | omega) only [szS_0, szS_i, szS_r, szS_l, x_cons, x_goto, ob_some, kl_i, kl_r, kl_l, kl_n, push_n, push_s, pop_0, pop_i, pop_r, Int.reduceToNat, List.length_cons, List.length_nil, Nat.reduceAdd, Nat.reduceLeDiff, Nat.zero_add, true_and, nI_n0, nat_le, Nat.add_zero, i_1, rt_ri_moveAway, x_aaload, x_al0, x_al1, x_al2, x_as2, x_call, x_dup2, x_getf, x_goto, x_iadd, x_iaload, x_iastore, x_iceq, x_icge, x_icne, x_il3, x_il4, x_il5, x_inc4, x_is3, x_is4, x_is5, x_isub, x_ldc, x_m1, x_vret, tf_0_0, tf_0_1, tf_0_2, tf_0_3, tf_0_4, tf_1_0, tf_1_1, tf_1_2, tf_1_3, tf_1_4, ts_1_0, e1, hn, nI_ltE, Nat.lt_irrefl, ↓reduceIte, b_ri_moveAway_81]
    exact H g hr (by rw [← hn]; exact hc)
  | succ j ih =>
    intro n g o hn hr hc
    have hn' : n < nn w := by omega
    have hn16 : n < 16 := by omega
    have hW := (mvR_wi hw hto ht0 (M := M) n (by omega)).1
    have e0 : nn (mvR M w to n) = nn w := nn_c (mvR_o _ (fun t ht => by omega) (by omega))
    have hN := wi_n hW
    have e1 : g (t + 1) 0 = nI (nn w) := by rw [tc_n hc, hN.1, e0]
    have eg : ∀ m f, f < 20 → f ≠ 10 → fd (mvR M w to n) m f = fd w m f := fun m f h1 h2 => fd_c (mvR_f h1 h2)
    have hz := wi_0 hW hn16
    have e2 : g (t + 2) n = nI (fd w n 0) := by rw [tc_so hc hn16, hz.1, eg n 0 (by decide) (by decide)]
    have hz2 := (wi_0 hw hn16).2
    have hq : mvR M w to (n + 1) = if fd w n 0 = 1 ∧ fd w n 17 ≠ 1 then mv1 M (mvR M w to n) n to else mvR M w to n := rfl
    have next : ∀ g1 o, (∀ b, b ≠ 181 → b ≠ t + 28 → b ≠ t + 9 → g1 b = g b) → Tc t (mvR M w to (n + 1)) g1 → wp (ev (d + 3)) P ri_moveAway 75 [some (.ref 174), some (.ref t), some (.ref (t + 9)), some (.int (nI to)), some (.int (nI n)), o] [] (E g1 q) := by
      intro g1 o f1 hc1
      rw [b_ri_moveAway_75]
      simp -implicitDefEqProofs (disch := first | assumption | omega) only [szS_0, szS_i, szS_r, szS_l, x_cons, x_goto, ob_some, kl_i, kl_r, kl_l, kl_n, push_n, push_s, pop_0, pop_i, pop_r, Int.reduceToNat, List.length_cons, List.length_nil, Nat.reduceAdd, Nat.reduceLeDiff, Nat.zero_add, true_and, nI_n0, nat_le, Nat.add_zero, i_1, rt_ri_moveAway, x_aaload, x_al0, x_al1, x_al2, x_as2, x_call, x_dup2, x_getf, x_goto, x_iadd, x_iaload, x_iastore, x_iceq, x_icge, x_icne, x_il3, x_il4, x_il5, x_inc4, x_is3, x_is4, x_is5, x_isub, x_ldc, x_m1, x_vret, nI_add]
      exact ih (n + 1) g1 o (by omega) (fun b a1 a2 a3 => by rw [f1 b a1 a2 a3, hr b a1 a2 a3]) hc1
    rw [b_ri_moveAway_18]
    simp -implicitDefEqProofs (disch := first | assumption | omega) only [szS_0, szS_i, szS_r, szS_l, x_cons, x_goto, ob_some, kl_i, kl_r, kl_l, kl_n, push_n, push_s, pop_0, pop_i, pop_r, Int.reduceToNat, List.length_cons, List.length_nil, Nat.reduceAdd, Nat.reduceLeDiff, Nat.zero_add, true_and, nI_n0, nat_le, Nat.add_zero, i_1, rt_ri_moveAway, x_aaload, x_al0, x_al1, x_al2, x_as2, x_call, x_dup2, x_getf, x_goto, x_iadd, x_iaload, x_iastore, x_iceq, x_icge, x_icne, x_il3, x_il4, x_il5, x_inc4, x_is3, x_is4, x_is5, x_isub, x_ldc, x_m1, x_vret, tf_0_0, tf_0_1, tf_0_2, tf_0_3, tf_0_4, tf_1_0, tf_1_1, tf_1_2, tf_1_3, tf_1_4, ts_1_0, tl_2, td_2, e1, e2, nI_ltE, hn', ↓reduceIte, mz, nI_eqE]
    by_cases e : fd w n 0 = 1
    · have hLg : CL t g V M := CL_c hL fun a a1 a2 a3 => hr a (by omega) (by omega) (by omega)
      rw [if_pos e]
      try simp -implicitDefEqProofs (disch := first | assumption | omega) only [szS_0, szS_i, szS_r, szS_l, x_cons, x_goto, ob_some, kl_i, kl_r, kl_l, kl_n, push_n, push_s, pop_0, pop_i, pop_r, Int.reduceToNat, List.length_cons, List.length_nil, Nat.reduceAdd, Nat.reduceLeDiff, Nat.zero_add, true_and, nI_n0, nat_le, Nat.add_zero, i_1, rt_ri_moveAway, x_aaload, x_al0, x_al1, x_al2, x_as2, x_call, x_dup2, x_getf, x_goto, x_iadd, x_iaload, x_iastore, x_iceq, x_icge, x_icne, x_il3, x_il4, x_il5, x_inc4, x_is3, x_is4, x_is5, x_isub, x_ldc, x_m1, x_vret]
      refine s_cmovers hT hW hc hLg hn16 fun g1 f1 => ?_
      have e9 : g1 (t + 9) = g (t + 9) := f1 _ (by omega) (by omega)
      have ht := fun m (hm : m < 16) => (tc_t hc hm).1
      have hyn := (wi_y hW hn16).1
      have hyt := (wi_y hW (n := to) (by omega)).1
      have hml := (mv_I hW (M := M) hn16).1
      have hs := mv1_s hW (M := M) (t := n) (to := to) hn16 (by omega)
      have h3 := WI_s hW
      have en := (ht n hn16).trans hyn.1
      have w1 := WI_t hW (n := n) (f := 10) (v := fd (mvR M w to n) n 10 - mv M (mvR M w to n) n) (by omega) (by rw [eg n 0 (by decide) (by decide)]; exact e) (by omega) (by omega)
      have hyt2 := (wi_y w1 (n := to) (by omega)).1.1
      have eto : pu (g (t + 9)) n (nI (fd (mvR M w to n) n 10 - mv M (mvR M w to n) n)) to = nI (fd (pu (mvR M w to n) (10 + 20 * n + 10) (nI (fd (mvR M w to n) n 10 - mv M (mvR M w to n) n))) to 10) := by
        rw [← hyt2]
        unfold pu
        by_cases e5 : to = n
        · rw [if_pos e5, if_pos (by omega)]
        · rw [if_neg e5, if_neg (by omega)]
          exact ht to (by omega)
      simp -implicitDefEqProofs (disch := first | assumption | omega) only [szS_0, szS_i, szS_r, szS_l, x_cons, x_goto, ob_some, kl_i, kl_r, kl_l, kl_n, push_n, push_s, pop_0, pop_i, pop_r, Int.reduceToNat, List.length_cons, List.length_nil, Nat.reduceAdd, Nat.reduceLeDiff, Nat.zero_add, true_and, nI_n0, nat_le, Nat.add_zero, i_1, rt_ri_moveAway, x_aaload, x_al0, x_al1, x_al2, x_as2, x_call, x_dup2, x_getf, x_goto, x_iadd, x_iaload, x_iastore, x_iceq, x_icge, x_icne, x_il3, x_il4, x_il5, x_inc4, x_is3, x_is4, x_is5, x_isub, x_ldc, x_m1, x_vret, tl_9, td_9, e9, en, nI_sub, pu_g, pu_w, upw_s, upw_w, eto, nI_add]
      refine next _ _ (fun b a1 a2 a3 => by rw [upw_o a3, f1 b a1 a2]) ?_
      -- the row that the heads are then
      have row : ∀ m, m < 16 → upw g1 (t + 9) (pu (pu (g (t + 9)) n (nI (fd (mvR M w to n) n 10 - mv M (mvR M w to n) n))) to (nI (fd (pu (mvR M w to n) (10 + 20 * n + 10) (nI (fd (mvR M w to n) n 10 - mv M (mvR M w to n) n))) to 10 + mv M (mvR M w to n) n))) (t + 9) m = mv1 M (mvR M w to n) n to (10 + 20 * m + 10) := by
        intro m hm
        rw [upw_s]
        unfold mv1
        show pu (pu _ n _) to _ m = pu (pu _ (10 + 20 * n + 10) _) (10 + 20 * to + 10) _ (10 + 20 * m + 10)
        unfold pu
        by_cases e5 : m = to
        · rw [if_pos e5, if_pos (by omega)]
        · rw [if_neg e5, if_neg (show ¬ 10 + 20 * m + 10 = 10 + 20 * to + 10 by omega)]
          by_cases e6 : m = n
          · rw [if_pos e6, if_pos (by omega)]
          · rw [if_neg e6, if_neg (by omega)]
            exact ht m hm
      by_cases ew : fd w n 17 = 1
      · -- who is WET stays: nothing changes
        have hm0 : mv M (mvR M w to n) n = 0 := if_pos (by rw [eg n 17 (by decide) (by decide)]; exact ew)
        have hmv : mv1 M (mvR M w to n) n to = mvR M w to n := by
          unfold mv1
          rw [hm0, Nat.sub_zero, ← hyn.1]
          have i1 : pu (mvR M w to n) (10 + 20 * n + 10) (mvR M w to n (10 + 20 * n + 10)) = mvR M w to n := by
            funext k
            unfold pu
            split
            next h => rw [h]
            next h => rfl
          rw [i1]
          show pu (mvR M w to n) (10 + 20 * to + 10) (nI (fd (mvR M w to n) to 10)) = _
          rw [← hyt.1]
          funext k
          unfold pu
          split
          next h => rw [h]
          next h => rfl
        rw [hq, if_neg fun h => h.2 ew]
        refine Tc_h hW hc (fun _ _ => rfl) (fun a a1 a2 a3 => by rw [upw_o a3, f1 a (by omega) (by omega)]) fun m hm => ?_
        rw [row m hm, hmv]
      · rw [hq, if_pos ⟨e, ew⟩]
        refine Tc_h hW hc (fun k hk => mv1_o (hk n hn16) (hk to (by omega))) (fun a a1 a2 a3 => by rw [upw_o a3, f1 a (by omega) (by omega)]) row
    · rw [if_neg e]
      exact next g o (fun _ _ _ _ => rfl) (by rw [hq, if_neg fun h => e h.1]; exact hc)
theorem s_moveAway (hT : t = 1 ∨ t = 31 ∨ t = 61) (hw : WI w) (hc : Tc t w g) {V M : LW} (hL : CL t g V M) (H : ∀ g', (∀ b, b ≠ 181 → b ≠ t + 28 → b ≠ t + 9 → g' b = g b) → Tc t (alR M w) g' → P none (E g' q)) : callC (ev (d + 4)) ri_moveAway [.ref 174, .ref t] (E g q) P := by
  refine in_ri_moveAway rfl ?_
  have h0 := wi_n hw
  rw [b_ri_moveAway_0]
  simp -implicitDefEqProofs (disch := first | assumption | omega) only [szS_0, szS_i, szS_r, szS_l, x_cons, x_goto, ob_some, kl_i, kl_r, kl_l, kl_n, push_n, push_s, pop_0, pop_i, pop_r, Int.reduceToNat, List.length_cons, List.length_nil, Nat.reduceAdd, Nat.reduceLeDiff, Nat.zero_add, true_and, nI_n0, nat_le, Nat.add_zero, i_1, rt_ri_moveAway, x_aaload, x_al0, x_al1, x_al2, x_as2, x_call, x_dup2, x_getf, x_goto, x_iadd, x_iaload, x_iastore, x_iceq, x_icge, x_icne, x_il3, x_il4, x_il5, x_inc4, x_is3, x_is4, x_is5, x_isub, x_ldc, x_m1, x_vret, tf_0_0, tf_0_1, tf_0_2, tf_0_3, tf_0_4, tf_6_0, tf_6_1, tf_6_2, tf_6_3, tf_6_4, tf_6_5, tf_6_6, tf_6_7, tf_6_8, tf_6_9, tf_6_10, ts_6_0, ts_6_1, ts_6_2, ts_6_3, ts_6_4, tr_0, tr_1, tr_2, tr_3, tr_4, tr_5, tr_6, tr_7]
  rw [s_cwettest hT hw hc]
  simp -implicitDefEqProofs (disch := first | assumption | omega) only [szS_0, szS_i, szS_r, szS_l, x_cons, x_goto, ob_some, kl_i, kl_r, kl_l, kl_n, push_n, push_s, pop_0, pop_i, pop_r, Int.reduceToNat, List.length_cons, List.length_nil, Nat.reduceAdd, Nat.reduceLeDiff, Nat.zero_add, true_and, nI_n0, nat_le, Nat.add_zero, i_1, rt_ri_moveAway, x_aaload, x_al0, x_al1, x_al2, x_as2, x_call, x_dup2, x_getf, x_goto, x_iadd, x_iaload, x_iastore, x_iceq, x_icge, x_icne, x_il3, x_il4, x_il5, x_inc4, x_is3, x_is4, x_is5, x_isub, x_ldc, x_m1, x_vret]
  by_cases e : wtt w (nn w) = 99
  · have hp : 0 < nn w := by omega
    have e9 : nN (wtt w (nn w)) = -1 := if_pos e
    have e1 : g (t + 1) 0 = nI (nn w) := by rw [tc_n hc]; exact h0.1
    have e2 : alR M w = w := if_pos e
    rw [b_ri_moveAway_18]
    simp -implicitDefEqProofs (disch := first | assumption | omega) only [szS_0, szS_i, szS_r, szS_l, x_cons, x_goto, ob_some, kl_i, kl_r, kl_l, kl_n, push_n, push_s, pop_0, pop_i, pop_r, Int.reduceToNat, List.length_cons, List.length_nil, Nat.reduceAdd, Nat.reduceLeDiff, Nat.zero_add, true_and, nI_n0, nat_le, Nat.add_zero, i_1, rt_ri_moveAway, x_aaload, x_al0, x_al1, x_al2, x_as2, x_call, x_dup2, x_getf, x_goto, x_iadd, x_iaload, x_iastore, x_iceq, x_icge, x_icne, x_il3, x_il4, x_il5, x_inc4, x_is3, x_is4, x_is5, x_isub, x_ldc, x_m1, x_vret, tf_0_0, tf_0_1, tf_0_2, tf_0_3, tf_0_4, tf_1_0, tf_1_1, tf_1_2, tf_1_3, tf_1_4, ts_1_0, e1, nI_ltE, hp, ↓reduceIte, e9, b_ri_moveAway_81]
    exact H g (fun _ _ _ _ => rfl) (by rw [e2]; exact hc)
  · have ht := (wtt_l (w := w) (nn w)).resolve_left e
    have e2 : alR M w = mvR M w (wtt w (nn w)) (nn w) := if_neg e
    rw [nN_n e]
    rw [e2] at H
    exact ma_lp hT hw ht.1 ht.2.1 ht.2.2 hL H (nn w) 0 g none (Nat.zero_add _) (fun _ _ _ _ => rfl) hc
end CD
