/-! the class's water: the whole, and how it is taken -/
def watN (w : Nat → Int32) (op : Nat → Nat) (fl x n : Nat) (g : Nat → Nat → Int32) : Prop :=
  (∀ m, m < 16 → g (x + 1) m = nI (cmN w op fl n m)) ∧ (∀ m, m < n → fd w m 0 = 1 → g (x + 2) m = nI (sto w (cmA w op fl m) m)) ∧ (∀ m a, m < n → a < am w m → g (x + 3) (m * 3 + a) = nI (snt w op (cmA w op fl m) m a)) ∧ g x 3 = nI (wtS w op fl n) ∧ g x 4 = nI (seS w op fl n)
theorem wtS_s {w : Nat → Int32} {op : Nat → Nat} {fl n : Nat} : wtS w op fl (n + 1) = wtS w op fl n ||| (if (decide (fd w n 0 = 1) && wetP w (cmA w op fl n) n) = true then 2 ^ n else 0) := rfl
theorem wtS_l {w : Nat → Int32} {op : Nat → Nat} {fl n : Nat} (hn : n ≤ 16) : wtS w op fl n < 65536 := Nat.lt_of_lt_of_le (bset_lt n) (Nat.pow_le_pow_right (n := 2) (by decide) hn)
section CX
variable {d : Nat} {g : Nat → Nat → Int32} {q : Nat → Nat → Int64} {P : QT} {t x : Nat} {w : Nat → Int32}
theorem wr_lp (hT : t = 1 ∨ t = 31 ∨ t = 61) (hX : x = 175 ∨ x = 185) (hw : WI w) {g0 : Nat → Nat → Int32} (hc : Tc t w g0) {o : Nat} {op : Nat → Nat} (ho : kd o = (0, 16)) (ho2 : o < 220) (hox : o ≠ x ∧ o ≠ x + 1 ∧ o ≠ x + 2 ∧ o ≠ x + 3) (hop : ∀ n, n < nn w → fd w n 0 = 0 → g0 o n = nI (op n)) (hO : opO w op) {fl : Nat} (hfl : fl ≤ 1998) {v4 : Int32}
    (H : ∀ g', (∀ b, b ≠ x → b ≠ x + 1 → b ≠ x + 2 → b ≠ x + 3 → g' b = g0 b) → watN w op fl x (nn w) g' → P none (E g' q)) :
    ∀ (j n : Nat) (g : Nat → Nat → Int32), n + j = nn w → (∀ b, b ≠ x → b ≠ x + 1 → b ≠ x + 2 → b ≠ x + 3 → g b = g0 b) → watN w op fl x n g →
    wp (ev (d + 2)) P wa_run 37 [some (.ref x), some (.ref (t + 1)), some (.ref (t + 6)), some (.ref o), some (.int v4), some (.int (nI n))] [] (E g q) := by
  have h0 := wi_n hw
  intro j
  induction j with
  | zero =>
    intro n g hn hr hW
    have hn : n = nn w := hn
    have e1 : g (t + 1) 0 = nI (nn w) := by rw [hr _ (by omega) (by omega) (by omega) (by omega), tc_n hc]; exact h0.1
    rw [b_wa_run_37]
    simp -implicitDefEqProofs (disch := first | assumption | omega) only [szS_0, szS_i, szS_r, szS_l, x_cons, x_goto, ob_some, kl_i, kl_r, kl_l, kl_n, push_n, push_s, pop_0, pop_i, pop_r, Int.reduceToNat, List.length_cons, List.length_nil, Nat.reduceAdd, Nat.reduceLeDiff, Nat.zero_add, true_and, nI_n0, nat_le, Nat.add_zero, i_1, rt_wa_run, x_al0, x_al1, x_al2, x_al3, x_call, x_dupi, x_dupr, x_getf, x_goto, x_iadd, x_iaload, x_iastore, x_icge, x_icne, x_ifne, x_il4, x_il5, x_inc5, x_is5, x_ldc, x_putf, x_vret, tf_1_0, tf_1_1, tf_1_2, tf_1_3, tf_1_4, ts_1_0, e1, hn, nI_ltE, Nat.lt_irrefl, ↓reduceIte, b_wa_run_120]
    exact H g hr (by rw [← hn]; exact hW)
  | succ j ih =>
    intro n g hn hr hW
    have hn' : n < nn w := by omega
    have hn16 : n < 16 := by omega
    have e1 : g (t + 1) 0 = nI (nn w) := by rw [hr _ (by omega) (by omega) (by omega) (by omega), tc_n hc]; exact h0.1
    have hz := wi_0 hw hn16
    have e2 : g (t + 2) n = nI (fd w n 0) := by rw [hr _ (by omega) (by omega) (by omega) (by omega), tc_so hc hn16]; exact hz.1
    have hcl := cm_le hw hO (fl := fl) hn16
    have ecm : g (x + 1) n = nI (cmA w op fl n) := hW.1 n hn16
    have eto : ∀ a, a < am w n → g (t + 4) (n * 3 + a) = nI (tg w n a) := fun a ha => by
      have := am_le hw hn16
      rw [hr _ (by omega) (by omega) (by omega) (by omega), tc_to hc hn16 (by omega)]
      exact (wi_t hw hn16 (by omega)).1
    have next : ∀ g1, (∀ b, b ≠ x → b ≠ x + 1 → b ≠ x + 2 → b ≠ x + 3 → g1 b = g b) → watN w op fl x (n + 1) g1 → wp (ev (d + 2)) P wa_run 114 [some (.ref x), some (.ref (t + 1)), some (.ref (t + 6)), some (.ref o), some (.int v4), some (.int (nI n))] [] (E g1 q) := by
      intro g1 f1 hW1
      rw [b_wa_run_114]
      simp -implicitDefEqProofs (disch := first | assumption | omega) only [szS_0, szS_i, szS_r, szS_l, x_cons, x_goto, ob_some, kl_i, kl_r, kl_l, kl_n, push_n, push_s, pop_0, pop_i, pop_r, Int.reduceToNat, List.length_cons, List.length_nil, Nat.reduceAdd, Nat.reduceLeDiff, Nat.zero_add, true_and, nI_n0, nat_le, Nat.add_zero, i_1, rt_wa_run, x_al0, x_al1, x_al2, x_al3, x_call, x_dupi, x_dupr, x_getf, x_goto, x_iadd, x_iaload, x_iastore, x_icge, x_icne, x_ifne, x_il4, x_il5, x_inc5, x_is5, x_ldc, x_putf, x_vret, nI_add]
      exact ih (n + 1) g1 (by omega) (fun b a1 a2 a3 a4 => by rw [f1 b a1 a2 a3 a4, hr b a1 a2 a3 a4]) hW1
    rw [b_wa_run_37]
    simp -implicitDefEqProofs (disch := first | assumption | omega) only [szS_0, szS_i, szS_r, szS_l, x_cons, x_goto, ob_some, kl_i, kl_r, kl_l, kl_n, push_n, push_s, pop_0, pop_i, pop_r, Int.reduceToNat, List.length_cons, List.length_nil, Nat.reduceAdd, Nat.reduceLeDiff, Nat.zero_add, true_and, nI_n0, nat_le, Nat.add_zero, i_1, rt_wa_run, x_al0, x_al1, x_al2, x_al3, x_call, x_dupi, x_dupr, x_getf, x_goto, x_iadd, x_iaload, x_iastore, x_icge, x_icne, x_ifne, x_il4, x_il5, x_inc5, x_is5, x_ldc, x_putf, x_vret, tf_1_0, tf_1_1, tf_1_2, tf_1_3, tf_1_4, ts_1_0, tl_2, td_2, e1, e2, nI_ltE, hn', ↓reduceIte, nI_eqE]
    by_cases k0 : fd w n 0 = 0
    · have hod : ild (E g q) o (nI n) = some (.int (g o n)) := ldA ho ho2 hn16 (by decide)
      have eo : g o n = nI (op n) := by rw [hr _ hox.1 hox.2.1 hox.2.2.1 hox.2.2.2]; exact hop n hn' k0
      have e7 : g (t + 7) 1 = nI (vN w 7) := by rw [hr _ (by omega) (by omega) (by omega) (by omega), hc.1.2.2.2.2.2]; exact (wi_7 hw).1
      have hon := hO n hn' k0
      simp -implicitDefEqProofs (disch := first | assumption | omega) only [k0, ↓reduceIte, hod, eo, szS_0, szS_i, szS_r, szS_l, x_cons, x_goto, ob_some, kl_i, kl_r, kl_l, kl_n, push_n, push_s, pop_0, pop_i, pop_r, Int.reduceToNat, List.length_cons, List.length_nil, Nat.reduceAdd, Nat.reduceLeDiff, Nat.zero_add, true_and, nI_n0, nat_le, Nat.add_zero, i_1, rt_wa_run, x_al0, x_al1, x_al2, x_al3, x_call, x_dupi, x_dupr, x_getf, x_goto, x_iadd, x_iaload, x_iastore, x_icge, x_icne, x_ifne, x_il4, x_il5, x_inc5, x_is5, x_ldc, x_putf, x_vret, tf_6_0, tf_6_1, tf_6_2, tf_6_3, tf_6_4, tf_6_5, tf_6_6, tf_6_7, tf_6_8, tf_6_9, tf_6_10, ts_6_0, ts_6_1, ts_6_2, ts_6_3, ts_6_4, tl_7, td_7, e7]
      refine s_part hT hX hw hn16 (Nat.le_trans hcl hfl) hon.1 hon.2 (R := cmN w op fl n) hW.1 rfl (by rw [hr _ (by omega) (by omega) (by omega) (by omega), tc_am hc hn16]; exact (wi_1 hw hn16).1) eto fun g1 f1 h1 h2 h3 => ?_
      simp -implicitDefEqProofs (disch := first | assumption | omega) only [szS_0, szS_i, szS_r, szS_l, x_cons, x_goto, ob_some, kl_i, kl_r, kl_l, kl_n, push_n, push_s, pop_0, pop_i, pop_r, Int.reduceToNat, List.length_cons, List.length_nil, Nat.reduceAdd, Nat.reduceLeDiff, Nat.zero_add, true_and, nI_n0, nat_le, Nat.add_zero, i_1, rt_wa_run, x_al0, x_al1, x_al2, x_al3, x_call, x_dupi, x_dupr, x_getf, x_goto, x_iadd, x_iaload, x_iastore, x_icge, x_icne, x_ifne, x_il4, x_il5, x_inc5, x_is5, x_ldc, x_putf, x_vret]
      refine next g1 (fun b a1 a2 a3 a4 => f1 b a2 a4) ⟨fun m hm => ?_, fun m hm hs => ?_, fun m a hm ha => ?_, ?_, ?_⟩
      · have eF : SF w (op n) (cmA w op fl n) n m = cmF w op fl n m := sm_c _ fun a _ => by
          unfold snt
          rw [if_pos k0]
        rw [h1 m hm, cmN_s, eF]
      · by_cases e : m = n
        · rw [e] at hs
          omega
        · rw [f1 _ (by omega) (by omega)]
          exact hW.2.1 m (by omega) hs
      · have hml := am_le hw (n := m) (by omega)
        by_cases e : m = n
        · subst e
          rw [h2 a ha]
          unfold snt
          rw [if_pos k0]
        · rw [h3 _ fun a' ha' => by omega]
          exact hW.2.2.1 m a (by omega) ha
      · rw [f1 _ (by omega) (by omega), hW.2.2.2.1, wtS_s, if_neg (by rw [decide_eq_false (by omega)]; simp), Nat.or_zero]
      · rw [f1 _ (by omega) (by omega), hW.2.2.2.2]
        show _ = nI (_ + if fd w n 0 = 2 then _ else 0)
        rw [if_neg (by omega)]
        rfl
    · simp only [k0, ↓reduceIte]
      simp -implicitDefEqProofs (disch := first | assumption | omega) only [b_wa_run_76, szS_0, szS_i, szS_r, szS_l, x_cons, x_goto, ob_some, kl_i, kl_r, kl_l, kl_n, push_n, push_s, pop_0, pop_i, pop_r, Int.reduceToNat, List.length_cons, List.length_nil, Nat.reduceAdd, Nat.reduceLeDiff, Nat.zero_add, true_and, nI_n0, nat_le, Nat.add_zero, i_1, rt_wa_run, x_al0, x_al1, x_al2, x_al3, x_call, x_dupi, x_dupr, x_getf, x_goto, x_iadd, x_iaload, x_iastore, x_icge, x_icne, x_ifne, x_il4, x_il5, x_inc5, x_is5, x_ldc, x_putf, x_vret, tf_1_0, tf_1_1, tf_1_2, tf_1_3, tf_1_4, ts_1_0, tl_2, td_2, e2, nI_eqE]
      by_cases k1 : fd w n 0 = 1
      · have htw := wi_T hw hn' k1
        have hct := tc_t hc hn16
        simp -implicitDefEqProofs (disch := first | assumption | omega) only [k1, ↓reduceIte, szS_0, szS_i, szS_r, szS_l, x_cons, x_goto, ob_some, kl_i, kl_r, kl_l, kl_n, push_n, push_s, pop_0, pop_i, pop_r, Int.reduceToNat, List.length_cons, List.length_nil, Nat.reduceAdd, Nat.reduceLeDiff, Nat.zero_add, true_and, nI_n0, nat_le, Nat.add_zero, i_1, rt_wa_run, x_al0, x_al1, x_al2, x_al3, x_call, x_dupi, x_dupr, x_getf, x_goto, x_iadd, x_iaload, x_iastore, x_icge, x_icne, x_ifne, x_il4, x_il5, x_inc5, x_is5, x_ldc, x_putf, x_vret]
        rw [s_serve hT hX hw hn' k1 (Nat.le_trans hcl hfl) (wtS_l (w := w) (op := op) (fl := fl) (n := n) (by omega)) (by rw [hr _ (by omega) (by omega) (by omega) (by omega), hr (t + 11) (by omega) (by omega) (by omega) (by omega), hr (t + 12) (by omega) (by omega) (by omega) (by omega)]; exact ⟨hct.2.1, hct.2.2.1, hct.2.2.2.1⟩) (eto 0 (by omega)) ecm hW.2.2.2.1]
        simp -implicitDefEqProofs (disch := first | assumption | omega) only [szS_0, szS_i, szS_r, szS_l, x_cons, x_goto, ob_some, kl_i, kl_r, kl_l, kl_n, push_n, push_s, pop_0, pop_i, pop_r, Int.reduceToNat, List.length_cons, List.length_nil, Nat.reduceAdd, Nat.reduceLeDiff, Nat.zero_add, true_and, nI_n0, nat_le, Nat.add_zero, i_1, rt_wa_run, x_al0, x_al1, x_al2, x_al3, x_call, x_dupi, x_dupr, x_getf, x_goto, x_iadd, x_iaload, x_iastore, x_icge, x_icne, x_ifne, x_il4, x_il5, x_inc5, x_is5, x_ldc, x_putf, x_vret]
        refine next _ (fun b a1 a2 a3 a4 => by rw [upw_o a2, upw_o a4, upw_o a1, upw_o a3]) ⟨fun m hm => ?_, fun m hm hs => ?_, fun m a hm ha => ?_, ?_, ?_⟩
        · have htl := tg_lt hw hn16 (a := 0) (by omega)
          rw [upw_s, cmN_s]
          have eF : cmF w op fl n m = if tg w n 0 = m then snT w (cmA w op fl n) n else 0 := by
            unfold cmF
            rw [htw.1]
            show 0 + (if tg w n 0 = m then snt w op (cmA w op fl n) n 0 else 0) = _
            unfold snt
            rw [if_neg k0, Nat.zero_add]
          rw [eF]
          unfold pu
          by_cases e : m = tg w n 0
          · rw [if_pos e, hW.1 _ (by omega), nI_add, if_pos e.symm, e]
          · rw [if_neg e, hW.1 m hm, if_neg fun h => e h.symm]
            rfl
        · rw [upw_o (by omega), upw_o (by omega), upw_o (by omega), upw_s]
          unfold pu
          by_cases e : m = n
          · rw [if_pos e, e]
          · rw [if_neg e]
            exact hW.2.1 m (by omega) hs
        · rw [upw_o (by omega), upw_s]
          unfold pu
          have hml := am_le hw (n := m) (by omega)
          by_cases e : m = n
          · subst e
            have : a = 0 := by omega
            subst this
            rw [if_pos (by omega)]
            unfold snt
            rw [if_neg k0]
          · rw [if_neg (by omega)]
            exact hW.2.2.1 m a (by omega) ha
        · rw [upw_o (by omega), upw_o (by omega), upw_s, pu_s, wtS_s, decide_eq_true k1, Bool.true_and]
        · rw [upw_o (by omega), upw_o (by omega), upw_s, pu_n (by decide), hW.2.2.2.2]
          show _ = nI (_ + if fd w n 0 = 2 then _ else 0)
          rw [if_neg (by omega)]
          rfl
      · have k2 : fd w n 0 = 2 := by omega
        have hz2 := ((wi_f hw hn16).2.2.2.1 hn').2.2 k2
        simp -implicitDefEqProofs (disch := first | assumption | omega) only [k1, ↓reduceIte, b_wa_run_98, szS_0, szS_i, szS_r, szS_l, x_cons, x_goto, ob_some, kl_i, kl_r, kl_l, kl_n, push_n, push_s, pop_0, pop_i, pop_r, Int.reduceToNat, List.length_cons, List.length_nil, Nat.reduceAdd, Nat.reduceLeDiff, Nat.zero_add, true_and, nI_n0, nat_le, Nat.add_zero, i_1, rt_wa_run, x_al0, x_al1, x_al2, x_al3, x_call, x_dupi, x_dupr, x_getf, x_goto, x_iadd, x_iaload, x_iastore, x_icge, x_icne, x_ifne, x_il4, x_il5, x_inc5, x_is5, x_ldc, x_putf, x_vret, xf_0, xf_1, xf_2, xf_3, xf_4, xs_3, xs_4, xl_1, xd_1, hW.2.2.2.2, ecm, nI_add, pu_g]
        refine next _ (fun b a1 a2 a3 a4 => by rw [upw_o a1]) ⟨fun m hm => ?_, fun m hm hs => ?_, fun m a hm ha => ?_, ?_, ?_⟩
        · rw [upw_o (by omega), hW.1 m hm, cmN_s]
          have eF : cmF w op fl n m = 0 := by
            unfold cmF am
            rw [hz2]
            rfl
          rw [eF]
          rfl
        · rw [upw_o (by omega)]
          by_cases e : m = n
          · rw [e] at hs
            omega
          · exact hW.2.1 m (by omega) hs
        · rw [upw_o (by omega)]
          by_cases e : m = n
          · rw [e] at ha
            unfold am at ha
            omega
          · exact hW.2.2.1 m a (by omega) ha
        · rw [upw_s, pu_n (by decide), hW.2.2.2.1, wtS_s, if_neg (by rw [decide_eq_false k1]; simp), Nat.or_zero]
        · rw [upw_s, pu_s]
          show _ = nI (_ + if fd w n 0 = 2 then _ else 0)
          rw [if_pos k2]
theorem s_waRun (hT : t = 1 ∨ t = 31 ∨ t = 61) (hX : x = 175 ∨ x = 185) (hw : WI w) (hc : Tc t w g) {o : Nat} {op : Nat → Nat} (ho : kd o = (0, 16)) (ho2 : o < 220) (hox : o ≠ x ∧ o ≠ x + 1 ∧ o ≠ x + 2 ∧ o ≠ x + 3) (hop : ∀ n, n < nn w → fd w n 0 = 0 → g o n = nI (op n)) (hO : opO w op) {fl : Nat} (hfl : fl ≤ 1998)
    (H : ∀ g', (∀ b, b ≠ x → b ≠ x + 1 → b ≠ x + 2 → b ≠ x + 3 → g' b = g b) → watN w op fl x (nn w) g' → P none (E g' q)) :
    callC (ev (d + 3)) wa_run [.ref x, .ref (t + 1), .ref (t + 6), .ref o, .int (nI fl)] (E g q) P := by
  refine in_wa_run (by rcases hX with rfl | rfl <;> rfl) ?_
  rw [b_wa_run_0]
  simp -implicitDefEqProofs (disch := first | assumption | omega) only [szS_0, szS_i, szS_r, szS_l, x_cons, x_goto, ob_some, kl_i, kl_r, kl_l, kl_n, push_n, push_s, pop_0, pop_i, pop_r, Int.reduceToNat, List.length_cons, List.length_nil, Nat.reduceAdd, Nat.reduceLeDiff, Nat.zero_add, true_and, nI_n0, nat_le, Nat.add_zero, i_1, rt_wa_run, x_al0, x_al1, x_al2, x_al3, x_call, x_dupi, x_dupr, x_getf, x_goto, x_iadd, x_iaload, x_iastore, x_icge, x_icne, x_ifne, x_il4, x_il5, x_inc5, x_is5, x_ldc, x_putf, x_vret, xf_0, xf_1, xf_2, xf_3, xf_4, xs_3, xs_4]
  refine s_fill (xk_1 hX) (by omega) (by decide) fun r1 hr1 => ?_
  simp -implicitDefEqProofs (disch := first | assumption | omega) only [szS_0, szS_i, szS_r, szS_l, x_cons, x_goto, ob_some, kl_i, kl_r, kl_l, kl_n, push_n, push_s, pop_0, pop_i, pop_r, Int.reduceToNat, List.length_cons, List.length_nil, Nat.reduceAdd, Nat.reduceLeDiff, Nat.zero_add, true_and, nI_n0, nat_le, Nat.add_zero, i_1, rt_wa_run, x_al0, x_al1, x_al2, x_al3, x_call, x_dupi, x_dupr, x_getf, x_goto, x_iadd, x_iaload, x_iastore, x_icge, x_icne, x_ifne, x_il4, x_il5, x_inc5, x_is5, x_ldc, x_putf, x_vret, xf_0, xf_1, xf_2, xf_3, xf_4, xs_3, xs_4]
  refine s_fill (xk_3 hX) (by omega) (by decide) fun r2 hr2 => ?_
  simp -implicitDefEqProofs (disch := first | assumption | omega) only [szS_0, szS_i, szS_r, szS_l, x_cons, x_goto, ob_some, kl_i, kl_r, kl_l, kl_n, push_n, push_s, pop_0, pop_i, pop_r, Int.reduceToNat, List.length_cons, List.length_nil, Nat.reduceAdd, Nat.reduceLeDiff, Nat.zero_add, true_and, nI_n0, nat_le, Nat.add_zero, i_1, rt_wa_run, x_al0, x_al1, x_al2, x_al3, x_call, x_dupi, x_dupr, x_getf, x_goto, x_iadd, x_iaload, x_iastore, x_icge, x_icne, x_ifne, x_il4, x_il5, x_inc5, x_is5, x_ldc, x_putf, x_vret, xf_0, xf_1, xf_2, xf_3, xf_4, xs_3, xs_4, xl_1, xd_1, pu_g, upw_o, upw_s, upw_w]
  refine wr_lp hT hX hw hc ho ho2 hox hop hO hfl H (nn w) 0 _ (Nat.zero_add _) (fun b a1 a2 a3 a4 => ?_) ⟨fun m hm => ?_, fun m hm => absurd hm (Nat.not_lt_zero m), fun m a hm => absurd hm (Nat.not_lt_zero m), ?_, ?_⟩
  · rw [upw_o (by omega), upw_o (by omega), upw_o (by omega), upw_o (by omega)]
  · rw [upw_s]
    show (if m = 0 then nI fl else r1 m) = nI (if m = 0 then fl else 0)
    split
    · rfl
    · exact hr1 m hm
  · rw [upw_o (by omega), upw_s, pu_n (by decide), pu_s]
    rfl
  · rw [upw_o (by omega), upw_s, pu_s]
    rfl
end CX
