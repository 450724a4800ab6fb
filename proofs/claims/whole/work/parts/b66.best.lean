/-! the best arm to dig; the water over what is half tied: made by wip/whole/tools/p66.py -/
/-- what the water reads of a Told -/
def Tw (t : Nat) (w : Nat → Int32) (g : Nat → Nat → Int32) : Prop := Ts t w g ∧ g (t + 7) 1 = w 7 ∧ ∀ n, n < 16 → True ∧ g (t + 10) n = w (10 + 20 * n + 11) ∧ g (t + 11) n = w (10 + 20 * n + 15) ∧ g (t + 12) n = w (10 + 20 * n + 16) ∧ True
theorem Tw_of {t : Nat} {w : Nat → Int32} {g : Nat → Nat → Int32} (h : Tc t w g) : Tw t w g := ⟨⟨tc_n h, h.2.1, h.2.2.1⟩, h.1.2.2.2.2.2, fun n hn => ⟨trivial, (tc_t h hn).2.1, (tc_t h hn).2.2.1, (tc_t h hn).2.2.2.1, trivial⟩⟩
section CX2
variable {d : Nat} {g : Nat → Nat → Int32} {q : Nat → Nat → Int64} {P : QT} {t x : Nat} {w : Nat → Int32}
theorem wr_lpW (hT : t = 1 ∨ t = 31 ∨ t = 61) (hX : x = 175 ∨ x = 185) (hw : WI w) {g0 : Nat → Nat → Int32} (hc : Tw t w g0) {o : Nat} {op : Nat → Nat} (ho : kd o = (0, 16)) (ho2 : o < 220) (hox : o ≠ x ∧ o ≠ x + 1 ∧ o ≠ x + 2 ∧ o ≠ x + 3) (hop : ∀ n, n < nn w → fd w n 0 = 0 → g0 o n = nI (op n)) (hO : opO w op) {fl : Nat} (hfl : fl ≤ 1998) {v4 : Int32}
    (H : ∀ g', (∀ b, b ≠ x → b ≠ x + 1 → b ≠ x + 2 → b ≠ x + 3 → g' b = g0 b) → watN w op fl x (nn w) g' → P none (E g' q)) :
    ∀ (j n : Nat) (g : Nat → Nat → Int32), n + j = nn w → (∀ b, b ≠ x → b ≠ x + 1 → b ≠ x + 2 → b ≠ x + 3 → g b = g0 b) → watN w op fl x n g →
    wp (ev (d + 2)) P wa_run 37 [some (.ref x), some (.ref (t + 1)), some (.ref (t + 6)), some (.ref o), some (.int v4), some (.int (nI n))] [] (E g q) := by
  have h0 := wi_n hw
  intro j
  induction j with
  | zero =>
    intro n g hn hr hW
    have hn : n = nn w := hn
    have e1 : g (t + 1) 0 = nI (nn w) := by rw [hr _ (by omega) (by omega) (by omega) (by omega), ts_n hc.1]; exact h0.1
    rw [b_wa_run_37]
    simp -implicitDefEqProofs (disch := first | assumption | omega) only [szS_0, szS_i, szS_r, szS_l, x_cons, x_goto, ob_some, kl_i, kl_r, kl_l, kl_n, push_n, push_s, pop_0, pop_i, pop_r, Int.reduceToNat, List.length_cons, List.length_nil, Nat.reduceAdd, Nat.reduceLeDiff, Nat.zero_add, true_and, nI_n0, nat_le, Nat.add_zero, i_1, rt_wa_run, x_al0, x_al1, x_al2, x_al3, x_call, x_dupi, x_dupr, x_getf, x_goto, x_iadd, x_iaload, x_iastore, x_icge, x_icne, x_ifne, x_il4, x_il5, x_inc5, x_is5, x_ldc, x_putf, x_vret, tf_1_0, tf_1_1, tf_1_2, tf_1_3, tf_1_4, ts_1_0, e1, hn, nI_ltE, Nat.lt_irrefl, ↓reduceIte, b_wa_run_120]
    exact H g hr (by rw [← hn]; exact hW)
  | succ j ih =>
    intro n g hn hr hW
    have hn' : n < nn w := by omega
    have hn16 : n < 16 := by omega
    have e1 : g (t + 1) 0 = nI (nn w) := by rw [hr _ (by omega) (by omega) (by omega) (by omega), ts_n hc.1]; exact h0.1
    have hz := wi_0 hw hn16
    have e2 : g (t + 2) n = nI (fd w n 0) := by rw [hr _ (by omega) (by omega) (by omega) (by omega), ts_so hc.1 hn16]; exact hz.1
    have hcl := cm_le hw hO (fl := fl) hn16
    have ecm : g (x + 1) n = nI (cmA w op fl n) := hW.1 n hn16
    have eto : ∀ a, a < am w n → g (t + 4) (n * 3 + a) = nI (tg w n a) := fun a ha => by
      have := am_le hw hn16
      rw [hr _ (by omega) (by omega) (by omega) (by omega), ts_to hc.1 hn16 (by omega)]
      exact (wi_t hw hn16 (by omega)).1
    have next : ∀ g1, (∀ b, b ≠ x → b ≠ x + 1 → b ≠ x + 2 → b ≠ x + 3 → g1 b = g b) → watN w op fl x (n + 1) g1 → wp (ev (d + 2)) P wa_run 114 [some (.ref x), some (.ref (t + 1)), some (.ref (t + 6)), some (.ref o), some (.int v4), some (.int (nI n))] [] (E g1 q) := by
      intro g1 f1 hW1
      rw [b_wa_run_114]
      simp -implicitDefEqProofs (disch := first | assumption | omega) only [szS_0, szS_i, szS_r, szS_l, x_cons, x_goto, ob_some, kl_i, kl_r, kl_l, kl_n, push_n, push_s, pop_0, pop_i, pop_r, Int.reduceToNat, List.length_cons, List.length_nil, Nat.reduceAdd, Nat.reduceLeDiff, Nat.zero_add, true_and, nI_n0, nat_le, Nat.add_zero, i_1, rt_wa_run, x_al0, x_al1, x_al2, x_al3, x_call, x_dupi, x_dupr, x_getf, x_goto, x_iadd, x_iaload, x_iastore, x_icge, x_icne, x_ifne, x_il4, x_il5, x_inc5, x_is5, x_ldc, x_putf, x_vret, nI_add]
      exact ih (n + 1) g1 (by omega) (fun b a1 a2 a3 a4 => by rw [f1 b a1 a2 a3 a4, hr b a1 a2 a3 a4]) hW1
    rw [b_wa_run_37]
    simp -implicitDefEqProofs (disch := first | assumption | omega) only [szS_0, szS_i, szS_r, szS_l, x_cons, x_goto, ob_some, kl_i, kl_r, kl_l, kl_n, push_n, push_s, pop_0, pop_i, pop_r, Int.reduceToNat, List.length_cons, List.length_nil, Nat.reduceAdd, Nat.reduceLeDiff, Nat.zero_add, true_and, nI_n0, nat_le, Nat.add_zero, i_1, rt_wa_run, x_al0, x_al1, x_al2, x_al3, x_call, x_dupi, x_dupr, x_getf, x_goto, x_iadd, x_iaload, x_iastore, x_icge, x_icne, x_ifne, x_il4, x_il5, x_inc5, x_is5, x_ldc, x_putf, x_vret, tf_1_0, tf_1_1, tf_1_2, tf_1_3, tf_1_4, ts_1_0, tl_2, td_2, e1, e2, nI_ltE, hn', ↓reduceIte, nI_eqE]
    by_cases k0 : fd w n 0 = 0
    · have hod : ild (E g q) o (nI n) = some (.int (g o n)) := ldA ho ho2 hn16 (by decide)
      have eo : g o n = nI (op n) := by rw [hr _ hox.1 hox.2.1 hox.2.2.1 hox.2.2.2]; exact hop n hn' k0
      have e7 : g (t + 7) 1 = nI (vN w 7) := by rw [hr _ (by omega) (by omega) (by omega) (by omega), hc.2.1]; exact (wi_7 hw).1
      have hon := hO n hn' k0
      simp -implicitDefEqProofs (disch := first | assumption | omega) only [k0, ↓reduceIte, hod, eo, szS_0, szS_i, szS_r, szS_l, x_cons, x_goto, ob_some, kl_i, kl_r, kl_l, kl_n, push_n, push_s, pop_0, pop_i, pop_r, Int.reduceToNat, List.length_cons, List.length_nil, Nat.reduceAdd, Nat.reduceLeDiff, Nat.zero_add, true_and, nI_n0, nat_le, Nat.add_zero, i_1, rt_wa_run, x_al0, x_al1, x_al2, x_al3, x_call, x_dupi, x_dupr, x_getf, x_goto, x_iadd, x_iaload, x_iastore, x_icge, x_icne, x_ifne, x_il4, x_il5, x_inc5, x_is5, x_ldc, x_putf, x_vret, tf_6_0, tf_6_1, tf_6_2, tf_6_3, tf_6_4, tf_6_5, tf_6_6, tf_6_7, tf_6_8, tf_6_9, tf_6_10, ts_6_0, ts_6_1, ts_6_2, ts_6_3, ts_6_4, tl_7, td_7, e7]
      refine s_part hT hX hw hn16 (Nat.le_trans hcl hfl) hon.1 hon.2 (R := cmN w op fl n) hW.1 rfl (by rw [hr _ (by omega) (by omega) (by omega) (by omega), ts_am hc.1 hn16]; exact (wi_1 hw hn16).1) eto fun g1 f1 h1 h2 h3 => ?_
      simp -implicitDefEqProofs (disch := first | assumption | omega) only [szS_0, szS_i, szS_r, szS_l, x_cons, x_goto, ob_some, kl_i, kl_r, kl_l, kl_n, push_n, push_s, pop_0, pop_i, pop_r, Int.reduceToNat, List.length_cons, List.length_nil, Nat.reduceAdd, Nat.reduceLeDiff, Nat.zero_add, true_and, nI_n0, nat_le, Nat.add_zero, i_1, rt_wa_run, x_al0, x_al1, x_al2, x_al3, x_call, x_dupi, x_dupr, x_getf, x_goto, x_iadd, x_iaload, x_iastore, x_icge, x_icne, x_ifne, x_il4, x_il5, x_inc5, x_is5, x_ldc, x_putf, x_vret]
      refine next g1 (fun b a1 a2 a3 a4 => f1 b a2 a4) ⟨fun m hm => ?_, fun m hm hs => ?_, fun m a hm ha => ?_, ?_, ?_⟩
      · have eF : SF w (op n) (cmA w op fl n) n m = cmF w op fl n m := sm_c _ fun a _ => by
          unfold snt
          rw [if_pos k0]
        rw [h1 m hm, cmN_s, eF]
      · by_cases e : m = n
        · rw [e] at hs
          omega
        · rw [f1 _ (by omega) (by omega)]
          exact hW.2.1 m (by omega) hs
      · have hml := am_le hw (n := m) (by omega)
        by_cases e : m = n
        · subst e
          rw [h2 a ha]
          unfold snt
          rw [if_pos k0]
        · rw [h3 _ fun a' ha' => by omega]
          exact hW.2.2.1 m a (by omega) ha
      · rw [f1 _ (by omega) (by omega), hW.2.2.2.1, wtS_s, if_neg (by rw [decide_eq_false (by omega)]; simp), Nat.or_zero]
      · rw [f1 _ (by omega) (by omega), hW.2.2.2.2]
        show _ = nI (_ + if fd w n 0 = 2 then _ else 0)
        rw [if_neg (by omega)]
        rfl
    · simp only [k0, ↓reduceIte]
      simp -implicitDefEqProofs (disch := first | assumption | omega) only [b_wa_run_76, szS_0, szS_i, szS_r, szS_l, x_cons, x_goto, ob_some, kl_i, kl_r, kl_l, kl_n, push_n, push_s, pop_0, pop_i, pop_r, Int.reduceToNat, List.length_cons, List.length_nil, Nat.reduceAdd, Nat.reduceLeDiff, Nat.zero_add, true_and, nI_n0, nat_le, Nat.add_zero, i_1, rt_wa_run, x_al0, x_al1, x_al2, x_al3, x_call, x_dupi, x_dupr, x_getf, x_goto, x_iadd, x_iaload, x_iastore, x_icge, x_icne, x_ifne, x_il4, x_il5, x_inc5, x_is5, x_ldc, x_putf, x_vret, tf_1_0, tf_1_1, tf_1_2, tf_1_3, tf_1_4, ts_1_0, tl_2, td_2, e2, nI_eqE]
      by_cases k1 : fd w n 0 = 1
      · have htw := wi_T hw hn' k1
        have hct := hc.2.2 n hn16
        simp -implicitDefEqProofs (disch := first | assumption | omega) only [k1, ↓reduceIte, szS_0, szS_i, szS_r, szS_l, x_cons, x_goto, ob_some, kl_i, kl_r, kl_l, kl_n, push_n, push_s, pop_0, pop_i, pop_r, Int.reduceToNat, List.length_cons, List.length_nil, Nat.reduceAdd, Nat.reduceLeDiff, Nat.zero_add, true_and, nI_n0, nat_le, Nat.add_zero, i_1, rt_wa_run, x_al0, x_al1, x_al2, x_al3, x_call, x_dupi, x_dupr, x_getf, x_goto, x_iadd, x_iaload, x_iastore, x_icge, x_icne, x_ifne, x_il4, x_il5, x_inc5, x_is5, x_ldc, x_putf, x_vret]
        rw [s_serve hT hX hw hn' k1 (Nat.le_trans hcl hfl) (wtS_l (w := w) (op := op) (fl := fl) (n := n) (by omega)) (by rw [hr _ (by omega) (by omega) (by omega) (by omega), hr (t + 11) (by omega) (by omega) (by omega) (by omega), hr (t + 12) (by omega) (by omega) (by omega) (by omega)]; exact ⟨hct.2.1, hct.2.2.1, hct.2.2.2.1⟩) (eto 0 (by omega)) ecm hW.2.2.2.1]
        simp -implicitDefEqProofs (disch := first | assumption | omega) only [szS_0, szS_i, szS_r, szS_l, x_cons, x_goto, ob_some, kl_i, kl_r, kl_l, kl_n, push_n, push_s, pop_0, pop_i, pop_r, Int.reduceToNat, List.length_cons, List.length_nil, Nat.reduceAdd, Nat.reduceLeDiff, Nat.zero_add, true_and, nI_n0, nat_le, Nat.add_zero, i_1, rt_wa_run, x_al0, x_al1, x_al2, x_al3, x_call, x_dupi, x_dupr, x_getf, x_goto, x_iadd, x_iaload, x_iastore, x_icge, x_icne, x_ifne, x_il4, x_il5, x_inc5, x_is5, x_ldc, x_putf, x_vret]
        refine next _ (fun b a1 a2 a3 a4 => by rw [upw_o a2, upw_o a4, upw_o a1, upw_o a3]) ⟨fun m hm => ?_, fun m hm hs => ?_, fun m a hm ha => ?_, ?_, ?_⟩
        · have htl := tg_lt hw hn16 (a := 0) (by omega)
          rw [upw_s, cmN_s]
          have eF : cmF w op fl n m = if tg w n 0 = m then snT w (cmA w op fl n) n else 0 := by
            unfold cmF
            rw [htw.1]
            show 0 + (if tg w n 0 = m then snt w op (cmA w op fl n) n 0 else 0) = _
            unfold snt
            rw [if_neg k0, Nat.zero_add]
          rw [eF]
          unfold pu
          by_cases e : m = tg w n 0
          · rw [if_pos e, hW.1 _ (by omega), nI_add, if_pos e.symm, e]
          · rw [if_neg e, hW.1 m hm, if_neg fun h => e h.symm]
            rfl
        · rw [upw_o (by omega), upw_o (by omega), upw_o (by omega), upw_s]
          unfold pu
          by_cases e : m = n
          · rw [if_pos e, e]
          · rw [if_neg e]
            exact hW.2.1 m (by omega) hs
        · rw [upw_o (by omega), upw_s]
          unfold pu
          have hml := am_le hw (n := m) (by omega)
          by_cases e : m = n
          · subst e
            have : a = 0 := by omega
            subst this
            rw [if_pos (by omega)]
            unfold snt
            rw [if_neg k0]
          · rw [if_neg (by omega)]
            exact hW.2.2.1 m a (by omega) ha
        · rw [upw_o (by omega), upw_o (by omega), upw_s, pu_s, wtS_s, decide_eq_true k1, Bool.true_and]
        · rw [upw_o (by omega), upw_o (by omega), upw_s, pu_n (by decide), hW.2.2.2.2]
          show _ = nI (_ + if fd w n 0 = 2 then _ else 0)
          rw [if_neg (by omega)]
          rfl
      · have k2 : fd w n 0 = 2 := by omega
        have hz2 := ((wi_f hw hn16).2.2.2.1 hn').2.2 k2
        simp -implicitDefEqProofs (disch := first | assumption | omega) only [k1, ↓reduceIte, b_wa_run_98, szS_0, szS_i, szS_r, szS_l, x_cons, x_goto, ob_some, kl_i, kl_r, kl_l, kl_n, push_n, push_s, pop_0, pop_i, pop_r, Int.reduceToNat, List.length_cons, List.length_nil, Nat.reduceAdd, Nat.reduceLeDiff, Nat.zero_add, true_and, nI_n0, nat_le, Nat.add_zero, i_1, rt_wa_run, x_al0, x_al1, x_al2, x_al3, x_call, x_dupi, x_dupr, x_getf, x_goto, x_iadd, x_iaload, x_iastore, x_icge, x_icne, x_ifne, x_il4, x_il5, x_inc5, x_is5, x_ldc, x_putf, x_vret, xf_0, xf_1, xf_2, xf_3, xf_4, xs_3, xs_4, xl_1, xd_1, hW.2.2.2.2, ecm, nI_add, pu_g]
        refine next _ (fun b a1 a2 a3 a4 => by rw [upw_o a1]) ⟨fun m hm => ?_, fun m hm hs => ?_, fun m a hm ha => ?_, ?_, ?_⟩
        · rw [upw_o (by omega), hW.1 m hm, cmN_s]
          have eF : cmF w op fl n m = 0 := by
            unfold cmF am
            rw [hz2]
            rfl
          rw [eF]
          rfl
        · rw [upw_o (by omega)]
          by_cases e : m = n
          · rw [e] at hs
            omega
          · exact hW.2.1 m (by omega) hs
        · rw [upw_o (by omega)]
          by_cases e : m = n
          · rw [e] at ha
            unfold am at ha
            omega
          · exact hW.2.2.1 m a (by omega) ha
        · rw [upw_s, pu_n (by decide), hW.2.2.2.1, wtS_s, if_neg (by rw [decide_eq_false k1]; simp), Nat.or_zero]
        · rw [upw_s, pu_s]
          show _ = nI (_ + if fd w n 0 = 2 then _ else 0)
          rw [if_pos k2]
theorem s_waRunW (hT : t = 1 ∨ t = 31 ∨ t = 61) (hX : x = 175 ∨ x = 185) (hw : WI w) (hc : Tw t w g) {o : Nat} {op : Nat → Nat} (ho : kd o = (0, 16)) (ho2 : o < 220) (hox : o ≠ x ∧ o ≠ x + 1 ∧ o ≠ x + 2 ∧ o ≠ x + 3) (hop : ∀ n, n < nn w → fd w n 0 = 0 → g o n = nI (op n)) (hO : opO w op) {fl : Nat} (hfl : fl ≤ 1998)
    (H : ∀ g', (∀ b, b ≠ x → b ≠ x + 1 → b ≠ x + 2 → b ≠ x + 3 → g' b = g b) → watN w op fl x (nn w) g' → P none (E g' q)) :
    callC (ev (d + 3)) wa_run [.ref x, .ref (t + 1), .ref (t + 6), .ref o, .int (nI fl)] (E g q) P := by
  refine in_wa_run (by rcases hX with rfl | rfl <;> rfl) ?_
  rw [b_wa_run_0]
  simp -implicitDefEqProofs (disch := first | assumption | omega) only [szS_0, szS_i, szS_r, szS_l, x_cons, x_goto, ob_some, kl_i, kl_r, kl_l, kl_n, push_n, push_s, pop_0, pop_i, pop_r, Int.reduceToNat, List.length_cons, List.length_nil, Nat.reduceAdd, Nat.reduceLeDiff, Nat.zero_add, true_and, nI_n0, nat_le, Nat.add_zero, i_1, rt_wa_run, x_al0, x_al1, x_al2, x_al3, x_call, x_dupi, x_dupr, x_getf, x_goto, x_iadd, x_iaload, x_iastore, x_icge, x_icne, x_ifne, x_il4, x_il5, x_inc5, x_is5, x_ldc, x_putf, x_vret, xf_0, xf_1, xf_2, xf_3, xf_4, xs_3, xs_4]
  refine s_fill (xk_1 hX) (by omega) (by decide) fun r1 hr1 => ?_
  simp -implicitDefEqProofs (disch := first | assumption | omega) only [szS_0, szS_i, szS_r, szS_l, x_cons, x_goto, ob_some, kl_i, kl_r, kl_l, kl_n, push_n, push_s, pop_0, pop_i, pop_r, Int.reduceToNat, List.length_cons, List.length_nil, Nat.reduceAdd, Nat.reduceLeDiff, Nat.zero_add, true_and, nI_n0, nat_le, Nat.add_zero, i_1, rt_wa_run, x_al0, x_al1, x_al2, x_al3, x_call, x_dupi, x_dupr, x_getf, x_goto, x_iadd, x_iaload, x_iastore, x_icge, x_icne, x_ifne, x_il4, x_il5, x_inc5, x_is5, x_ldc, x_putf, x_vret, xf_0, xf_1, xf_2, xf_3, xf_4, xs_3, xs_4]
  refine s_fill (xk_3 hX) (by omega) (by decide) fun r2 hr2 => ?_
  simp -implicitDefEqProofs (disch := first | assumption | omega) only [szS_0, szS_i, szS_r, szS_l, x_cons, x_goto, ob_some, kl_i, kl_r, kl_l, kl_n, push_n, push_s, pop_0, pop_i, pop_r, Int.reduceToNat, List.length_cons, List.length_nil, Nat.reduceAdd, Nat.reduceLeDiff, Nat.zero_add, true_and, nI_n0, nat_le, Nat.add_zero, i_1, rt_wa_run, x_al0, x_al1, x_al2, x_al3, x_call, x_dupi, x_dupr, x_getf, x_goto, x_iadd, x_iaload, x_iastore, x_icge, x_icne, x_ifne, x_il4, x_il5, x_inc5, x_is5, x_ldc, x_putf, x_vret, xf_0, xf_1, xf_2, xf_3, xf_4, xs_3, xs_4, xl_1, xd_1, pu_g, upw_o, upw_s, upw_w]
  refine wr_lpW hT hX hw hc ho ho2 hox hop hO hfl H (nn w) 0 _ (Nat.zero_add _) (fun b a1 a2 a3 a4 => ?_) ⟨fun m hm => ?_, fun m hm => absurd hm (Nat.not_lt_zero m), fun m a hm => absurd hm (Nat.not_lt_zero m), ?_, ?_⟩
  · rw [upw_o (by omega), upw_o (by omega), upw_o (by omega), upw_o (by omega)]
  · rw [upw_s]
    show (if m = 0 then nI fl else r1 m) = nI (if m = 0 then fl else 0)
    split
    · rfl
    · exact hr1 m hm
  · rw [upw_o (by omega), upw_s, pu_n (by decide), pu_s]
    rfl
  · rw [upw_o (by omega), upw_s, pu_s]
    rfl
end CX2
theorem flN_w {w : Nat → Int32} {fl n : Nat} (hs : fd w n 0 = 1) : ∀ k, n < k → flN w fl k (10 + 20 * n + 17) = nI (if wetP w (cmA w (fun n => fd w n 5) fl n) n = true then 1 else 0) ∧ flN w fl k (10 + 20 * n + 12) = nI (cmA w (fun n => fd w n 5) fl n)
  | 0, h => absurd h (Nat.not_lt_zero _)
  | k + 1, h => by
    have e : flN w fl (k + 1) = if fd w k 0 = 0 then flN w fl k else if fd w k 0 = 1 then drk (flN w fl k) w (cmA w (fun n => fd w n 5) fl k) k else pu (flN w fl k) 3 (flN w fl k 3 + nI (cmA w (fun n => fd w n 5) fl k)) := rfl
    rw [e]
    by_cases h2 : n = k
    · subst h2
      rw [if_neg (by omega), if_pos hs]
      exact ⟨drk_17, drk_12⟩
    · have ih := flN_w (fl := fl) hs k (by omega)
      split
      · exact ih
      · split
        · rw [drk_o (by omega) (by omega) (by omega) (by omega), drk_o (by omega) (by omega) (by omega) (by omega)]
          exact ih
        · rw [pu_n (by omega), pu_n (by omega)]
          exact ih
theorem flR_w {w : Nat → Int32} (h : WI w) {fl n : Nat} (hn : n < nn w) (hs : fd w n 0 = 1) : flR w fl (10 + 20 * n + 17) = nI (if wetP w (cmA w (fun n => fd w n 5) fl n) n = true then 1 else 0) ∧ flR w fl (10 + 20 * n + 12) = nI (cmA w (fun n => fd w n 5) fl n) := by
  have h0 := wi_n h
  unfold flR
  rw [cmw_o (by omega), cmw_o (by omega)]
  exact flN_w hs _ hn
/-- the towns that are wet when the open arms stay -/
def wtW (w : Nat → Int32) : Nat := wtS w (fun n => fd w n 5) (vN w 6) (nn w)
/-- the heads that are wet then -/
def hbW (w : Nat → Int32) : Nat := hsF w (wtW w) (nn w)
theorem wtW_l {w : Nat → Int32} (h : WI w) : wtW w < 65536 := wtS_l (by have := wi_n h; omega)
theorem hbW_l {w : Nat → Int32} (h : WI w) : hbW w ≤ 6000000 := by
  have h0 := wi_n h
  have h1 := hsF_l (w := w) (s := wtW w) (nn w)
  have h2 := sumH_m (w := w) (n := nn w) (m := 16) (by omega)
  have h3 := WI_s h
  unfold hbW
  omega
/-- an arm that goes elsewhere -/
def dgR (w : Nat → Int32) (f a n : Nat) : Nat → Int32 := pu w (10 + 20 * f + (2 + a)) (nI n)
/-- heads, fork (99: none), arm, node -/
abbrev BS : Type := Nat × Nat × Nat × Nat
def bs1 (w : Nat → Int32) (f a n : Nat) (s : BS) : BS := if s.1 < hbW (dgR w f a n) then (hbW (dgR w f a n), f, a, n) else s
def bsN (w : Nat → Int32) (f a : Nat) : Nat → Nat → BS → BS
  | 0, _, s => s
  | j + 1, n, s => bsN w f a j (n + 1) (bs1 w f a n s)
def bsA (w : Nat → Int32) (f : Nat) : Nat → Nat → BS → BS
  | 0, _, s => s
  | j + 1, a, s => bsA w f j (a + 1) (bsN w f a (nn w - (f + 1)) (f + 1) s)
def bsF (w : Nat → Int32) : Nat → Nat → BS → BS
  | 0, _, s => s
  | j + 1, f, s => bsF w j (f + 1) (if fd w f 0 = 0 then bsA w f (am w f) 0 s else s)
def bsE (w : Nat → Int32) : BS := bsF w (nn w) 0 (hbW w, 99, 0, 0)
def bsV (w : Nat → Int32) (k : Int32) : Int32 :=
  if decide (nI 0 ≤ k ∧ k ≤ nI 3) = true then (if (bsE w).2.1 = 99 then -1 else if k = nI 0 then nI (bsE w).2.1 else if k = nI 1 then nI (bsE w).2.2.1 else if k = nI 2 then nI (bsE w).2.2.2 else nI (bsE w).1) else -1
/-- what has been found so far can be -/
def bsO (w : Nat → Int32) (s : BS) : Prop := s.1 ≤ 6000000 ∧ hbW w ≤ s.1 ∧ (s.2.1 = 99 ∨ s.2.1 < 16) ∧ s.2.2.1 < 16 ∧ s.2.2.2 < 16
theorem dg_wi {w : Nat → Int32} (h : WI w) {f a n : Nat} (hf : f < nn w) (ha : a < am w f) (h1 : f < n) (h2 : n < nn w) : WI (dgR w f a n) := WI_dig h hf ha h1 h2
theorem bs1_O {w : Nat → Int32} (h : WI w) {f a n : Nat} (hf : f < nn w) (ha : a < am w f) (h1 : f < n) (h2 : n < nn w) {s : BS} (hs : bsO w s) : bsO w (bs1 w f a n s) := by
  have h0 := wi_n h
  have ha3 := am_le h (n := f) (by omega)
  have hb := hbW_l (dg_wi h hf ha h1 h2)
  unfold bs1
  split
  · exact ⟨hb, by show hbW w ≤ hbW (dgR w f a n); have := hs.2.1; omega, Or.inr (by show f < 16; omega), by show a < 16; omega, by show n < 16; omega⟩
  · exact hs
/-- the arm where it is changes nothing -/
theorem bs1_w {w : Nat → Int32} (h : WI w) {f a : Nat} (hf : f < nn w) (ha : a < am w f) {s : BS} (hs : bsO w s) : bs1 w f a (tg w f a) s = s := by
  have h0 := wi_n h
  have ha3 := am_le h (n := f) (by omega)
  have e : dgR w f a (tg w f a) = w := by
    funext k
    unfold dgR pu
    split
    next e => rw [e, (wi_t h (n := f) (a := a) (by omega) (by omega)).1]; rfl
    next e => rfl
  unfold bs1
  rw [e, if_neg (by have := hs.2.1; omega)]
section CB2
variable {d : Nat} {g : Nat → Nat → Int32} {q : Nat → Nat → Int64} {P : QT} {w : Nat → Int32} {V M : LW}
/-- what the class's digging reads of the spare one -/
def Tb (w : Nat → Int32) (g : Nat → Nat → Int32) : Prop := Tw 61 w g ∧ g 68 0 = w 6 ∧ (∀ n, n < 16 → g 70 n = w (10 + 20 * n + 10)) ∧ ∀ n, n < nn w → fd w n 0 = 0 → g 78 n = w (10 + 20 * n + 5)
theorem Tb_of (h : Tc 61 w g) : Tb w g := ⟨Tw_of h, h.1.2.2.2.2.1, fun n hn => (tc_t h hn).1, fun n hn hs => (tc_f h hn hs).1⟩
theorem Tb_c {g' : Nat → Nat → Int32} (h : Tb w g) (e : ∀ b, 61 < b → b < 82 → g' b = g b) : Tb w g' := by
  obtain ⟨⟨⟨a1, a2, a3⟩, a4, a5⟩, b1, b2, b3⟩ := h
  refine ⟨⟨⟨by rw [e _ (by decide) (by decide)]; exact a1, fun n hn => ?_, fun n a hn ha => by rw [e _ (by decide) (by decide)]; exact a3 n a hn ha⟩, by rw [e _ (by decide) (by decide)]; exact a4, fun n hn => ?_⟩, by rw [e _ (by decide) (by decide)]; exact b1, fun n hn => by rw [e _ (by decide) (by decide)]; exact b2 n hn, fun n hn hs => by rw [e _ (by decide) (by decide)]; exact b3 n hn hs⟩
  · rw [e _ (by decide) (by decide), e _ (by decide) (by decide)]
    exact a2 n hn
  · rw [e (61 + 10) (by decide) (by decide), e (61 + 11) (by decide) (by decide), e (61 + 12) (by decide) (by decide)]
    exact a5 n hn
/-- an arm dug in the spare one -/
theorem Tb_d (h : Tb w g) {f a n : Nat} (hf : f < 16) (ha : a < 3) : Tb (dgR w f a n) (upw g 65 (pu (g 65) (f * 3 + a) (nI n))) := by
  obtain ⟨⟨⟨a1, a2, a3⟩, a4, a5⟩, b1, b2, b3⟩ := h
  have o : ∀ k, (∀ i, i < 3 → k ≠ 10 + 20 * f + (2 + i)) → dgR w f a n k = w k := fun k hk => pu_n (hk a ha)
  refine ⟨⟨⟨?_, fun m hm => ⟨?_, ?_⟩, fun m b hm hb => ?_⟩, ?_, fun m hm => ⟨trivial, ?_, ?_, ?_, trivial⟩⟩, ?_, fun m hm => ?_, fun m hm hs => ?_⟩
  · rw [upw_o (by decide), o _ fun i hi => by omega]; exact a1
  · rw [upw_o (by decide), o _ fun i hi => by omega]; exact (a2 m hm).1
  · rw [upw_o (by decide), o _ fun i hi => by omega]; exact (a2 m hm).2
  · rw [show 61 + 4 = 65 from rfl, upw_s]
    unfold dgR
    by_cases e : m = f ∧ b = a
    · rw [e.1, e.2, pu_s, pu_s]
    · rw [pu_n (by omega), pu_n (by omega)]
      exact a3 m b hm hb
  · rw [upw_o (by decide), o _ fun i hi => by omega]; exact a4
  · rw [upw_o (by decide), o _ fun i hi => by omega]; exact (a5 m hm).2.1
  · rw [upw_o (by decide), o _ fun i hi => by omega]; exact (a5 m hm).2.2.1
  · rw [upw_o (by decide), o _ fun i hi => by omega]; exact (a5 m hm).2.2.2.1
  · rw [upw_o (by decide), o _ fun i hi => by omega]; exact b1
  · rw [upw_o (by decide), o _ fun i hi => by omega]; exact b2 m hm
  · have e1 : nn (dgR w f a n) = nn w := nn_c (o _ fun i hi => by omega)
    have e2 : fd (dgR w f a n) m 0 = fd w m 0 := fd_c (o _ fun i hi => by omega)
    rw [e1] at hm
    rw [e2] at hs
    rw [upw_o (by decide), o _ fun i hi => by omega]
    exact b3 m hm hs
theorem wh_lp (hw : WI w) (e1 : g 62 0 = nI (nn w)) (h70 : ∀ n, n < 16 → g 70 n = w (10 + 20 * n + 10)) (hx : g 185 3 = nI (wtW w)) (H : P (some (.int (nI (hbW w)))) (E g q)) : ∀ (j n : Nat), n + j = nn w →
    wp (ev (d + 1)) P co_wetHeads 47 [some (.ref 184), some (.int (nI (hsF w (wtW w) n))), some (.int (nI n))] [] (E g q) := by
  have hN := wi_n hw
  have hl := wtW_l hw
  intro j
  induction j with
  | zero =>
    intro n hn
    have hn : n = nn w := hn
    rw [hn, b_co_wetHeads_47]
    simp -implicitDefEqProofs (disch := first | assumption | omega) only [szS_0, szS_i, szS_r, szS_l, x_cons, x_goto, ob_some, kl_i, kl_r, kl_l, kl_n, push_n, push_s, pop_0, pop_i, pop_r, Int.reduceToNat, List.length_cons, List.length_nil, Nat.reduceAdd, Nat.reduceLeDiff, Nat.zero_add, true_and, nI_n0, nat_le, Nat.add_zero, i_1, rt_co_wetHeads, x_aaload, x_al0, x_call, x_getf, x_goto, x_iadd, x_iaload, x_icge, x_ifeq, x_il1, x_il2, x_inc2, x_iret, x_is1, x_is2, x_ldc, fd_184_0, fd_184_1, fd_184_2, fd_184_3, fd_184_4, fd_184_5, fd_184_6, fd_184_7, sf_184_7, fd_184_8, sf_184_8, fd_184_9, fd_184_10, fd_184_11, fd_61_0, fd_61_1, fd_61_2, fd_61_3, fd_61_4, fd_62_0, sf_62_0, fd_62_1, fd_62_2, fd_62_3, fd_62_4, e1, nI_ltE, Nat.lt_irrefl, ↓reduceIte, b_co_wetHeads_98]
    exact H
  | succ j ih =>
    intro n hn
    have hn' : n < nn w := by omega
    have e2 : g 70 n = nI (fd w n 10) := (h70 n (by omega)).trans (wi_y hw (n := n) (by omega)).1.1
    have hi := ih (n + 1) (by omega)
    have eh : hsF w (wtW w) (n + 1) = hsF w (wtW w) n + (if (wtW w).testBit n = true then fd w n 10 else 0) := rfl
    rw [eh] at hi
    rw [b_co_wetHeads_47]
    simp -implicitDefEqProofs (disch := first | assumption | omega) only [szS_0, szS_i, szS_r, szS_l, x_cons, x_goto, ob_some, kl_i, kl_r, kl_l, kl_n, push_n, push_s, pop_0, pop_i, pop_r, Int.reduceToNat, List.length_cons, List.length_nil, Nat.reduceAdd, Nat.reduceLeDiff, Nat.zero_add, true_and, nI_n0, nat_le, Nat.add_zero, i_1, rt_co_wetHeads, x_aaload, x_al0, x_call, x_getf, x_goto, x_iadd, x_iaload, x_icge, x_ifeq, x_il1, x_il2, x_inc2, x_iret, x_is1, x_is2, x_ldc, fd_184_0, fd_184_1, fd_184_2, fd_184_3, fd_184_4, fd_184_5, fd_184_6, fd_184_7, sf_184_7, fd_184_8, sf_184_8, fd_184_9, fd_184_10, fd_184_11, fd_61_0, fd_61_1, fd_61_2, fd_61_3, fd_61_4, fd_62_0, sf_62_0, fd_62_1, fd_62_2, fd_62_3, fd_62_4, fd_185_0, fd_185_1, fd_185_2, fd_185_3, sf_185_3, fd_185_4, sf_185_4, e1, nI_ltE, hn', ↓reduceIte, hx]
    rw [s_holds (by omega) (by omega)]
    simp -implicitDefEqProofs (disch := first | assumption | omega) only [szS_0, szS_i, szS_r, szS_l, x_cons, x_goto, ob_some, kl_i, kl_r, kl_l, kl_n, push_n, push_s, pop_0, pop_i, pop_r, Int.reduceToNat, List.length_cons, List.length_nil, Nat.reduceAdd, Nat.reduceLeDiff, Nat.zero_add, true_and, nI_n0, nat_le, Nat.add_zero, i_1, rt_co_wetHeads, x_aaload, x_al0, x_call, x_getf, x_goto, x_iadd, x_iaload, x_icge, x_ifeq, x_il1, x_il2, x_inc2, x_iret, x_is1, x_is2, x_ldc, bI_0]
    cases hb : (wtW w).testBit n
    · rw [hb, if_neg Bool.false_ne_true, Nat.add_zero] at hi
      simp -implicitDefEqProofs (disch := first | assumption | omega) only [↓reduceIte, b_co_wetHeads_92, szS_0, szS_i, szS_r, szS_l, x_cons, x_goto, ob_some, kl_i, kl_r, kl_l, kl_n, push_n, push_s, pop_0, pop_i, pop_r, Int.reduceToNat, List.length_cons, List.length_nil, Nat.reduceAdd, Nat.reduceLeDiff, Nat.zero_add, true_and, nI_n0, nat_le, Nat.add_zero, i_1, rt_co_wetHeads, x_aaload, x_al0, x_call, x_getf, x_goto, x_iadd, x_iaload, x_icge, x_ifeq, x_il1, x_il2, x_inc2, x_iret, x_is1, x_is2, x_ldc, nI_add]
      exact hi
    · rw [hb, if_pos rfl] at hi
      simp -implicitDefEqProofs (disch := first | assumption | omega) only [Bool.true_eq_false, ↓reduceIte, szS_0, szS_i, szS_r, szS_l, x_cons, x_goto, ob_some, kl_i, kl_r, kl_l, kl_n, push_n, push_s, pop_0, pop_i, pop_r, Int.reduceToNat, List.length_cons, List.length_nil, Nat.reduceAdd, Nat.reduceLeDiff, Nat.zero_add, true_and, nI_n0, nat_le, Nat.add_zero, i_1, rt_co_wetHeads, x_aaload, x_al0, x_call, x_getf, x_goto, x_iadd, x_iaload, x_icge, x_ifeq, x_il1, x_il2, x_inc2, x_iret, x_is1, x_is2, x_ldc, fd_184_0, fd_184_1, fd_184_2, fd_184_3, fd_184_4, fd_184_5, fd_184_6, fd_184_7, sf_184_7, fd_184_8, sf_184_8, fd_184_9, fd_184_10, fd_184_11, fd_61_0, fd_61_1, fd_61_2, fd_61_3, fd_61_4, fd_67_0, sf_67_0, fd_67_1, sf_67_1, fd_67_2, sf_67_2, fd_67_3, sf_67_3, fd_67_4, sf_67_4, fd_67_5, fd_67_6, fd_67_7, fd_67_8, fd_67_9, fd_67_10, ld_69_0, ld_69_1, ld_69_2, ld_69_3, ld_69_4, ld_69_5, ld_69_6, ld_69_7, ld_70, sd_70, ln_70, e2, nI_add, b_co_wetHeads_92]
      exact hi
theorem s_wetHeads (hw : WI w) (hb : Tb w g) (H : ∀ g', (∀ b, (b < 185 ∨ 188 < b) → g' b = g b) → P (some (.int (nI (hbW w)))) (E g' q)) : callC (ev (d + 4)) co_wetHeads [.ref 184] (E g q) P := by
  refine in_co_wetHeads rfl ?_
  have hN := wi_n hw
  have h6 := wi_6 hw
  have e6 : g 68 0 = nI (vN w 6) := hb.2.1.trans h6.1
  rw [b_co_wetHeads_0]
  simp -implicitDefEqProofs (disch := first | assumption | omega) only [szS_0, szS_i, szS_r, szS_l, x_cons, x_goto, ob_some, kl_i, kl_r, kl_l, kl_n, push_n, push_s, pop_0, pop_i, pop_r, Int.reduceToNat, List.length_cons, List.length_nil, Nat.reduceAdd, Nat.reduceLeDiff, Nat.zero_add, true_and, nI_n0, nat_le, Nat.add_zero, i_1, rt_co_wetHeads, x_aaload, x_al0, x_call, x_getf, x_goto, x_iadd, x_iaload, x_icge, x_ifeq, x_il1, x_il2, x_inc2, x_iret, x_is1, x_is2, x_ldc, fd_184_0, fd_184_1, fd_184_2, fd_184_3, fd_184_4, fd_184_5, fd_184_6, fd_184_7, sf_184_7, fd_184_8, sf_184_8, fd_184_9, fd_184_10, fd_184_11, fd_61_0, fd_61_1, fd_61_2, fd_61_3, fd_61_4, fd_67_0, sf_67_0, fd_67_1, sf_67_1, fd_67_2, sf_67_2, fd_67_3, sf_67_3, fd_67_4, sf_67_4, fd_67_5, fd_67_6, fd_67_7, fd_67_8, fd_67_9, fd_67_10, ld_68, sd_68, ln_68, e6]
  refine s_waRunW (t := 61) (x := 185) (by decide) (by decide) hw hb.1 (op := fun n => fd w n 5) (o := 78) rfl (by decide) (by decide) (fun n hn hs => by rw [hb.2.2.2 n hn hs]; exact (wi_x hw (n := n) (by omega)).1.1) (opO_w hw) (fl6 hw) fun g1 f1 W1 => ?_
  simp -implicitDefEqProofs (disch := first | assumption | omega) only [szS_0, szS_i, szS_r, szS_l, x_cons, x_goto, ob_some, kl_i, kl_r, kl_l, kl_n, push_n, push_s, pop_0, pop_i, pop_r, Int.reduceToNat, List.length_cons, List.length_nil, Nat.reduceAdd, Nat.reduceLeDiff, Nat.zero_add, true_and, nI_n0, nat_le, Nat.add_zero, i_1, rt_co_wetHeads, x_aaload, x_al0, x_call, x_getf, x_goto, x_iadd, x_iaload, x_icge, x_ifeq, x_il1, x_il2, x_inc2, x_iret, x_is1, x_is2, x_ldc]
  exact wh_lp hw (by rw [f1 62 (by decide) (by decide) (by decide) (by decide)]; exact (ts_n hb.1.1).trans hN.1) (fun n hn => by rw [f1 70 (by decide) (by decide) (by decide) (by decide)]; exact hb.2.2.1 n hn) W1.2.2.2.1 (H g1 fun b hb => f1 b (by omega) (by omega) (by omega) (by omega)) (nn w) 0 (Nat.zero_add _)
/-- what the class has kept of the best -/
def bsR (s : BS) (g : Nat → Nat → Int32) : Prop := s.2.1 ≠ 99 → g 194 0 = nI s.2.1 ∧ g 194 1 = nI s.2.2.1 ∧ g 194 2 = nI s.2.2.2 ∧ g 194 3 = nI s.1
/-- what its search may change -/
def fB (g g' : Nat → Nat → Int32) : Prop := ∀ b, (b < 185 ∨ 188 < b) → b ≠ 65 → b ≠ 194 → g' b = g b
def fnd (s : BS) : Int32 := nI (if s.2.1 = 99 then 0 else 1)
theorem s_keepDig {f a n h : Nat} : callC (ev (d + 1)) co_keepDig [.ref 184, .int (nI f), .int (nI a), .int (nI n), .int (nI h)] (E g q) P = P none (E (upw g 194 (pu (pu (pu (pu (g 194) 0 (nI f)) 1 (nI a)) 2 (nI n)) 3 (nI h))) q) := by
  refine call_eq (in_co_keepDig rfl ?_)
  rw [b_co_keepDig_0]
  simp -implicitDefEqProofs (disch := first | assumption | omega) only [szS_0, szS_i, szS_r, szS_l, x_cons, x_goto, ob_some, kl_i, kl_r, kl_l, kl_n, push_n, push_s, pop_0, pop_i, pop_r, Int.reduceToNat, List.length_cons, List.length_nil, Nat.reduceAdd, Nat.reduceLeDiff, Nat.zero_add, true_and, nI_n0, nat_le, Nat.add_zero, rt_co_keepDig, x_al0, x_getf, x_iastore, x_il1, x_il2, x_il3, x_il4, x_ldc, x_vret, fd_184_0, fd_184_1, fd_184_2, fd_184_3, fd_184_4, fd_184_5, fd_184_6, fd_184_7, sf_184_7, fd_184_8, sf_184_8, fd_184_9, fd_184_10, fd_184_11, ld_194, sd_194, ln_194, pu_g, pu_w, upw_s, upw_w]
  all_goals first | rfl | exact ⟨rfl, rfl⟩ | exact ⟨rfl, trivial⟩ | exact ⟨trivial, rfl⟩ | trivial
theorem bn_lp (hw : WI w) {f a : Nat} (hf : f < nn w) (ha : a < am w f) {x8 : Int32} {g0 : Nat → Nat → Int32} (hb : Tb w g0) {sE : BS} (H : ∀ g' o, fB g0 g' → (∀ k, k ≠ f * 3 + a → g' 65 k = g0 65 k) → bsR sE g' → bsO w sE → wp (ev (d + 4)) P co_findBestDig 139 [some (.ref 184), some (.ref 1), some (.ref 62), some (.int (nI sE.1)), some (.int (fnd sE)), some (.int (nI f)), some (.int (nI a)), some (.int (nI (f * 3 + a))), some (.int x8), some (.int (nI (nn w))), o] [] (E g' q)) :
    ∀ (j n : Nat) (s : BS) (g : Nat → Nat → Int32) (o : Option Value), n + j = nn w → f < n → bsN w f a j n s = sE → fB g0 g → (∀ k, k ≠ f * 3 + a → g 65 k = g0 65 k) → bsR s g → bsO w s →
    wp (ev (d + 4)) P co_findBestDig 85 [some (.ref 184), some (.ref 1), some (.ref 62), some (.int (nI s.1)), some (.int (fnd s)), some (.int (nI f)), some (.int (nI a)), some (.int (nI (f * 3 + a))), some (.int x8), some (.int (nI n)), o] [] (E g q) := by
  have hN := wi_n hw
  have ha3 := am_le hw (n := f) (by omega)
  intro j
  induction j with
  | zero =>
    intro n s g o hn hfn hE hg hk hR hO
    have hn : n = nn w := hn
    have hE : s = sE := hE
    subst hn hE
    have e1 : g 62 0 = nI (nn w) := by rw [hg 62 (by decide) (by decide) (by decide)]; exact (ts_n hb.1.1).trans hN.1
    rw [b_co_findBestDig_85]
    simp -implicitDefEqProofs (disch := first | assumption | omega) only [szS_0, szS_i, szS_r, szS_l, x_cons, x_goto, ob_some, kl_i, kl_r, kl_l, kl_n, push_n, push_s, pop_0, pop_i, pop_r, Int.reduceToNat, List.length_cons, List.length_nil, Nat.reduceAdd, Nat.reduceLeDiff, Nat.zero_add, true_and, nI_n0, nat_le, Nat.add_zero, i_1, rt_co_findBestDig_0, rt_co_findBestDig_1, rt_co_findBestDig_b, x_al0, x_al1, x_al2, x_as2, x_call, x_getf, x_goto, x_iadd, x_iaload, x_iastore, x_icge, x_icle, x_ifne, x_il10, x_il3, x_il4, x_il5, x_il6, x_il7, x_il8, x_il9, x_imul, x_inc5, x_inc6, x_inc9, x_iret, x_is10, x_is3, x_is4, x_is5, x_is6, x_is7, x_is8, x_is9, x_ldc, fd_62_0, sf_62_0, fd_62_1, fd_62_2, fd_62_3, fd_62_4, e1, nI_ltE, Nat.lt_irrefl, ↓reduceIte]
    exact H g o hg hk hR hO
  | succ j ih =>
    intro n s g o hn hfn hE hg hk hR hO
    have hn' : n < nn w := by omega
    have e1 : g 62 0 = nI (nn w) := by rw [hg 62 (by decide) (by decide) (by decide)]; exact (ts_n hb.1.1).trans hN.1
    have hdw := dg_wi hw hf ha hfn hn'
    have hE : bsN w f a j (n + 1) (bs1 w f a n s) = sE := hE
    have hbg : Tb (dgR w f a n) (upw g 65 (pu (g 65) (f * 3 + a) (nI n))) := by
      have h1 := Tb_d hb (f := f) (a := a) (n := n) (by omega) (by omega)
      obtain ⟨⟨⟨a1, a2, a3⟩, a4, a5⟩, b1, b2, b3⟩ := h1
      have eq : ∀ b, 61 < b → b < 82 → upw g 65 (pu (g 65) (f * 3 + a) (nI n)) b = upw g0 65 (pu (g0 65) (f * 3 + a) (nI n)) b := fun b c1 c2 => by
        by_cases e : b = 65
        · rw [e, upw_s, upw_s]
          funext k
          by_cases e2 : k = f * 3 + a
          · rw [e2, pu_s, pu_s]
          · rw [pu_n e2, pu_n e2, hk k e2]
        · rw [upw_o e, upw_o e, hg b (by omega) e (by omega)]
      exact Tb_c ⟨⟨⟨a1, a2, a3⟩, a4, a5⟩, b1, b2, b3⟩ eq
    have hl := hbW_l hdw
    have hs1 := hO.1
    have eS : bs1 w f a n s = if s.1 < hbW (dgR w f a n) then (hbW (dgR w f a n), f, a, n) else s := rfl
    have hO2 := bs1_O hw hf ha hfn hn' hO
    rw [b_co_findBestDig_85]
    simp -implicitDefEqProofs (disch := first | assumption | omega) only [szS_0, szS_i, szS_r, szS_l, x_cons, x_goto, ob_some, kl_i, kl_r, kl_l, kl_n, push_n, push_s, pop_0, pop_i, pop_r, Int.reduceToNat, List.length_cons, List.length_nil, Nat.reduceAdd, Nat.reduceLeDiff, Nat.zero_add, true_and, nI_n0, nat_le, Nat.add_zero, i_1, rt_co_findBestDig_0, rt_co_findBestDig_1, rt_co_findBestDig_b, x_al0, x_al1, x_al2, x_as2, x_call, x_getf, x_goto, x_iadd, x_iaload, x_iastore, x_icge, x_icle, x_ifne, x_il10, x_il3, x_il4, x_il5, x_il6, x_il7, x_il8, x_il9, x_imul, x_inc5, x_inc6, x_inc9, x_iret, x_is10, x_is3, x_is4, x_is5, x_is6, x_is7, x_is8, x_is9, x_ldc, fd_62_0, sf_62_0, fd_62_1, fd_62_2, fd_62_3, fd_62_4, ld_65, sd_65, ln_65, e1, nI_ltE, hn', ↓reduceIte, pu_g]
    refine s_wetHeads hdw hbg fun g1 f1 => ?_
    have hg1 : fB g0 g1 := fun b b1 b2 b3 => by rw [f1 b b1, upw_o b2, hg b b1 b2 b3]
    have hk1 : ∀ k, k ≠ f * 3 + a → g1 65 k = g0 65 k := fun k hk2 => by rw [f1 65 (by omega), upw_s, pu_n hk2, hk k hk2]
    simp -implicitDefEqProofs (disch := first | assumption | omega) only [szS_0, szS_i, szS_r, szS_l, x_cons, x_goto, ob_some, kl_i, kl_r, kl_l, kl_n, push_n, push_s, pop_0, pop_i, pop_r, Int.reduceToNat, List.length_cons, List.length_nil, Nat.reduceAdd, Nat.reduceLeDiff, Nat.zero_add, true_and, nI_n0, nat_le, Nat.add_zero, i_1, rt_co_findBestDig_0, rt_co_findBestDig_1, rt_co_findBestDig_b, x_al0, x_al1, x_al2, x_as2, x_call, x_getf, x_goto, x_iadd, x_iaload, x_iastore, x_icge, x_icle, x_ifne, x_il10, x_il3, x_il4, x_il5, x_il6, x_il7, x_il8, x_il9, x_imul, x_inc5, x_inc6, x_inc9, x_iret, x_is10, x_is3, x_is4, x_is5, x_is6, x_is7, x_is8, x_is9, x_ldc, nI_ltE]
    by_cases hlt : s.1 < hbW (dgR w f a n)
    · rw [if_pos hlt] at eS
      rw [if_pos hlt]
      try simp -implicitDefEqProofs (disch := first | assumption | omega) only [szS_0, szS_i, szS_r, szS_l, x_cons, x_goto, ob_some, kl_i, kl_r, kl_l, kl_n, push_n, push_s, pop_0, pop_i, pop_r, Int.reduceToNat, List.length_cons, List.length_nil, Nat.reduceAdd, Nat.reduceLeDiff, Nat.zero_add, true_and, nI_n0, nat_le, Nat.add_zero, i_1, rt_co_findBestDig_0, rt_co_findBestDig_1, rt_co_findBestDig_b, x_al0, x_al1, x_al2, x_as2, x_call, x_getf, x_goto, x_iadd, x_iaload, x_iastore, x_icge, x_icle, x_ifne, x_il10, x_il3, x_il4, x_il5, x_il6, x_il7, x_il8, x_il9, x_imul, x_inc5, x_inc6, x_inc9, x_iret, x_is10, x_is3, x_is4, x_is5, x_is6, x_is7, x_is8, x_is9, x_ldc]
      rw [s_keepDig]
      simp -implicitDefEqProofs (disch := first | assumption | omega) only [szS_0, szS_i, szS_r, szS_l, x_cons, x_goto, ob_some, kl_i, kl_r, kl_l, kl_n, push_n, push_s, pop_0, pop_i, pop_r, Int.reduceToNat, List.length_cons, List.length_nil, Nat.reduceAdd, Nat.reduceLeDiff, Nat.zero_add, true_and, nI_n0, nat_le, Nat.add_zero, i_1, rt_co_findBestDig_0, rt_co_findBestDig_1, rt_co_findBestDig_b, x_al0, x_al1, x_al2, x_as2, x_call, x_getf, x_goto, x_iadd, x_iaload, x_iastore, x_icge, x_icle, x_ifne, x_il10, x_il3, x_il4, x_il5, x_il6, x_il7, x_il8, x_il9, x_imul, x_inc5, x_inc6, x_inc9, x_iret, x_is10, x_is3, x_is4, x_is5, x_is6, x_is7, x_is8, x_is9, x_ldc, b_co_findBestDig_133, nI_add]
      rw [eS] at hE hO2
      have ef : f ≠ 99 := by omega
      have hi := ih (n + 1) (hbW (dgR w f a n), f, a, n) (upw g1 194 (pu (pu (pu (pu (g1 194) 0 (nI f)) 1 (nI a)) 2 (nI n)) 3 (nI (hbW (dgR w f a n))))) (some (.int (nI (hbW (dgR w f a n))))) (by omega) (by omega) hE (fun b b1 b2 b3 => by rw [upw_o b3]; exact hg1 b b1 b2 b3) (fun k hk2 => by rw [upw_o (by decide)]; exact hk1 k hk2) (fun _ => ⟨by rw [upw_s, pu_n (by decide), pu_n (by decide), pu_n (by decide), pu_s], by rw [upw_s, pu_n (by decide), pu_n (by decide), pu_s], by rw [upw_s, pu_n (by decide), pu_s], by rw [upw_s, pu_s]⟩) hO2
      have ef2 : fnd (hbW (dgR w f a n), f, a, n) = nI 1 := congrArg nI (if_neg ef)
      rw [ef2] at hi
      exact hi
    · rw [if_neg hlt] at eS
      rw [if_neg hlt]
      rw [eS] at hE
      try simp -implicitDefEqProofs (disch := first | assumption | omega) only [b_co_findBestDig_133, szS_0, szS_i, szS_r, szS_l, x_cons, x_goto, ob_some, kl_i, kl_r, kl_l, kl_n, push_n, push_s, pop_0, pop_i, pop_r, Int.reduceToNat, List.length_cons, List.length_nil, Nat.reduceAdd, Nat.reduceLeDiff, Nat.zero_add, true_and, nI_n0, nat_le, Nat.add_zero, i_1, rt_co_findBestDig_0, rt_co_findBestDig_1, rt_co_findBestDig_b, x_al0, x_al1, x_al2, x_as2, x_call, x_getf, x_goto, x_iadd, x_iaload, x_iastore, x_icge, x_icle, x_ifne, x_il10, x_il3, x_il4, x_il5, x_il6, x_il7, x_il8, x_il9, x_imul, x_inc5, x_inc6, x_inc9, x_iret, x_is10, x_is3, x_is4, x_is5, x_is6, x_is7, x_is8, x_is9, x_ldc, nI_add]
      exact ih (n + 1) s g1 _ (by omega) (by omega) hE hg1 hk1 (fun h => by rw [f1 194 (by omega), upw_o (by decide)]; exact hR h) hO
theorem ba_lp2 (hw : WI w) {f : Nat} (hf : f < nn w) (hs : fd w f 0 = 0) {g0 : Nat → Nat → Int32} (hb : Tb w g0) {sE : BS} (H : ∀ g' o7 o8 o9 o10, fB g0 g' → g' 65 = g0 65 → bsR sE g' → bsO w sE → wp (ev (d + 4)) P co_findBestDig 154 [some (.ref 184), some (.ref 1), some (.ref 62), some (.int (nI sE.1)), some (.int (fnd sE)), some (.int (nI f)), some (.int (nI (am w f))), o7, o8, o9, o10] [] (E g' q)) :
    ∀ (j a : Nat) (s : BS) (g : Nat → Nat → Int32) (o7 o8 o9 o10 : Option Value), a + j = am w f → bsA w f j a s = sE → fB g0 g → g 65 = g0 65 → bsR s g → bsO w s →
    wp (ev (d + 4)) P co_findBestDig 39 [some (.ref 184), some (.ref 1), some (.ref 62), some (.int (nI s.1)), some (.int (fnd s)), some (.int (nI f)), some (.int (nI a)), o7, o8, o9, o10] [] (E g q) := by
  have hN := wi_n hw
  have hf16 : f < 16 := by omega
  have ha3 := am_le hw hf16
  have ham := wi_1 hw hf16
  have hz := wi_0 hw hf16
  intro j
  induction j with
  | zero =>
    intro a s g o7 o8 o9 o10 ha hE hg h65 hR hO
    have ha : a = am w f := ha
    have hE : s = sE := hE
    subst ha hE
    have e3 : g 64 f = nI (am w f) := by rw [hg 64 (by decide) (by decide) (by decide)]; exact (ts_am hb.1.1 hf16).trans ham.1
    rw [b_co_findBestDig_39]
    simp -implicitDefEqProofs (disch := first | assumption | omega) only [szS_0, szS_i, szS_r, szS_l, x_cons, x_goto, ob_some, kl_i, kl_r, kl_l, kl_n, push_n, push_s, pop_0, pop_i, pop_r, Int.reduceToNat, List.length_cons, List.length_nil, Nat.reduceAdd, Nat.reduceLeDiff, Nat.zero_add, true_and, nI_n0, nat_le, Nat.add_zero, i_1, rt_co_findBestDig_0, rt_co_findBestDig_1, rt_co_findBestDig_b, x_al0, x_al1, x_al2, x_as2, x_call, x_getf, x_goto, x_iadd, x_iaload, x_iastore, x_icge, x_icle, x_ifne, x_il10, x_il3, x_il4, x_il5, x_il6, x_il7, x_il8, x_il9, x_imul, x_inc5, x_inc6, x_inc9, x_iret, x_is10, x_is3, x_is4, x_is5, x_is6, x_is7, x_is8, x_is9, x_ldc, fd_62_0, sf_62_0, fd_62_1, fd_62_2, fd_62_3, fd_62_4, ld_64, sd_64, ln_64, e3, nI_ltE, Nat.lt_irrefl, ↓reduceIte]
    exact H g _ _ _ _ hg h65 hR hO
  | succ j ih =>
    intro a s g o7 o8 o9 o10 ha hE hg h65 hR hO
    have ha' : a < am w f := by omega
    have e3 : g 64 f = nI (am w f) := by rw [hg 64 (by decide) (by decide) (by decide)]; exact (ts_am hb.1.1 hf16).trans ham.1
    have e2 : g 63 f = nI 0 := by
      have := hz.1
      rw [hs] at this
      rw [hg 63 (by decide) (by decide) (by decide)]
      exact (ts_so hb.1.1 hf16).trans this
    have e1 : g 62 0 = nI (nn w) := by rw [hg 62 (by decide) (by decide) (by decide)]; exact (ts_n hb.1.1).trans hN.1
    have e4 : g 65 (f * 3 + a) = nI (tg w f a) := by rw [h65]; exact (ts_to hb.1.1 hf16 (by omega)).trans (wi_t hw hf16 (by omega)).1
    have hE : bsA w f j (a + 1) (bsN w f a (nn w - (f + 1)) (f + 1) s) = sE := hE
    have hbg : Tb w g := Tb_c hb fun b b1 b2 => by
      by_cases e : b = 65
      · rw [e, h65]
      · exact hg b (by omega) e (by omega)
    rw [b_co_findBestDig_39]
    simp -implicitDefEqProofs (disch := first | assumption | omega) only [szS_0, szS_i, szS_r, szS_l, x_cons, x_goto, ob_some, kl_i, kl_r, kl_l, kl_n, push_n, push_s, pop_0, pop_i, pop_r, Int.reduceToNat, List.length_cons, List.length_nil, Nat.reduceAdd, Nat.reduceLeDiff, Nat.zero_add, true_and, nI_n0, nat_le, Nat.add_zero, i_1, rt_co_findBestDig_0, rt_co_findBestDig_1, rt_co_findBestDig_b, x_al0, x_al1, x_al2, x_as2, x_call, x_getf, x_goto, x_iadd, x_iaload, x_iastore, x_icge, x_icle, x_ifne, x_il10, x_il3, x_il4, x_il5, x_il6, x_il7, x_il8, x_il9, x_imul, x_inc5, x_inc6, x_inc9, x_iret, x_is10, x_is3, x_is4, x_is5, x_is6, x_is7, x_is8, x_is9, x_ldc, fd_62_0, sf_62_0, fd_62_1, fd_62_2, fd_62_3, fd_62_4, ld_63, sd_63, ln_63, ld_64, sd_64, ln_64, ld_65, sd_65, ln_65, e2, e3, nI_ltE, ha', ↓reduceIte, nI_mul, nI_add, e4]
    refine bn_lp hw hf ha' (g0 := g) hbg (sE := bsN w f a (nn w - (f + 1)) (f + 1) s) (fun g1 o f1 k1 R1 O1 => ?_) (nn w - (f + 1)) (f + 1) s g _ (by omega) (by omega) rfl (fun _ _ _ _ => rfl) (fun _ _ => rfl) hR hO
    rw [b_co_findBestDig_139]
    simp -implicitDefEqProofs (disch := first | assumption | omega) only [szS_0, szS_i, szS_r, szS_l, x_cons, x_goto, ob_some, kl_i, kl_r, kl_l, kl_n, push_n, push_s, pop_0, pop_i, pop_r, Int.reduceToNat, List.length_cons, List.length_nil, Nat.reduceAdd, Nat.reduceLeDiff, Nat.zero_add, true_and, nI_n0, nat_le, Nat.add_zero, i_1, rt_co_findBestDig_0, rt_co_findBestDig_1, rt_co_findBestDig_b, x_al0, x_al1, x_al2, x_as2, x_call, x_getf, x_goto, x_iadd, x_iaload, x_iastore, x_icge, x_icle, x_ifne, x_il10, x_il3, x_il4, x_il5, x_il6, x_il7, x_il8, x_il9, x_imul, x_inc5, x_inc6, x_inc9, x_iret, x_is10, x_is3, x_is4, x_is5, x_is6, x_is7, x_is8, x_is9, x_ldc, fd_62_0, sf_62_0, fd_62_1, fd_62_2, fd_62_3, fd_62_4, ld_65, sd_65, ln_65, pu_g, nI_add]
    have e65 : pu (g1 65) (f * 3 + a) (nI (tg w f a)) = g0 65 := by
      funext k
      by_cases e : k = f * 3 + a
      · rw [e, pu_s, ← h65]
        exact e4.symm
      · rw [pu_n e, k1 k e, h65]
    rw [e65]
    exact ih (a + 1) _ _ _ _ _ _ (by omega) hE (fun b b1 b2 b3 => by rw [upw_o b2, f1 b b1 b2 b3]; exact hg b b1 b2 b3) upw_s (fun h => by rw [upw_o (by decide)]; exact R1 h) O1
theorem bf_lp (hw : WI w) {g0 : Nat → Nat → Int32} (hb : Tb w g0) {sE : BS} (H : ∀ g', fB g0 g' → bsR sE g' → bsO w sE → P (some (.int (fnd sE))) (E g' q)) :
    ∀ (j f : Nat) (s : BS) (g : Nat → Nat → Int32) (o6 o7 o8 o9 o10 : Option Value), f + j = nn w → bsF w j f s = sE → fB g0 g → g 65 = g0 65 → bsR s g → bsO w s →
    wp (ev (d + 4)) P co_findBestDig 27 [some (.ref 184), some (.ref 1), some (.ref 62), some (.int (nI s.1)), some (.int (fnd s)), some (.int (nI f)), o6, o7, o8, o9, o10] [] (E g q) := by
  have hN := wi_n hw
  intro j
  induction j with
  | zero =>
    intro f s g o6 o7 o8 o9 o10 hf hE hg h65 hR hO
    have hf : f = nn w := hf
    have hE : s = sE := hE
    subst hf hE
    have e1 : g 62 0 = nI (nn w) := by rw [hg 62 (by decide) (by decide) (by decide)]; exact (ts_n hb.1.1).trans hN.1
    have hr : retI co_findBestDig (fnd s) = True := by
      unfold fnd
      split
      · exact rt_co_findBestDig_0
      · exact rt_co_findBestDig_1
    rw [b_co_findBestDig_27]
    simp -implicitDefEqProofs (disch := first | assumption | omega) only [szS_0, szS_i, szS_r, szS_l, x_cons, x_goto, ob_some, kl_i, kl_r, kl_l, kl_n, push_n, push_s, pop_0, pop_i, pop_r, Int.reduceToNat, List.length_cons, List.length_nil, Nat.reduceAdd, Nat.reduceLeDiff, Nat.zero_add, true_and, nI_n0, nat_le, Nat.add_zero, i_1, rt_co_findBestDig_0, rt_co_findBestDig_1, rt_co_findBestDig_b, x_al0, x_al1, x_al2, x_as2, x_call, x_getf, x_goto, x_iadd, x_iaload, x_iastore, x_icge, x_icle, x_ifne, x_il10, x_il3, x_il4, x_il5, x_il6, x_il7, x_il8, x_il9, x_imul, x_inc5, x_inc6, x_inc9, x_iret, x_is10, x_is3, x_is4, x_is5, x_is6, x_is7, x_is8, x_is9, x_ldc, fd_62_0, sf_62_0, fd_62_1, fd_62_2, fd_62_3, fd_62_4, e1, nI_ltE, Nat.lt_irrefl, ↓reduceIte, b_co_findBestDig_160, hr]
    exact H g hg hR hO
  | succ j ih =>
    intro f s g o6 o7 o8 o9 o10 hf hE hg h65 hR hO
    have hf' : f < nn w := by omega
    have hf16 : f < 16 := by omega
    have e1 : g 62 0 = nI (nn w) := by rw [hg 62 (by decide) (by decide) (by decide)]; exact (ts_n hb.1.1).trans hN.1
    have hE : bsF w j (f + 1) (if fd w f 0 = 0 then bsA w f (am w f) 0 s else s) = sE := hE
    have hbg : Tb w g := Tb_c hb fun b b1 b2 => by
      by_cases e : b = 65
      · rw [e, h65]
      · exact hg b (by omega) e (by omega)
    rw [b_co_findBestDig_27]
    simp -implicitDefEqProofs (disch := first | assumption | omega) only [szS_0, szS_i, szS_r, szS_l, x_cons, x_goto, ob_some, kl_i, kl_r, kl_l, kl_n, push_n, push_s, pop_0, pop_i, pop_r, Int.reduceToNat, List.length_cons, List.length_nil, Nat.reduceAdd, Nat.reduceLeDiff, Nat.zero_add, true_and, nI_n0, nat_le, Nat.add_zero, i_1, rt_co_findBestDig_0, rt_co_findBestDig_1, rt_co_findBestDig_b, x_al0, x_al1, x_al2, x_as2, x_call, x_getf, x_goto, x_iadd, x_iaload, x_iastore, x_icge, x_icle, x_ifne, x_il10, x_il3, x_il4, x_il5, x_il6, x_il7, x_il8, x_il9, x_imul, x_inc5, x_inc6, x_inc9, x_iret, x_is10, x_is3, x_is4, x_is5, x_is6, x_is7, x_is8, x_is9, x_ldc, fd_62_0, sf_62_0, fd_62_1, fd_62_2, fd_62_3, fd_62_4, e1, nI_ltE, hf', ↓reduceIte]
    by_cases hs : fd w f 0 = 0
    · rw [if_pos hs] at hE
      refine ba_lp2 hw hf' hs (g0 := g) hbg (sE := bsA w f (am w f) 0 s) (fun g1 p7 p8 p9 p10 f1 k1 R1 O1 => ?_) (am w f) 0 s g _ _ _ _ (Nat.zero_add _) rfl (fun _ _ _ _ => rfl) rfl hR hO
      rw [b_co_findBestDig_154]
      simp -implicitDefEqProofs (disch := first | assumption | omega) only [szS_0, szS_i, szS_r, szS_l, x_cons, x_goto, ob_some, kl_i, kl_r, kl_l, kl_n, push_n, push_s, pop_0, pop_i, pop_r, Int.reduceToNat, List.length_cons, List.length_nil, Nat.reduceAdd, Nat.reduceLeDiff, Nat.zero_add, true_and, nI_n0, nat_le, Nat.add_zero, i_1, rt_co_findBestDig_0, rt_co_findBestDig_1, rt_co_findBestDig_b, x_al0, x_al1, x_al2, x_as2, x_call, x_getf, x_goto, x_iadd, x_iaload, x_iastore, x_icge, x_icle, x_ifne, x_il10, x_il3, x_il4, x_il5, x_il6, x_il7, x_il8, x_il9, x_imul, x_inc5, x_inc6, x_inc9, x_iret, x_is10, x_is3, x_is4, x_is5, x_is6, x_is7, x_is8, x_is9, x_ldc, nI_add]
      exact ih (f + 1) _ g1 _ _ _ _ _ (by omega) hE (fun b b1 b2 b3 => by rw [f1 b b1 b2 b3]; exact hg b b1 b2 b3) (by rw [k1]; exact h65) R1 O1
    · rw [if_neg hs] at hE
      have ham := wi_1 hw hf16
      have hz := wi_0 hw hf16
      have e3 : g 64 f = nI (am w f) := by rw [hg 64 (by decide) (by decide) (by decide)]; exact (ts_am hb.1.1 hf16).trans ham.1
      have e2 : g 63 f = nI (fd w f 0) := by rw [hg 63 (by decide) (by decide) (by decide)]; exact (ts_so hb.1.1 hf16).trans hz.1
      have ha3 := am_le hw hf16
      have fin : ∀ o6, wp (ev (d + 4)) P co_findBestDig 154 [some (.ref 184), some (.ref 1), some (.ref 62), some (.int (nI s.1)), some (.int (fnd s)), some (.int (nI f)), o6, o7, o8, o9, o10] [] (E g q) := by
        intro o6
        rw [b_co_findBestDig_154]
        simp -implicitDefEqProofs (disch := first | assumption | omega) only [szS_0, szS_i, szS_r, szS_l, x_cons, x_goto, ob_some, kl_i, kl_r, kl_l, kl_n, push_n, push_s, pop_0, pop_i, pop_r, Int.reduceToNat, List.length_cons, List.length_nil, Nat.reduceAdd, Nat.reduceLeDiff, Nat.zero_add, true_and, nI_n0, nat_le, Nat.add_zero, i_1, rt_co_findBestDig_0, rt_co_findBestDig_1, rt_co_findBestDig_b, x_al0, x_al1, x_al2, x_as2, x_call, x_getf, x_goto, x_iadd, x_iaload, x_iastore, x_icge, x_icle, x_ifne, x_il10, x_il3, x_il4, x_il5, x_il6, x_il7, x_il8, x_il9, x_imul, x_inc5, x_inc6, x_inc9, x_iret, x_is10, x_is3, x_is4, x_is5, x_is6, x_is7, x_is8, x_is9, x_ldc, nI_add]
        exact ih (f + 1) s g _ _ _ _ _ (by omega) hE hg h65 hR hO
      rw [b_co_findBestDig_39]
      simp -implicitDefEqProofs (disch := first | assumption | omega) only [szS_0, szS_i, szS_r, szS_l, x_cons, x_goto, ob_some, kl_i, kl_r, kl_l, kl_n, push_n, push_s, pop_0, pop_i, pop_r, Int.reduceToNat, List.length_cons, List.length_nil, Nat.reduceAdd, Nat.reduceLeDiff, Nat.zero_add, true_and, nI_n0, nat_le, Nat.add_zero, i_1, rt_co_findBestDig_0, rt_co_findBestDig_1, rt_co_findBestDig_b, x_al0, x_al1, x_al2, x_as2, x_call, x_getf, x_goto, x_iadd, x_iaload, x_iastore, x_icge, x_icle, x_ifne, x_il10, x_il3, x_il4, x_il5, x_il6, x_il7, x_il8, x_il9, x_imul, x_inc5, x_inc6, x_inc9, x_iret, x_is10, x_is3, x_is4, x_is5, x_is6, x_is7, x_is8, x_is9, x_ldc, fd_62_0, sf_62_0, fd_62_1, fd_62_2, fd_62_3, fd_62_4, ld_63, sd_63, ln_63, ld_64, sd_64, ln_64, e3, nI_ltE]
      by_cases h0 : 0 < am w f
      · rw [if_pos h0]
        try simp -implicitDefEqProofs (disch := first | assumption | omega) only [szS_0, szS_i, szS_r, szS_l, x_cons, x_goto, ob_some, kl_i, kl_r, kl_l, kl_n, push_n, push_s, pop_0, pop_i, pop_r, Int.reduceToNat, List.length_cons, List.length_nil, Nat.reduceAdd, Nat.reduceLeDiff, Nat.zero_add, true_and, nI_n0, nat_le, Nat.add_zero, i_1, rt_co_findBestDig_0, rt_co_findBestDig_1, rt_co_findBestDig_b, x_al0, x_al1, x_al2, x_as2, x_call, x_getf, x_goto, x_iadd, x_iaload, x_iastore, x_icge, x_icle, x_ifne, x_il10, x_il3, x_il4, x_il5, x_il6, x_il7, x_il8, x_il9, x_imul, x_inc5, x_inc6, x_inc9, x_iret, x_is10, x_is3, x_is4, x_is5, x_is6, x_is7, x_is8, x_is9, x_ldc, fd_62_0, sf_62_0, fd_62_1, fd_62_2, fd_62_3, fd_62_4, ld_63, sd_63, ln_63, e2, nI_eqE, hs, ↓reduceIte]
        exact fin _
      · rw [if_neg h0]
        exact fin _
theorem s_vbest (hK : Tc 1 w g) (hw : WI w) {k : Int32} (H : ∀ g', fQ g g' → P (some (.int (bsV w k))) (E g' q)) : callC (ev (d + 6)) vr_best [.ref 0, .int k] (E g q) P := by
  refine in_vr_best rfl ?_
  have no : ∀ g', bsV w k = -1 → fQ g g' → wp (ev (d + 5)) P vr_best 23 [some (.ref 0), some (.int k)] [] (E g' q) := by
    intro g' h f
    rw [h] at H
    rw [b_vr_best_23]
    simp -implicitDefEqProofs (disch := first | assumption | omega) only [szS_0, szS_i, szS_r, szS_l, x_cons, x_goto, ob_some, kl_i, kl_r, kl_l, kl_n, push_n, push_s, pop_0, pop_i, pop_r, Int.reduceToNat, List.length_cons, List.length_nil, Nat.reduceAdd, Nat.reduceLeDiff, Nat.zero_add, true_and, nI_n0, nat_le, Nat.add_zero, rt_vr_best, x_al0, x_call, x_getf, x_iaload, x_ifeq, x_ifne, x_il1, x_iret, x_ldc, x_m1]
    exact H g' f
  rw [b_vr_best_0]
  simp -implicitDefEqProofs (disch := first | assumption | omega) only [szS_0, szS_i, szS_r, szS_l, x_cons, x_goto, ob_some, kl_i, kl_r, kl_l, kl_n, push_n, push_s, pop_0, pop_i, pop_r, Int.reduceToNat, List.length_cons, List.length_nil, Nat.reduceAdd, Nat.reduceLeDiff, Nat.zero_add, true_and, nI_n0, nat_le, Nat.add_zero, rt_vr_best, x_al0, x_call, x_getf, x_iaload, x_ifeq, x_ifne, x_il1, x_iret, x_ldc, x_m1, s_within, bI_0]
  by_cases h1 : nI 0 ≤ k ∧ k ≤ nI 3
  · simp only [decide_eq_true h1, Bool.true_eq_false, ↓reduceIte]
    have eV : bsV w k = if (bsE w).2.1 = 99 then -1 else if k = nI 0 then nI (bsE w).2.1 else if k = nI 1 then nI (bsE w).2.2.1 else if k = nI 2 then nI (bsE w).2.2.2 else nI (bsE w).1 := by
      unfold bsV
      rw [if_pos (decide_eq_true h1)]
    try simp -implicitDefEqProofs (disch := first | assumption | omega) only [szS_0, szS_i, szS_r, szS_l, x_cons, x_goto, ob_some, kl_i, kl_r, kl_l, kl_n, push_n, push_s, pop_0, pop_i, pop_r, Int.reduceToNat, List.length_cons, List.length_nil, Nat.reduceAdd, Nat.reduceLeDiff, Nat.zero_add, true_and, nI_n0, nat_le, Nat.add_zero, rt_vr_best, x_al0, x_call, x_getf, x_iaload, x_ifeq, x_ifne, x_il1, x_iret, x_ldc, x_m1, fd_0_0, fd_0_1, fd_0_2, fd_0_3, fd_0_4, fd_0_5, fd_0_6, fd_0_7, fd_0_8, fd_0_9, sf_0_9]
    refine in_co_findBestDig rfl ?_
    rw [b_co_findBestDig_0]
    simp -implicitDefEqProofs (disch := first | assumption | omega) only [szS_0, szS_i, szS_r, szS_l, x_cons, x_goto, ob_some, kl_i, kl_r, kl_l, kl_n, push_n, push_s, pop_0, pop_i, pop_r, Int.reduceToNat, List.length_cons, List.length_nil, Nat.reduceAdd, Nat.reduceLeDiff, Nat.zero_add, true_and, nI_n0, nat_le, Nat.add_zero, i_1, rt_co_findBestDig_0, rt_co_findBestDig_1, rt_co_findBestDig_b, x_al0, x_al1, x_al2, x_as2, x_call, x_getf, x_goto, x_iadd, x_iaload, x_iastore, x_icge, x_icle, x_ifne, x_il10, x_il3, x_il4, x_il5, x_il6, x_il7, x_il8, x_il9, x_imul, x_inc5, x_inc6, x_inc9, x_iret, x_is10, x_is3, x_is4, x_is5, x_is6, x_is7, x_is8, x_is9, x_ldc, fd_184_0, fd_184_1, fd_184_2, fd_184_3, fd_184_4, fd_184_5, fd_184_6, fd_184_7, sf_184_7, fd_184_8, sf_184_8, fd_184_9, fd_184_10, fd_184_11]
    refine s_tcopy (t := 61) (s := 1) (by decide) (by decide) (by decide) fun g1 c1 => ?_
    simp -implicitDefEqProofs (disch := first | assumption | omega) only [szS_0, szS_i, szS_r, szS_l, x_cons, x_goto, ob_some, kl_i, kl_r, kl_l, kl_n, push_n, push_s, pop_0, pop_i, pop_r, Int.reduceToNat, List.length_cons, List.length_nil, Nat.reduceAdd, Nat.reduceLeDiff, Nat.zero_add, true_and, nI_n0, nat_le, Nat.add_zero, i_1, rt_co_findBestDig_0, rt_co_findBestDig_1, rt_co_findBestDig_b, x_al0, x_al1, x_al2, x_as2, x_call, x_getf, x_goto, x_iadd, x_iaload, x_iastore, x_icge, x_icle, x_ifne, x_il10, x_il3, x_il4, x_il5, x_il6, x_il7, x_il8, x_il9, x_imul, x_inc5, x_inc6, x_inc9, x_iret, x_is10, x_is3, x_is4, x_is5, x_is6, x_is7, x_is8, x_is9, x_ldc, fd_184_0, fd_184_1, fd_184_2, fd_184_3, fd_184_4, fd_184_5, fd_184_6, fd_184_7, sf_184_7, fd_184_8, sf_184_8, fd_184_9, fd_184_10, fd_184_11, fd_61_0, fd_61_1, fd_61_2, fd_61_3, fd_61_4]
    have t1 := Tb_of (Tc_cp hw c1 hK)
    refine s_wetHeads hw t1 fun g2 f2 => ?_
    simp -implicitDefEqProofs (disch := first | assumption | omega) only [szS_0, szS_i, szS_r, szS_l, x_cons, x_goto, ob_some, kl_i, kl_r, kl_l, kl_n, push_n, push_s, pop_0, pop_i, pop_r, Int.reduceToNat, List.length_cons, List.length_nil, Nat.reduceAdd, Nat.reduceLeDiff, Nat.zero_add, true_and, nI_n0, nat_le, Nat.add_zero, i_1, rt_co_findBestDig_0, rt_co_findBestDig_1, rt_co_findBestDig_b, x_al0, x_al1, x_al2, x_as2, x_call, x_getf, x_goto, x_iadd, x_iaload, x_iastore, x_icge, x_icle, x_ifne, x_il10, x_il3, x_il4, x_il5, x_il6, x_il7, x_il8, x_il9, x_imul, x_inc5, x_inc6, x_inc9, x_iret, x_is10, x_is3, x_is4, x_is5, x_is6, x_is7, x_is8, x_is9, x_ldc]
    have hl := hbW_l hw
    refine bf_lp hw (g0 := g2) (Tb_c t1 fun b b1 b2 => f2 b (by omega)) (sE := bsE w) (fun g3 f3 R3 O3 => ?_) (nn w) 0 (hbW w, 99, 0, 0) g2 none none none none none (Nat.zero_add _) rfl (fun _ _ _ _ => rfl) rfl (fun h => absurd rfl h) ⟨hl, Nat.le_refl _, Or.inl rfl, Nat.zero_lt_succ _, Nat.zero_lt_succ _⟩
    have fq : fQ g g3 := ⟨fun b b1 b2 b3 b4 => by rw [f3 b (by omega) (by omega) (by omega), f2 b (by omega), c1.1 b (by omega)], fun z _ => ⟨by rw [f3 84 (by omega) (by omega) (by omega), f2 84 (by omega), c1.2.2.2.1.2.2.2 0 (by decide)]; exact z.1, by rw [f3 88 (by omega) (by omega) (by omega), f2 88 (by omega), c1.2.2.2.2.1.2.2.2 0 (by decide)]; exact z.2⟩⟩
    unfold fnd
    simp -implicitDefEqProofs (disch := first | assumption | omega) only [szS_0, szS_i, szS_r, szS_l, x_cons, x_goto, ob_some, kl_i, kl_r, kl_l, kl_n, push_n, push_s, pop_0, pop_i, pop_r, Int.reduceToNat, List.length_cons, List.length_nil, Nat.reduceAdd, Nat.reduceLeDiff, Nat.zero_add, true_and, nI_n0, nat_le, Nat.add_zero, rt_vr_best, x_al0, x_call, x_getf, x_iaload, x_ifeq, x_ifne, x_il1, x_iret, x_ldc, x_m1]
    by_cases h9 : (bsE w).2.1 = 99
    · rw [if_pos h9] at eV
      rw [if_pos h9]
      try simp -implicitDefEqProofs (disch := first | assumption | omega) only [szS_0, szS_i, szS_r, szS_l, x_cons, x_goto, ob_some, kl_i, kl_r, kl_l, kl_n, push_n, push_s, pop_0, pop_i, pop_r, Int.reduceToNat, List.length_cons, List.length_nil, Nat.reduceAdd, Nat.reduceLeDiff, Nat.zero_add, true_and, nI_n0, nat_le, Nat.add_zero, rt_vr_best, x_al0, x_call, x_getf, x_iaload, x_ifeq, x_ifne, x_il1, x_iret, x_ldc, x_m1, ↓reduceIte]
      exact no g3 eV fq
    · rw [if_neg h9] at eV
      rw [if_neg h9]
      obtain ⟨r0, r1, r2, r3⟩ := R3 h9
      have n10 : (nI 1 = nI 0) = False := eq_false (by decide)
      have n20 : ¬ nI 2 = nI 0 := by decide
      have n21 : ¬ nI 2 = nI 1 := by decide
      have n30 : ¬ nI 3 = nI 0 := by decide
      have n31 : ¬ nI 3 = nI 1 := by decide
      have n32 : ¬ nI 3 = nI 2 := by decide
      obtain ⟨k', hk, rfl⟩ := int_is h1 (by decide)
      have hlt : k' < 4 := by omega
      have ek : g3 194 k' = bsV w (nI k') := by
        rw [eV]
        have : k' = 0 ∨ k' = 1 ∨ k' = 2 ∨ k' = 3 := by omega
        rcases this with rfl | rfl | rfl | rfl
        · rw [if_pos rfl]; exact r0
        · rw [if_neg (by decide), if_pos rfl]; exact r1
        · rw [if_neg n20, if_neg n21, if_pos rfl]; exact r2
        · rw [if_neg n30, if_neg n31, if_neg n32]; exact r3
      try simp -implicitDefEqProofs (disch := first | assumption | omega) only [szS_0, szS_i, szS_r, szS_l, x_cons, x_goto, ob_some, kl_i, kl_r, kl_l, kl_n, push_n, push_s, pop_0, pop_i, pop_r, Int.reduceToNat, List.length_cons, List.length_nil, Nat.reduceAdd, Nat.reduceLeDiff, Nat.zero_add, true_and, nI_n0, nat_le, Nat.add_zero, rt_vr_best, x_al0, x_call, x_getf, x_iaload, x_ifeq, x_ifne, x_il1, x_iret, x_ldc, x_m1, n10, ↓reduceIte, b_vr_best_25, fd_0_0, fd_0_1, fd_0_2, fd_0_3, fd_0_4, fd_0_5, fd_0_6, fd_0_7, fd_0_8, fd_0_9, sf_0_9, fd_184_0, fd_184_1, fd_184_2, fd_184_3, fd_184_4, fd_184_5, fd_184_6, fd_184_7, sf_184_7, fd_184_8, sf_184_8, fd_184_9, fd_184_10, fd_184_11, ld_194, sd_194, ln_194, ek]
      exact H g3 fq
  · simp only [decide_eq_false h1, ↓reduceIte]
    exact no g (by unfold bsV; rw [decide_eq_false h1, if_neg Bool.false_ne_true]) fQ_r
end CB2
/-! the reference's -/
section MB2
variable {d : Nat} {g : Nat → Nat → Int32} {q : Nat → Nat → Int64} {P : QT}
theorem wt_c (H : ∀ r o, (∀ k, k < 596 → r k = g 197 k) → wp (ev d) P mo_wetTowns 27 [some (.ref 196), o, none] [] (E (upw g 200 r) q)) : ∀ (j n : Nat) (r : Nat → Int32), n + j = 596 → (∀ k, k < n → r k = g 197 k) →
    wp (ev d) P mo_wetTowns 2 [some (.ref 196), some (.int (nI n)), none] [] (E (upw g 200 r) q) := by
  intro j
  induction j with
  | zero =>
    intro n r hn hr
    have hn : n = 596 := hn
    subst hn
    rw [b_mo_wetTowns_2]
    simp -implicitDefEqProofs (disch := first | assumption | omega) only [szS_0, szS_i, szS_r, szS_l, x_cons, x_goto, ob_some, kl_i, kl_r, kl_l, kl_n, push_n, push_s, pop_0, pop_i, pop_r, Int.reduceToNat, List.length_cons, List.length_nil, Nat.reduceAdd, Nat.reduceLeDiff, Nat.zero_add, true_and, nI_n0, nat_le, Nat.add_zero, i_1, rt_mo_wetTowns, x_al0, x_call, x_getf, x_goto, x_iaload, x_iastore, x_icge, x_icne, x_ifeq, x_il1, x_il2, x_inc1, x_inc2, x_ior, x_iret, x_is1, x_is2, x_ishl, x_ldc, nI_ltE, Nat.lt_irrefl, ↓reduceIte]
    exact H r _ hr
  | succ j ih =>
    intro n r hn hr
    have hn' : n < 596 := by omega
    rw [b_mo_wetTowns_2]
    simp -implicitDefEqProofs (disch := first | assumption | omega) only [szS_0, szS_i, szS_r, szS_l, x_cons, x_goto, ob_some, kl_i, kl_r, kl_l, kl_n, push_n, push_s, pop_0, pop_i, pop_r, Int.reduceToNat, List.length_cons, List.length_nil, Nat.reduceAdd, Nat.reduceLeDiff, Nat.zero_add, true_and, nI_n0, nat_le, Nat.add_zero, i_1, rt_mo_wetTowns, x_al0, x_call, x_getf, x_goto, x_iaload, x_iastore, x_icge, x_icne, x_ifeq, x_il1, x_il2, x_inc1, x_inc2, x_ior, x_iret, x_is1, x_is2, x_ishl, x_ldc, nI_ltE, hn', ↓reduceIte, fd_196_0, fd_196_1, fd_196_2, fd_196_3, fd_196_4, sf_196_4, fd_196_5, sf_196_5, fd_196_6, fd_196_7, fd_196_8, fd_196_9, fd_196_10, fd_196_11, fd_196_12, sf_196_12, fd_196_13, sf_196_13, fd_196_14, sf_196_14, fd_196_15, sf_196_15, fd_196_16, sf_196_16, fd_196_17, sf_196_17, fd_196_18, sf_196_18, fd_196_19, sf_196_19, fd_196_20, sf_196_20, fd_196_21, sf_196_21, fd_196_22, sf_196_22, fd_196_23, sf_196_23, fd_196_24, sf_196_24, fd_196_25, sf_196_25, fd_196_26, sf_196_26, fd_196_27, fd_196_28, fd_196_29, fd_196_30, sf_196_30, fd_196_31, fd_196_32, fd_196_33, fd_196_34, fd_196_35, fd_196_36, fd_196_37, sf_196_37, fd_196_38, fd_196_39, sf_196_39, fd_196_40, sf_196_40, fd_196_41, sf_196_41, fd_196_42, fd_196_43, fd_196_44, ld_197, sd_197, ln_197, ld_200, sd_200, ln_200, upw_o, pu_w, nI_add]
    refine ih (n + 1) _ (by omega) fun k hk => ?_
    by_cases e : k = n
    · rw [e, pu_s]
    · rw [pu_n e]
      exact hr k (by omega)
theorem wt_lp2 {w : Nat → Int32} (hw : WI w) {fl : Nat} (hfl : fl ≤ 1998) (hg : g 197 = flR w fl) (H : ∀ o, wp (ev (d + 3)) P mo_wetTowns 87 [some (.ref 196), some (.int (nI (wtS w (fun n => fd w n 5) fl (nn w)))), o] [] (E g q)) : ∀ (j n : Nat), n + j = nn w →
    wp (ev (d + 3)) P mo_wetTowns 42 [some (.ref 196), some (.int (nI (wtS w (fun n => fd w n 5) fl n))), some (.int (nI n))] [] (E g q) := by
  have hN := wi_n hw
  have hw2 := flR_wi hw hfl
  have hst := flR_stc hw (fl := fl)
  have e0 : g 197 0 = nI (nn w) := by rw [hg, hst.1]; exact hN.1
  intro j
  induction j with
  | zero =>
    intro n hn
    have hn : n = nn w := hn
    rw [hn, b_mo_wetTowns_42]
    simp -implicitDefEqProofs (disch := first | assumption | omega) only [szS_0, szS_i, szS_r, szS_l, x_cons, x_goto, ob_some, kl_i, kl_r, kl_l, kl_n, push_n, push_s, pop_0, pop_i, pop_r, Int.reduceToNat, List.length_cons, List.length_nil, Nat.reduceAdd, Nat.reduceLeDiff, Nat.zero_add, true_and, nI_n0, nat_le, Nat.add_zero, i_1, rt_mo_wetTowns, x_al0, x_call, x_getf, x_goto, x_iaload, x_iastore, x_icge, x_icne, x_ifeq, x_il1, x_il2, x_inc1, x_inc2, x_ior, x_iret, x_is1, x_is2, x_ishl, x_ldc, fd_196_0, fd_196_1, fd_196_2, fd_196_3, fd_196_4, sf_196_4, fd_196_5, sf_196_5, fd_196_6, fd_196_7, fd_196_8, fd_196_9, fd_196_10, fd_196_11, fd_196_12, sf_196_12, fd_196_13, sf_196_13, fd_196_14, sf_196_14, fd_196_15, sf_196_15, fd_196_16, sf_196_16, fd_196_17, sf_196_17, fd_196_18, sf_196_18, fd_196_19, sf_196_19, fd_196_20, sf_196_20, fd_196_21, sf_196_21, fd_196_22, sf_196_22, fd_196_23, sf_196_23, fd_196_24, sf_196_24, fd_196_25, sf_196_25, fd_196_26, sf_196_26, fd_196_27, fd_196_28, fd_196_29, fd_196_30, sf_196_30, fd_196_31, fd_196_32, fd_196_33, fd_196_34, fd_196_35, fd_196_36, fd_196_37, sf_196_37, fd_196_38, fd_196_39, sf_196_39, fd_196_40, sf_196_40, fd_196_41, sf_196_41, fd_196_42, fd_196_43, fd_196_44, ld_197, sd_197, ln_197, e0, nI_ltE, Nat.lt_irrefl, ↓reduceIte]
    exact H _
  | succ j ih =>
    intro n hn
    have hn' : n < nn w := by omega
    have hi := ih (n + 1) (by omega)
    rw [wtS_s] at hi
    have eT : townB (g 197) (nI n) = decide (fd w n 0 = 1) := by
      rw [hg, townB_nI hw2 (by omega), stc_nn hst, stc_fd hst (by omega) (by decide), decide_eq_true hn', Bool.true_and]
    rw [b_mo_wetTowns_42]
    simp -implicitDefEqProofs (disch := first | assumption | omega) only [szS_0, szS_i, szS_r, szS_l, x_cons, x_goto, ob_some, kl_i, kl_r, kl_l, kl_n, push_n, push_s, pop_0, pop_i, pop_r, Int.reduceToNat, List.length_cons, List.length_nil, Nat.reduceAdd, Nat.reduceLeDiff, Nat.zero_add, true_and, nI_n0, nat_le, Nat.add_zero, i_1, rt_mo_wetTowns, x_al0, x_call, x_getf, x_goto, x_iaload, x_iastore, x_icge, x_icne, x_ifeq, x_il1, x_il2, x_inc1, x_inc2, x_ior, x_iret, x_is1, x_is2, x_ishl, x_ldc, fd_196_0, fd_196_1, fd_196_2, fd_196_3, fd_196_4, sf_196_4, fd_196_5, sf_196_5, fd_196_6, fd_196_7, fd_196_8, fd_196_9, fd_196_10, fd_196_11, fd_196_12, sf_196_12, fd_196_13, sf_196_13, fd_196_14, sf_196_14, fd_196_15, sf_196_15, fd_196_16, sf_196_16, fd_196_17, sf_196_17, fd_196_18, sf_196_18, fd_196_19, sf_196_19, fd_196_20, sf_196_20, fd_196_21, sf_196_21, fd_196_22, sf_196_22, fd_196_23, sf_196_23, fd_196_24, sf_196_24, fd_196_25, sf_196_25, fd_196_26, sf_196_26, fd_196_27, fd_196_28, fd_196_29, fd_196_30, sf_196_30, fd_196_31, fd_196_32, fd_196_33, fd_196_34, fd_196_35, fd_196_36, fd_196_37, sf_196_37, fd_196_38, fd_196_39, sf_196_39, fd_196_40, sf_196_40, fd_196_41, sf_196_41, fd_196_42, fd_196_43, fd_196_44, ld_197, sd_197, ln_197, e0, nI_ltE, hn', ↓reduceIte]
    rw [s_isTown (by rw [hg]; exact hw2), eT]
    simp -implicitDefEqProofs (disch := first | assumption | omega) only [szS_0, szS_i, szS_r, szS_l, x_cons, x_goto, ob_some, kl_i, kl_r, kl_l, kl_n, push_n, push_s, pop_0, pop_i, pop_r, Int.reduceToNat, List.length_cons, List.length_nil, Nat.reduceAdd, Nat.reduceLeDiff, Nat.zero_add, true_and, nI_n0, nat_le, Nat.add_zero, i_1, rt_mo_wetTowns, x_al0, x_call, x_getf, x_goto, x_iaload, x_iastore, x_icge, x_icne, x_ifeq, x_il1, x_il2, x_inc1, x_inc2, x_ior, x_iret, x_is1, x_is2, x_ishl, x_ldc, bI_0]
    by_cases hs : fd w n 0 = 1
    · rw [decide_eq_true hs, Bool.true_and] at hi
      have e17 : g 197 (10 + 20 * n + 17) = nI (if wetP w (cmA w (fun n => fd w n 5) fl n) n = true then 1 else 0) := by rw [hg]; exact (flR_w hw hn' hs).1
      rw [decide_eq_true hs]
      simp -implicitDefEqProofs (disch := first | assumption | omega) only [Bool.true_eq_false, ↓reduceIte, szS_0, szS_i, szS_r, szS_l, x_cons, x_goto, ob_some, kl_i, kl_r, kl_l, kl_n, push_n, push_s, pop_0, pop_i, pop_r, Int.reduceToNat, List.length_cons, List.length_nil, Nat.reduceAdd, Nat.reduceLeDiff, Nat.zero_add, true_and, nI_n0, nat_le, Nat.add_zero, i_1, rt_mo_wetTowns, x_al0, x_call, x_getf, x_goto, x_iaload, x_iastore, x_icge, x_icne, x_ifeq, x_il1, x_il2, x_inc1, x_inc2, x_ior, x_iret, x_is1, x_is2, x_ishl, x_ldc, s_own, e17]
      cases hwp : wetP w (cmA w (fun n => fd w n 5) fl n) n
      · rw [hwp, if_neg Bool.false_ne_true] at hi
        have n01 : (nI 0 = nI 1) = False := eq_false (by decide)
        simp -implicitDefEqProofs (disch := first | assumption | omega) only [Bool.false_eq_true, n01, ↓reduceIte, b_mo_wetTowns_78, b_mo_wetTowns_79, szS_0, szS_i, szS_r, szS_l, x_cons, x_goto, ob_some, kl_i, kl_r, kl_l, kl_n, push_n, push_s, pop_0, pop_i, pop_r, Int.reduceToNat, List.length_cons, List.length_nil, Nat.reduceAdd, Nat.reduceLeDiff, Nat.zero_add, true_and, nI_n0, nat_le, Nat.add_zero, i_1, rt_mo_wetTowns, x_al0, x_call, x_getf, x_goto, x_iaload, x_iastore, x_icge, x_icne, x_ifeq, x_il1, x_il2, x_inc1, x_inc2, x_ior, x_iret, x_is1, x_is2, x_ishl, x_ldc, nI_or, nI_add]
        exact hi
      · rw [hwp, if_pos rfl] at hi
        simp -implicitDefEqProofs (disch := first | assumption | omega) only [↓reduceIte, szS_0, szS_i, szS_r, szS_l, x_cons, x_goto, ob_some, kl_i, kl_r, kl_l, kl_n, push_n, push_s, pop_0, pop_i, pop_r, Int.reduceToNat, List.length_cons, List.length_nil, Nat.reduceAdd, Nat.reduceLeDiff, Nat.zero_add, true_and, nI_n0, nat_le, Nat.add_zero, i_1, rt_mo_wetTowns, x_al0, x_call, x_getf, x_goto, x_iaload, x_iastore, x_icge, x_icne, x_ifeq, x_il1, x_il2, x_inc1, x_inc2, x_ior, x_iret, x_is1, x_is2, x_ishl, x_ldc, nI_shl1, b_mo_wetTowns_79, nI_or, nI_add]
        exact hi
    · rw [decide_eq_false hs, Bool.false_and, if_neg Bool.false_ne_true] at hi
      rw [decide_eq_false hs]
      simp -implicitDefEqProofs (disch := first | assumption | omega) only [↓reduceIte, b_mo_wetTowns_78, b_mo_wetTowns_79, szS_0, szS_i, szS_r, szS_l, x_cons, x_goto, ob_some, kl_i, kl_r, kl_l, kl_n, push_n, push_s, pop_0, pop_i, pop_r, Int.reduceToNat, List.length_cons, List.length_nil, Nat.reduceAdd, Nat.reduceLeDiff, Nat.zero_add, true_and, nI_n0, nat_le, Nat.add_zero, i_1, rt_mo_wetTowns, x_al0, x_call, x_getf, x_goto, x_iaload, x_iastore, x_icge, x_icne, x_ifeq, x_il1, x_il2, x_inc1, x_inc2, x_ior, x_iret, x_is1, x_is2, x_ishl, x_ldc, nI_or, nI_add]
      exact hi
theorem s_wetTowns (hw : WI (g 197)) (H : ∀ g', FR [200, 208, 197] [] g g' → g' 197 = g 197 → P (some (.int (nI (wtW (g 197))))) (E g' q)) : callC (ev (d + 5)) mo_wetTowns [.ref 196] (E g q) P := by
  refine in_mo_wetTowns rfl ?_
  have h6 := wi_6 hw
  rw [b_mo_wetTowns_0]
  simp -implicitDefEqProofs (disch := first | assumption | omega) only [szS_0, szS_i, szS_r, szS_l, x_cons, x_goto, ob_some, kl_i, kl_r, kl_l, kl_n, push_n, push_s, pop_0, pop_i, pop_r, Int.reduceToNat, List.length_cons, List.length_nil, Nat.reduceAdd, Nat.reduceLeDiff, Nat.zero_add, true_and, nI_n0, nat_le, Nat.add_zero, i_1, rt_mo_wetTowns, x_al0, x_call, x_getf, x_goto, x_iaload, x_iastore, x_icge, x_icne, x_ifeq, x_il1, x_il2, x_inc1, x_inc2, x_ior, x_iret, x_is1, x_is2, x_ishl, x_ldc]
  rw [show E g q = E (upw g 200 (g 200)) q by rw [upw_g]]
  refine wt_c (fun r o hr => ?_) 596 0 _ rfl fun k hk => absurd hk (Nat.not_lt_zero k)
  have e1 : upw g 200 r 197 = g 197 := upw_o (by decide)
  rw [b_mo_wetTowns_27]
  simp -implicitDefEqProofs (disch := first | assumption | omega) only [szS_0, szS_i, szS_r, szS_l, x_cons, x_goto, ob_some, kl_i, kl_r, kl_l, kl_n, push_n, push_s, pop_0, pop_i, pop_r, Int.reduceToNat, List.length_cons, List.length_nil, Nat.reduceAdd, Nat.reduceLeDiff, Nat.zero_add, true_and, nI_n0, nat_le, Nat.add_zero, i_1, rt_mo_wetTowns, x_al0, x_call, x_getf, x_goto, x_iaload, x_iastore, x_icge, x_icne, x_ifeq, x_il1, x_il2, x_inc1, x_inc2, x_ior, x_iret, x_is1, x_is2, x_ishl, x_ldc, fd_196_0, fd_196_1, fd_196_2, fd_196_3, fd_196_4, sf_196_4, fd_196_5, sf_196_5, fd_196_6, fd_196_7, fd_196_8, fd_196_9, fd_196_10, fd_196_11, fd_196_12, sf_196_12, fd_196_13, sf_196_13, fd_196_14, sf_196_14, fd_196_15, sf_196_15, fd_196_16, sf_196_16, fd_196_17, sf_196_17, fd_196_18, sf_196_18, fd_196_19, sf_196_19, fd_196_20, sf_196_20, fd_196_21, sf_196_21, fd_196_22, sf_196_22, fd_196_23, sf_196_23, fd_196_24, sf_196_24, fd_196_25, sf_196_25, fd_196_26, sf_196_26, fd_196_27, fd_196_28, fd_196_29, fd_196_30, sf_196_30, fd_196_31, fd_196_32, fd_196_33, fd_196_34, fd_196_35, fd_196_36, fd_196_37, sf_196_37, fd_196_38, fd_196_39, sf_196_39, fd_196_40, sf_196_40, fd_196_41, sf_196_41, fd_196_42, fd_196_43, fd_196_44, ld_197, sd_197, ln_197, e1, h6.1]
  refine s_flows (by rw [e1]; exact hw) (fl6 hw) fun r2 => ?_
  rw [e1]
  simp -implicitDefEqProofs (disch := first | assumption | omega) only [szS_0, szS_i, szS_r, szS_l, x_cons, x_goto, ob_some, kl_i, kl_r, kl_l, kl_n, push_n, push_s, pop_0, pop_i, pop_r, Int.reduceToNat, List.length_cons, List.length_nil, Nat.reduceAdd, Nat.reduceLeDiff, Nat.zero_add, true_and, nI_n0, nat_le, Nat.add_zero, i_1, rt_mo_wetTowns, x_al0, x_call, x_getf, x_goto, x_iaload, x_iastore, x_icge, x_icne, x_ifeq, x_il1, x_il2, x_inc1, x_inc2, x_ior, x_iret, x_is1, x_is2, x_ishl, x_ldc]
  refine wt_lp2 (w := g 197) hw (fl6 hw) upw_s (fun o => ?_) (nn (g 197)) 0 (Nat.zero_add _)
  rw [b_mo_wetTowns_87]
  simp -implicitDefEqProofs (disch := first | assumption | omega) only [szS_0, szS_i, szS_r, szS_l, x_cons, x_goto, ob_some, kl_i, kl_r, kl_l, kl_n, push_n, push_s, pop_0, pop_i, pop_r, Int.reduceToNat, List.length_cons, List.length_nil, Nat.reduceAdd, Nat.reduceLeDiff, Nat.zero_add, true_and, nI_n0, nat_le, Nat.add_zero, i_1, rt_mo_wetTowns, x_al0, x_call, x_getf, x_goto, x_iaload, x_iastore, x_icge, x_icne, x_ifeq, x_il1, x_il2, x_inc1, x_inc2, x_ior, x_iret, x_is1, x_is2, x_ishl, x_ldc]
  rw [s_putsBack (w := g 197) (fun k hk => by rw [upw_o (by decide), upw_o (by decide), upw_s]; exact hr k hk) (fun k hk => by rw [upw_s]; exact flR_o hw (by omega) (by omega) (by omega))]
  simp -implicitDefEqProofs (disch := first | assumption | omega) only [szS_0, szS_i, szS_r, szS_l, x_cons, x_goto, ob_some, kl_i, kl_r, kl_l, kl_n, push_n, push_s, pop_0, pop_i, pop_r, Int.reduceToNat, List.length_cons, List.length_nil, Nat.reduceAdd, Nat.reduceLeDiff, Nat.zero_add, true_and, nI_n0, nat_le, Nat.add_zero, i_1, rt_mo_wetTowns, x_al0, x_call, x_getf, x_goto, x_iaload, x_iastore, x_icge, x_icne, x_ifeq, x_il1, x_il2, x_inc1, x_inc2, x_ior, x_iret, x_is1, x_is2, x_ishl, x_ldc]
  exact H _ (FR_w rfl (FR_w rfl (FR_w rfl (FR_w rfl FR_r)))) upw_s
/-- what the reference has found: fork, arm, node -/
def bsK (s : BS) (a b c : Int32) : Prop := if s.2.1 = 99 then a = -1 ∧ b = -1 ∧ c = -1 else a = nI s.2.1 ∧ b = nI s.2.2.1 ∧ c = nI s.2.2.2
theorem mn_lp {w : Nat → Int32} (hw : WI w) {f a : Nat} (hf : f < nn w) (ha : a < am w f) {v1 : Int32} {g0 : Nat → Nat → Int32} {sE : BS} (H : ∀ g' o a3 a4 a5, FR [200, 208, 197] [] g0 g' → g' 197 = w → bsK sE a3 a4 a5 → bsO w sE → wp (ev (d + 5)) P mo_best 166 [some (.ref 196), some (.int v1), some (.int (nI sE.1)), some (.int a3), some (.int a4), some (.int a5), some (.int (nI f)), some (.int (nI a)), some (.int (nI (tg w f a))), some (.int (nI (nn w))), o] [] (E g' q)) :
    ∀ (j n : Nat) (s : BS) (g : Nat → Nat → Int32) (o : Option Value) (a3 a4 a5 : Int32), n + j = nn w → f < n → bsN w f a j n s = sE → FR [200, 208, 197] [] g0 g → g 197 = w → bsK s a3 a4 a5 → bsO w s →
    wp (ev (d + 5)) P mo_best 82 [some (.ref 196), some (.int v1), some (.int (nI s.1)), some (.int a3), some (.int a4), some (.int a5), some (.int (nI f)), some (.int (nI a)), some (.int (nI (tg w f a))), some (.int (nI n)), o] [] (E g q) := by
  have hN := wi_n hw
  have ha3 := am_le hw (n := f) (by omega)
  have htl := tg_lt hw (n := f) (a := a) (by omega) ha
  intro j
  induction j with
  | zero =>
    intro n s g o a3 a4 a5 hn hfn hE hg h7 hK hO
    have hn : n = nn w := hn
    have hE : s = sE := hE
    have e0 : g 197 0 = nI (nn w) := by rw [h7]; exact hN.1
    subst hn hE
    rw [b_mo_best_82]
    simp -implicitDefEqProofs (disch := first | assumption | omega) only [szS_0, szS_i, szS_r, szS_l, x_cons, x_goto, ob_some, kl_i, kl_r, kl_l, kl_n, push_n, push_s, pop_0, pop_i, pop_r, Int.reduceToNat, List.length_cons, List.length_nil, Nat.reduceAdd, Nat.reduceLeDiff, Nat.zero_add, true_and, nI_n0, nat_le, Nat.add_zero, i_1, rt_mo_best, x_al0, x_call, x_getf, x_goto, x_iadd, x_iaload, x_icge, x_icgt, x_icne, x_ifeq, x_ifne, x_il1, x_il10, x_il2, x_il3, x_il4, x_il5, x_il6, x_il7, x_il8, x_il9, x_inc6, x_inc7, x_inc9, x_iret, x_is10, x_is2, x_is3, x_is4, x_is5, x_is6, x_is7, x_is8, x_is9, x_ldc, x_m1, fd_196_0, fd_196_1, fd_196_2, fd_196_3, fd_196_4, sf_196_4, fd_196_5, sf_196_5, fd_196_6, fd_196_7, fd_196_8, fd_196_9, fd_196_10, fd_196_11, fd_196_12, sf_196_12, fd_196_13, sf_196_13, fd_196_14, sf_196_14, fd_196_15, sf_196_15, fd_196_16, sf_196_16, fd_196_17, sf_196_17, fd_196_18, sf_196_18, fd_196_19, sf_196_19, fd_196_20, sf_196_20, fd_196_21, sf_196_21, fd_196_22, sf_196_22, fd_196_23, sf_196_23, fd_196_24, sf_196_24, fd_196_25, sf_196_25, fd_196_26, sf_196_26, fd_196_27, fd_196_28, fd_196_29, fd_196_30, sf_196_30, fd_196_31, fd_196_32, fd_196_33, fd_196_34, fd_196_35, fd_196_36, fd_196_37, sf_196_37, fd_196_38, fd_196_39, sf_196_39, fd_196_40, sf_196_40, fd_196_41, sf_196_41, fd_196_42, fd_196_43, fd_196_44, ld_197, sd_197, ln_197, e0, nI_ltE, Nat.lt_irrefl, ↓reduceIte]
    exact H g o a3 a4 a5 hg h7 hK hO
  | succ j ih =>
    intro n s g o a3 a4 a5 hn hfn hE hg h7 hK hO
    have hn' : n < nn w := by omega
    have e0 : g 197 0 = nI (nn w) := by rw [h7]; exact hN.1
    have hE : bsN w f a j (n + 1) (bs1 w f a n s) = sE := hE
    have hdw := dg_wi hw hf ha hfn hn'
    have hl := hbW_l hdw
    have hs1 := hO.1
    have eS : bs1 w f a n s = if s.1 < hbW (dgR w f a n) then (hbW (dgR w f a n), f, a, n) else s := rfl
    have hO2 := bs1_O hw hf ha hfn hn' hO
    have next : ∀ g1 s1 o a3 a4 a5, bs1 w f a n s = s1 → FR [200, 208, 197] [] g0 g1 → g1 197 = w → bsK s1 a3 a4 a5 → wp (ev (d + 5)) P mo_best 160 [some (.ref 196), some (.int v1), some (.int (nI s1.1)), some (.int a3), some (.int a4), some (.int a5), some (.int (nI f)), some (.int (nI a)), some (.int (nI (tg w f a))), some (.int (nI n)), o] [] (E g1 q) := by
      intro g1 s1 o a3 a4 a5 he hg1 h71 hK1
      rw [b_mo_best_160]
      simp -implicitDefEqProofs (disch := first | assumption | omega) only [szS_0, szS_i, szS_r, szS_l, x_cons, x_goto, ob_some, kl_i, kl_r, kl_l, kl_n, push_n, push_s, pop_0, pop_i, pop_r, Int.reduceToNat, List.length_cons, List.length_nil, Nat.reduceAdd, Nat.reduceLeDiff, Nat.zero_add, true_and, nI_n0, nat_le, Nat.add_zero, i_1, rt_mo_best, x_al0, x_call, x_getf, x_goto, x_iadd, x_iaload, x_icge, x_icgt, x_icne, x_ifeq, x_ifne, x_il1, x_il10, x_il2, x_il3, x_il4, x_il5, x_il6, x_il7, x_il8, x_il9, x_inc6, x_inc7, x_inc9, x_iret, x_is10, x_is2, x_is3, x_is4, x_is5, x_is6, x_is7, x_is8, x_is9, x_ldc, x_m1, nI_add]
      rw [he] at hE hO2
      exact ih (n + 1) s1 g1 o a3 a4 a5 (by omega) (by omega) hE hg1 h71 hK1 hO2
    rw [b_mo_best_82]
    simp -implicitDefEqProofs (disch := first | assumption | omega) only [szS_0, szS_i, szS_r, szS_l, x_cons, x_goto, ob_some, kl_i, kl_r, kl_l, kl_n, push_n, push_s, pop_0, pop_i, pop_r, Int.reduceToNat, List.length_cons, List.length_nil, Nat.reduceAdd, Nat.reduceLeDiff, Nat.zero_add, true_and, nI_n0, nat_le, Nat.add_zero, i_1, rt_mo_best, x_al0, x_call, x_getf, x_goto, x_iadd, x_iaload, x_icge, x_icgt, x_icne, x_ifeq, x_ifne, x_il1, x_il10, x_il2, x_il3, x_il4, x_il5, x_il6, x_il7, x_il8, x_il9, x_inc6, x_inc7, x_inc9, x_iret, x_is10, x_is2, x_is3, x_is4, x_is5, x_is6, x_is7, x_is8, x_is9, x_ldc, x_m1, fd_196_0, fd_196_1, fd_196_2, fd_196_3, fd_196_4, sf_196_4, fd_196_5, sf_196_5, fd_196_6, fd_196_7, fd_196_8, fd_196_9, fd_196_10, fd_196_11, fd_196_12, sf_196_12, fd_196_13, sf_196_13, fd_196_14, sf_196_14, fd_196_15, sf_196_15, fd_196_16, sf_196_16, fd_196_17, sf_196_17, fd_196_18, sf_196_18, fd_196_19, sf_196_19, fd_196_20, sf_196_20, fd_196_21, sf_196_21, fd_196_22, sf_196_22, fd_196_23, sf_196_23, fd_196_24, sf_196_24, fd_196_25, sf_196_25, fd_196_26, sf_196_26, fd_196_27, fd_196_28, fd_196_29, fd_196_30, sf_196_30, fd_196_31, fd_196_32, fd_196_33, fd_196_34, fd_196_35, fd_196_36, fd_196_37, sf_196_37, fd_196_38, fd_196_39, sf_196_39, fd_196_40, sf_196_40, fd_196_41, sf_196_41, fd_196_42, fd_196_43, fd_196_44, ld_197, sd_197, ln_197, e0, nI_ltE, hn', ↓reduceIte, nI_eqE]
    by_cases hwas : n = tg w f a
    · rw [if_pos hwas]
      refine next g s o a3 a4 a5 ?_ hg h7 hK
      rw [hwas]
      exact bs1_w hw hf ha hO
    · rw [if_neg hwas, b_mo_best_103]
      simp -implicitDefEqProofs (disch := first | assumption | omega) only [szS_0, szS_i, szS_r, szS_l, x_cons, x_goto, ob_some, kl_i, kl_r, kl_l, kl_n, push_n, push_s, pop_0, pop_i, pop_r, Int.reduceToNat, List.length_cons, List.length_nil, Nat.reduceAdd, Nat.reduceLeDiff, Nat.zero_add, true_and, nI_n0, nat_le, Nat.add_zero, i_1, rt_mo_best, x_al0, x_call, x_getf, x_goto, x_iadd, x_iaload, x_icge, x_icgt, x_icne, x_ifeq, x_ifne, x_il1, x_il10, x_il2, x_il3, x_il4, x_il5, x_il6, x_il7, x_il8, x_il9, x_inc6, x_inc7, x_inc9, x_iret, x_is10, x_is2, x_is3, x_is4, x_is5, x_is6, x_is7, x_is8, x_is9, x_ldc, x_m1, nI_add, s_gives, pu_g, h7]
      have eD : pu w (10 + 20 * f + (2 + a)) (nI n) = dgR w f a n := rfl
      rw [eD]
      refine s_wetTowns (by rw [upw_s]; exact hdw) fun g1 f1 k1 => ?_
      rw [upw_s] at k1 ⊢
      simp -implicitDefEqProofs (disch := first | assumption | omega) only [szS_0, szS_i, szS_r, szS_l, x_cons, x_goto, ob_some, kl_i, kl_r, kl_l, kl_n, push_n, push_s, pop_0, pop_i, pop_r, Int.reduceToNat, List.length_cons, List.length_nil, Nat.reduceAdd, Nat.reduceLeDiff, Nat.zero_add, true_and, nI_n0, nat_le, Nat.add_zero, i_1, rt_mo_best, x_al0, x_call, x_getf, x_goto, x_iadd, x_iaload, x_icge, x_icgt, x_icne, x_ifeq, x_ifne, x_il1, x_il10, x_il2, x_il3, x_il4, x_il5, x_il6, x_il7, x_il8, x_il9, x_inc6, x_inc7, x_inc9, x_iret, x_is10, x_is2, x_is3, x_is4, x_is5, x_is6, x_is7, x_is8, x_is9, x_ldc, x_m1]
      have hwl := wtW_l hdw
      rw [s_headsOf (by rw [k1]; exact hdw) (by omega), k1]
      have eB : hsF (dgR w f a n) (wtW (dgR w f a n)) (nn (dgR w f a n)) = hbW (dgR w f a n) := rfl
      have ew : pu (dgR w f a n) (10 + 20 * f + (2 + a)) (nI (tg w f a)) = w := by
        funext k
        unfold dgR pu
        by_cases e : k = 10 + 20 * f + (2 + a)
        · rw [if_pos e, e]
          exact (wi_t hw (n := f) (a := a) (by omega) (by omega)).1.symm
        · rw [if_neg e, if_neg e]
      rw [eB]
      simp -implicitDefEqProofs (disch := first | assumption | omega) only [szS_0, szS_i, szS_r, szS_l, x_cons, x_goto, ob_some, kl_i, kl_r, kl_l, kl_n, push_n, push_s, pop_0, pop_i, pop_r, Int.reduceToNat, List.length_cons, List.length_nil, Nat.reduceAdd, Nat.reduceLeDiff, Nat.zero_add, true_and, nI_n0, nat_le, Nat.add_zero, i_1, rt_mo_best, x_al0, x_call, x_getf, x_goto, x_iadd, x_iaload, x_icge, x_icgt, x_icne, x_ifeq, x_ifne, x_il1, x_il10, x_il2, x_il3, x_il4, x_il5, x_il6, x_il7, x_il8, x_il9, x_inc6, x_inc7, x_inc9, x_iret, x_is10, x_is2, x_is3, x_is4, x_is5, x_is6, x_is7, x_is8, x_is9, x_ldc, x_m1, nI_add, s_gives, pu_g, k1, ew, nI_ltE]
      have fr2 : FR [200, 208, 197] [] g0 (upw g1 197 w) := FR_w rfl (FR_t hg (FR_t (FR_w rfl FR_r) f1))
      by_cases hlt : s.1 < hbW (dgR w f a n)
      · rw [if_pos hlt] at eS
        rw [if_pos hlt, b_mo_best_146]
        simp -implicitDefEqProofs (disch := first | assumption | omega) only [szS_0, szS_i, szS_r, szS_l, x_cons, x_goto, ob_some, kl_i, kl_r, kl_l, kl_n, push_n, push_s, pop_0, pop_i, pop_r, Int.reduceToNat, List.length_cons, List.length_nil, Nat.reduceAdd, Nat.reduceLeDiff, Nat.zero_add, true_and, nI_n0, nat_le, Nat.add_zero, i_1, rt_mo_best, x_al0, x_call, x_getf, x_goto, x_iadd, x_iaload, x_icge, x_icgt, x_icne, x_ifeq, x_ifne, x_il1, x_il10, x_il2, x_il3, x_il4, x_il5, x_il6, x_il7, x_il8, x_il9, x_inc6, x_inc7, x_inc9, x_iret, x_is10, x_is2, x_is3, x_is4, x_is5, x_is6, x_is7, x_is8, x_is9, x_ldc, x_m1]
        refine next _ (hbW (dgR w f a n), f, a, n) _ _ _ _ eS fr2 upw_s ?_
        unfold bsK
        rw [if_neg (show ¬ f = 99 by omega)]
        exact ⟨rfl, rfl, rfl⟩
      · rw [if_neg hlt] at eS
        rw [if_neg hlt]
        try simp -implicitDefEqProofs (disch := first | assumption | omega) only [szS_0, szS_i, szS_r, szS_l, x_cons, x_goto, ob_some, kl_i, kl_r, kl_l, kl_n, push_n, push_s, pop_0, pop_i, pop_r, Int.reduceToNat, List.length_cons, List.length_nil, Nat.reduceAdd, Nat.reduceLeDiff, Nat.zero_add, true_and, nI_n0, nat_le, Nat.add_zero, i_1, rt_mo_best, x_al0, x_call, x_getf, x_goto, x_iadd, x_iaload, x_icge, x_icgt, x_icne, x_ifeq, x_ifne, x_il1, x_il10, x_il2, x_il3, x_il4, x_il5, x_il6, x_il7, x_il8, x_il9, x_inc6, x_inc7, x_inc9, x_iret, x_is10, x_is2, x_is3, x_is4, x_is5, x_is6, x_is7, x_is8, x_is9, x_ldc, x_m1]
        exact next _ s _ _ _ _ eS fr2 upw_s hK
theorem mo_lp2 {w : Nat → Int32} (hw : WI w) {f : Nat} (hf : f < nn w) {v1 : Int32} {g0 : Nat → Nat → Int32} {sE : BS} (H : ∀ g' o8 o9 o10 a3 a4 a5 v7, FR [200, 208, 197] [] g0 g' → g' 197 = w → bsK sE a3 a4 a5 → bsO w sE → wp (ev (d + 5)) P mo_best 172 [some (.ref 196), some (.int v1), some (.int (nI sE.1)), some (.int a3), some (.int a4), some (.int a5), some (.int (nI f)), some (.int v7), o8, o9, o10] [] (E g' q)) (hs : fd w f 0 = 0) :
    ∀ (j a : Nat) (s : BS) (g : Nat → Nat → Int32) (o8 o9 o10 : Option Value) (a3 a4 a5 : Int32), a + j = am w f → bsA w f j a s = sE → FR [200, 208, 197] [] g0 g → g 197 = w → bsK s a3 a4 a5 → bsO w s →
    wp (ev (d + 5)) P mo_best 45 [some (.ref 196), some (.int v1), some (.int (nI s.1)), some (.int a3), some (.int a4), some (.int a5), some (.int (nI f)), some (.int (nI a)), o8, o9, o10] [] (E g q) := by
  have hN := wi_n hw
  have hf16 : f < 16 := by omega
  have ha3 := am_le hw hf16
  have ham := wi_1 hw hf16
  intro j
  induction j with
  | zero =>
    intro a s g o8 o9 o10 a3 a4 a5 ha hE hg h7 hK hO
    have ha : a = am w f := ha
    have hE : s = sE := hE
    subst ha hE
    have e1 : g 197 (10 + 20 * f + 1) = nI (am w f) := by rw [h7]; exact ham.1
    rw [b_mo_best_45]
    simp -implicitDefEqProofs (disch := first | assumption | omega) only [szS_0, szS_i, szS_r, szS_l, x_cons, x_goto, ob_some, kl_i, kl_r, kl_l, kl_n, push_n, push_s, pop_0, pop_i, pop_r, Int.reduceToNat, List.length_cons, List.length_nil, Nat.reduceAdd, Nat.reduceLeDiff, Nat.zero_add, true_and, nI_n0, nat_le, Nat.add_zero, i_1, rt_mo_best, x_al0, x_call, x_getf, x_goto, x_iadd, x_iaload, x_icge, x_icgt, x_icne, x_ifeq, x_ifne, x_il1, x_il10, x_il2, x_il3, x_il4, x_il5, x_il6, x_il7, x_il8, x_il9, x_inc6, x_inc7, x_inc9, x_iret, x_is10, x_is2, x_is3, x_is4, x_is5, x_is6, x_is7, x_is8, x_is9, x_ldc, x_m1]
    rw [s_isFork (by rw [h7]; exact hw), h7, forkB_nI hw (by omega), decide_eq_true hf, decide_eq_true hs]
    simp -implicitDefEqProofs (disch := first | assumption | omega) only [szS_0, szS_i, szS_r, szS_l, x_cons, x_goto, ob_some, kl_i, kl_r, kl_l, kl_n, push_n, push_s, pop_0, pop_i, pop_r, Int.reduceToNat, List.length_cons, List.length_nil, Nat.reduceAdd, Nat.reduceLeDiff, Nat.zero_add, true_and, nI_n0, nat_le, Nat.add_zero, i_1, rt_mo_best, x_al0, x_call, x_getf, x_goto, x_iadd, x_iaload, x_icge, x_icgt, x_icne, x_ifeq, x_ifne, x_il1, x_il10, x_il2, x_il3, x_il4, x_il5, x_il6, x_il7, x_il8, x_il9, x_inc6, x_inc7, x_inc9, x_iret, x_is10, x_is2, x_is3, x_is4, x_is5, x_is6, x_is7, x_is8, x_is9, x_ldc, x_m1, bI_0, Bool.true_and, Bool.true_eq_false, ↓reduceIte, s_own, e1, nI_ltE, Nat.lt_irrefl]
    exact H g o8 o9 o10 a3 a4 a5 _ hg h7 hK hO
  | succ j ih =>
    intro a s g o8 o9 o10 a3 a4 a5 ha hE hg h7 hK hO
    have ha' : a < am w f := by omega
    have hE : bsA w f j (a + 1) (bsN w f a (nn w - (f + 1)) (f + 1) s) = sE := hE
    have e1 : g 197 (10 + 20 * f + 1) = nI (am w f) := by rw [h7]; exact ham.1
    have e2 : g 197 (10 + 20 * f + (2 + a)) = nI (tg w f a) := by rw [h7]; exact (wi_t hw hf16 (by omega)).1
    rw [b_mo_best_45]
    simp -implicitDefEqProofs (disch := first | assumption | omega) only [szS_0, szS_i, szS_r, szS_l, x_cons, x_goto, ob_some, kl_i, kl_r, kl_l, kl_n, push_n, push_s, pop_0, pop_i, pop_r, Int.reduceToNat, List.length_cons, List.length_nil, Nat.reduceAdd, Nat.reduceLeDiff, Nat.zero_add, true_and, nI_n0, nat_le, Nat.add_zero, i_1, rt_mo_best, x_al0, x_call, x_getf, x_goto, x_iadd, x_iaload, x_icge, x_icgt, x_icne, x_ifeq, x_ifne, x_il1, x_il10, x_il2, x_il3, x_il4, x_il5, x_il6, x_il7, x_il8, x_il9, x_inc6, x_inc7, x_inc9, x_iret, x_is10, x_is2, x_is3, x_is4, x_is5, x_is6, x_is7, x_is8, x_is9, x_ldc, x_m1]
    rw [s_isFork (by rw [h7]; exact hw), h7, forkB_nI hw (by omega), decide_eq_true hf, decide_eq_true hs]
    simp -implicitDefEqProofs (disch := first | assumption | omega) only [szS_0, szS_i, szS_r, szS_l, x_cons, x_goto, ob_some, kl_i, kl_r, kl_l, kl_n, push_n, push_s, pop_0, pop_i, pop_r, Int.reduceToNat, List.length_cons, List.length_nil, Nat.reduceAdd, Nat.reduceLeDiff, Nat.zero_add, true_and, nI_n0, nat_le, Nat.add_zero, i_1, rt_mo_best, x_al0, x_call, x_getf, x_goto, x_iadd, x_iaload, x_icge, x_icgt, x_icne, x_ifeq, x_ifne, x_il1, x_il10, x_il2, x_il3, x_il4, x_il5, x_il6, x_il7, x_il8, x_il9, x_inc6, x_inc7, x_inc9, x_iret, x_is10, x_is2, x_is3, x_is4, x_is5, x_is6, x_is7, x_is8, x_is9, x_ldc, x_m1, bI_0, Bool.true_and, Bool.true_eq_false, ↓reduceIte, s_own, e1, nI_ltE, ha', s_goesTo, e2, nI_add]
    refine mn_lp hw hf ha' (g0 := g0) (sE := bsN w f a (nn w - (f + 1)) (f + 1) s) (fun g1 o b3 b4 b5 f1 k1 K1 O1 => ?_) (nn w - (f + 1)) (f + 1) s g _ a3 a4 a5 (by omega) (by omega) rfl hg h7 hK hO
    rw [b_mo_best_166]
    simp -implicitDefEqProofs (disch := first | assumption | omega) only [szS_0, szS_i, szS_r, szS_l, x_cons, x_goto, ob_some, kl_i, kl_r, kl_l, kl_n, push_n, push_s, pop_0, pop_i, pop_r, Int.reduceToNat, List.length_cons, List.length_nil, Nat.reduceAdd, Nat.reduceLeDiff, Nat.zero_add, true_and, nI_n0, nat_le, Nat.add_zero, i_1, rt_mo_best, x_al0, x_call, x_getf, x_goto, x_iadd, x_iaload, x_icge, x_icgt, x_icne, x_ifeq, x_ifne, x_il1, x_il10, x_il2, x_il3, x_il4, x_il5, x_il6, x_il7, x_il8, x_il9, x_inc6, x_inc7, x_inc9, x_iret, x_is10, x_is2, x_is3, x_is4, x_is5, x_is6, x_is7, x_is8, x_is9, x_ldc, x_m1, nI_add]
    exact ih (a + 1) _ g1 _ _ _ _ _ _ (by omega) hE f1 k1 K1 O1
theorem mf_lp3 {w : Nat → Int32} (hw : WI w) {v1 : Int32} {g0 : Nat → Nat → Int32} {sE : BS} (H : ∀ g' o7 o8 o9 o10 a3 a4 a5, FR [200, 208, 197] [] g0 g' → g' 197 = w → bsK sE a3 a4 a5 → bsO w sE → wp (ev (d + 5)) P mo_best 178 [some (.ref 196), some (.int v1), some (.int (nI sE.1)), some (.int a3), some (.int a4), some (.int a5), some (.int (nI (nn w))), o7, o8, o9, o10] [] (E g' q)) :
    ∀ (j f : Nat) (s : BS) (g : Nat → Nat → Int32) (o7 o8 o9 o10 : Option Value) (a3 a4 a5 : Int32), f + j = nn w → bsF w j f s = sE → FR [200, 208, 197] [] g0 g → g 197 = w → bsK s a3 a4 a5 → bsO w s →
    wp (ev (d + 5)) P mo_best 31 [some (.ref 196), some (.int v1), some (.int (nI s.1)), some (.int a3), some (.int a4), some (.int a5), some (.int (nI f)), o7, o8, o9, o10] [] (E g q) := by
  have hN := wi_n hw
  intro j
  induction j with
  | zero =>
    intro f s g o7 o8 o9 o10 a3 a4 a5 hf hE hg h7 hK hO
    have hf : f = nn w := hf
    have hE : s = sE := hE
    have e0 : g 197 0 = nI (nn w) := by rw [h7]; exact hN.1
    subst hf hE
    rw [b_mo_best_31]
    simp -implicitDefEqProofs (disch := first | assumption | omega) only [szS_0, szS_i, szS_r, szS_l, x_cons, x_goto, ob_some, kl_i, kl_r, kl_l, kl_n, push_n, push_s, pop_0, pop_i, pop_r, Int.reduceToNat, List.length_cons, List.length_nil, Nat.reduceAdd, Nat.reduceLeDiff, Nat.zero_add, true_and, nI_n0, nat_le, Nat.add_zero, i_1, rt_mo_best, x_al0, x_call, x_getf, x_goto, x_iadd, x_iaload, x_icge, x_icgt, x_icne, x_ifeq, x_ifne, x_il1, x_il10, x_il2, x_il3, x_il4, x_il5, x_il6, x_il7, x_il8, x_il9, x_inc6, x_inc7, x_inc9, x_iret, x_is10, x_is2, x_is3, x_is4, x_is5, x_is6, x_is7, x_is8, x_is9, x_ldc, x_m1, fd_196_0, fd_196_1, fd_196_2, fd_196_3, fd_196_4, sf_196_4, fd_196_5, sf_196_5, fd_196_6, fd_196_7, fd_196_8, fd_196_9, fd_196_10, fd_196_11, fd_196_12, sf_196_12, fd_196_13, sf_196_13, fd_196_14, sf_196_14, fd_196_15, sf_196_15, fd_196_16, sf_196_16, fd_196_17, sf_196_17, fd_196_18, sf_196_18, fd_196_19, sf_196_19, fd_196_20, sf_196_20, fd_196_21, sf_196_21, fd_196_22, sf_196_22, fd_196_23, sf_196_23, fd_196_24, sf_196_24, fd_196_25, sf_196_25, fd_196_26, sf_196_26, fd_196_27, fd_196_28, fd_196_29, fd_196_30, sf_196_30, fd_196_31, fd_196_32, fd_196_33, fd_196_34, fd_196_35, fd_196_36, fd_196_37, sf_196_37, fd_196_38, fd_196_39, sf_196_39, fd_196_40, sf_196_40, fd_196_41, sf_196_41, fd_196_42, fd_196_43, fd_196_44, ld_197, sd_197, ln_197, e0, nI_ltE, Nat.lt_irrefl, ↓reduceIte]
    exact H g o7 o8 o9 o10 a3 a4 a5 hg h7 hK hO
  | succ j ih =>
    intro f s g o7 o8 o9 o10 a3 a4 a5 hf hE hg h7 hK hO
    have hf' : f < nn w := by omega
    have e0 : g 197 0 = nI (nn w) := by rw [h7]; exact hN.1
    have hE : bsF w j (f + 1) (if fd w f 0 = 0 then bsA w f (am w f) 0 s else s) = sE := hE
    rw [b_mo_best_31]
    simp -implicitDefEqProofs (disch := first | assumption | omega) only [szS_0, szS_i, szS_r, szS_l, x_cons, x_goto, ob_some, kl_i, kl_r, kl_l, kl_n, push_n, push_s, pop_0, pop_i, pop_r, Int.reduceToNat, List.length_cons, List.length_nil, Nat.reduceAdd, Nat.reduceLeDiff, Nat.zero_add, true_and, nI_n0, nat_le, Nat.add_zero, i_1, rt_mo_best, x_al0, x_call, x_getf, x_goto, x_iadd, x_iaload, x_icge, x_icgt, x_icne, x_ifeq, x_ifne, x_il1, x_il10, x_il2, x_il3, x_il4, x_il5, x_il6, x_il7, x_il8, x_il9, x_inc6, x_inc7, x_inc9, x_iret, x_is10, x_is2, x_is3, x_is4, x_is5, x_is6, x_is7, x_is8, x_is9, x_ldc, x_m1, fd_196_0, fd_196_1, fd_196_2, fd_196_3, fd_196_4, sf_196_4, fd_196_5, sf_196_5, fd_196_6, fd_196_7, fd_196_8, fd_196_9, fd_196_10, fd_196_11, fd_196_12, sf_196_12, fd_196_13, sf_196_13, fd_196_14, sf_196_14, fd_196_15, sf_196_15, fd_196_16, sf_196_16, fd_196_17, sf_196_17, fd_196_18, sf_196_18, fd_196_19, sf_196_19, fd_196_20, sf_196_20, fd_196_21, sf_196_21, fd_196_22, sf_196_22, fd_196_23, sf_196_23, fd_196_24, sf_196_24, fd_196_25, sf_196_25, fd_196_26, sf_196_26, fd_196_27, fd_196_28, fd_196_29, fd_196_30, sf_196_30, fd_196_31, fd_196_32, fd_196_33, fd_196_34, fd_196_35, fd_196_36, fd_196_37, sf_196_37, fd_196_38, fd_196_39, sf_196_39, fd_196_40, sf_196_40, fd_196_41, sf_196_41, fd_196_42, fd_196_43, fd_196_44, ld_197, sd_197, ln_197, e0, nI_ltE, hf', ↓reduceIte]
    by_cases hs : fd w f 0 = 0
    · rw [if_pos hs] at hE
      refine mo_lp2 hw hf' (g0 := g0) (sE := bsA w f (am w f) 0 s) (fun g1 p8 p9 p10 b3 b4 b5 v7 f1 k1 K1 O1 => ?_) hs (am w f) 0 s g o8 o9 o10 a3 a4 a5 (Nat.zero_add _) rfl hg h7 hK hO
      rw [b_mo_best_172]
      simp -implicitDefEqProofs (disch := first | assumption | omega) only [szS_0, szS_i, szS_r, szS_l, x_cons, x_goto, ob_some, kl_i, kl_r, kl_l, kl_n, push_n, push_s, pop_0, pop_i, pop_r, Int.reduceToNat, List.length_cons, List.length_nil, Nat.reduceAdd, Nat.reduceLeDiff, Nat.zero_add, true_and, nI_n0, nat_le, Nat.add_zero, i_1, rt_mo_best, x_al0, x_call, x_getf, x_goto, x_iadd, x_iaload, x_icge, x_icgt, x_icne, x_ifeq, x_ifne, x_il1, x_il10, x_il2, x_il3, x_il4, x_il5, x_il6, x_il7, x_il8, x_il9, x_inc6, x_inc7, x_inc9, x_iret, x_is10, x_is2, x_is3, x_is4, x_is5, x_is6, x_is7, x_is8, x_is9, x_ldc, x_m1, nI_add]
      exact ih (f + 1) _ g1 _ _ _ _ _ _ _ (by omega) hE f1 k1 K1 O1
    · rw [if_neg hs] at hE
      rw [b_mo_best_45]
      simp -implicitDefEqProofs (disch := first | assumption | omega) only [szS_0, szS_i, szS_r, szS_l, x_cons, x_goto, ob_some, kl_i, kl_r, kl_l, kl_n, push_n, push_s, pop_0, pop_i, pop_r, Int.reduceToNat, List.length_cons, List.length_nil, Nat.reduceAdd, Nat.reduceLeDiff, Nat.zero_add, true_and, nI_n0, nat_le, Nat.add_zero, i_1, rt_mo_best, x_al0, x_call, x_getf, x_goto, x_iadd, x_iaload, x_icge, x_icgt, x_icne, x_ifeq, x_ifne, x_il1, x_il10, x_il2, x_il3, x_il4, x_il5, x_il6, x_il7, x_il8, x_il9, x_inc6, x_inc7, x_inc9, x_iret, x_is10, x_is2, x_is3, x_is4, x_is5, x_is6, x_is7, x_is8, x_is9, x_ldc, x_m1]
      rw [s_isFork (by rw [h7]; exact hw), h7, forkB_nI hw (by omega), decide_eq_true hf', decide_eq_false hs]
      simp -implicitDefEqProofs (disch := first | assumption | omega) only [szS_0, szS_i, szS_r, szS_l, x_cons, x_goto, ob_some, kl_i, kl_r, kl_l, kl_n, push_n, push_s, pop_0, pop_i, pop_r, Int.reduceToNat, List.length_cons, List.length_nil, Nat.reduceAdd, Nat.reduceLeDiff, Nat.zero_add, true_and, nI_n0, nat_le, Nat.add_zero, i_1, rt_mo_best, x_al0, x_call, x_getf, x_goto, x_iadd, x_iaload, x_icge, x_icgt, x_icne, x_ifeq, x_ifne, x_il1, x_il10, x_il2, x_il3, x_il4, x_il5, x_il6, x_il7, x_il8, x_il9, x_inc6, x_inc7, x_inc9, x_iret, x_is10, x_is2, x_is3, x_is4, x_is5, x_is6, x_is7, x_is8, x_is9, x_ldc, x_m1, bI_0, Bool.and_false, ↓reduceIte, b_mo_best_172, nI_add]
      exact ih (f + 1) s g _ _ _ _ _ _ _ (by omega) hE hg h7 hK hO
theorem s_mbest (hw : WI (g 197)) {k : Int32} (H : ∀ g', FR [200, 208, 197] [] g g' → g' 197 = g 197 → P (some (.int (bsV (g 197) k))) (E g' q)) : callC (ev (d + 6)) mo_best [.ref 196, .int k] (E g q) P := by
  refine in_mo_best rfl ?_
  rw [b_mo_best_0]
  simp -implicitDefEqProofs (disch := first | assumption | omega) only [szS_0, szS_i, szS_r, szS_l, x_cons, x_goto, ob_some, kl_i, kl_r, kl_l, kl_n, push_n, push_s, pop_0, pop_i, pop_r, Int.reduceToNat, List.length_cons, List.length_nil, Nat.reduceAdd, Nat.reduceLeDiff, Nat.zero_add, true_and, nI_n0, nat_le, Nat.add_zero, i_1, rt_mo_best, x_al0, x_call, x_getf, x_goto, x_iadd, x_iaload, x_icge, x_icgt, x_icne, x_ifeq, x_ifne, x_il1, x_il10, x_il2, x_il3, x_il4, x_il5, x_il6, x_il7, x_il8, x_il9, x_inc6, x_inc7, x_inc9, x_iret, x_is10, x_is2, x_is3, x_is4, x_is5, x_is6, x_is7, x_is8, x_is9, x_ldc, x_m1, s_isIn, bI_0]
  by_cases h1 : nI 0 ≤ k ∧ k ≤ nI 3
  · simp only [decide_eq_true h1, Bool.true_eq_false, ↓reduceIte]
    have eV : bsV (g 197) k = if (bsE (g 197)).2.1 = 99 then -1 else if k = nI 0 then nI (bsE (g 197)).2.1 else if k = nI 1 then nI (bsE (g 197)).2.2.1 else if k = nI 2 then nI (bsE (g 197)).2.2.2 else nI (bsE (g 197)).1 := by
      unfold bsV
      rw [if_pos (decide_eq_true h1)]
    have hwl := wtW_l hw
    have hl := hbW_l hw
    rw [b_mo_best_11]
    simp -implicitDefEqProofs (disch := first | assumption | omega) only [szS_0, szS_i, szS_r, szS_l, x_cons, x_goto, ob_some, kl_i, kl_r, kl_l, kl_n, push_n, push_s, pop_0, pop_i, pop_r, Int.reduceToNat, List.length_cons, List.length_nil, Nat.reduceAdd, Nat.reduceLeDiff, Nat.zero_add, true_and, nI_n0, nat_le, Nat.add_zero, i_1, rt_mo_best, x_al0, x_call, x_getf, x_goto, x_iadd, x_iaload, x_icge, x_icgt, x_icne, x_ifeq, x_ifne, x_il1, x_il10, x_il2, x_il3, x_il4, x_il5, x_il6, x_il7, x_il8, x_il9, x_inc6, x_inc7, x_inc9, x_iret, x_is10, x_is2, x_is3, x_is4, x_is5, x_is6, x_is7, x_is8, x_is9, x_ldc, x_m1]
    refine s_wetTowns hw fun g1 f1 k1 => ?_
    simp -implicitDefEqProofs (disch := first | assumption | omega) only [szS_0, szS_i, szS_r, szS_l, x_cons, x_goto, ob_some, kl_i, kl_r, kl_l, kl_n, push_n, push_s, pop_0, pop_i, pop_r, Int.reduceToNat, List.length_cons, List.length_nil, Nat.reduceAdd, Nat.reduceLeDiff, Nat.zero_add, true_and, nI_n0, nat_le, Nat.add_zero, i_1, rt_mo_best, x_al0, x_call, x_getf, x_goto, x_iadd, x_iaload, x_icge, x_icgt, x_icne, x_ifeq, x_ifne, x_il1, x_il10, x_il2, x_il3, x_il4, x_il5, x_il6, x_il7, x_il8, x_il9, x_inc6, x_inc7, x_inc9, x_iret, x_is10, x_is2, x_is3, x_is4, x_is5, x_is6, x_is7, x_is8, x_is9, x_ldc, x_m1]
    rw [s_headsOf (by rw [k1]; exact hw) (by omega), k1]
    have eB : hsF (g 197) (wtW (g 197)) (nn (g 197)) = hbW (g 197) := rfl
    rw [eB]
    simp -implicitDefEqProofs (disch := first | assumption | omega) only [szS_0, szS_i, szS_r, szS_l, x_cons, x_goto, ob_some, kl_i, kl_r, kl_l, kl_n, push_n, push_s, pop_0, pop_i, pop_r, Int.reduceToNat, List.length_cons, List.length_nil, Nat.reduceAdd, Nat.reduceLeDiff, Nat.zero_add, true_and, nI_n0, nat_le, Nat.add_zero, i_1, rt_mo_best, x_al0, x_call, x_getf, x_goto, x_iadd, x_iaload, x_icge, x_icgt, x_icne, x_ifeq, x_ifne, x_il1, x_il10, x_il2, x_il3, x_il4, x_il5, x_il6, x_il7, x_il8, x_il9, x_inc6, x_inc7, x_inc9, x_iret, x_is10, x_is2, x_is3, x_is4, x_is5, x_is6, x_is7, x_is8, x_is9, x_ldc, x_m1]
    refine mf_lp3 (w := g 197) hw (g0 := g1) (sE := bsE (g 197)) (fun g2 o7 o8 o9 o10 a3 a4 a5 f2 k2 K2 O2 => ?_) (nn (g 197)) 0 (hbW (g 197), 99, 0, 0) g1 none none none none (-1) (-1) (-1) (Nat.zero_add _) rfl FR_r k1 (by unfold bsK; rw [if_pos rfl]; exact ⟨rfl, rfl, rfl⟩) ⟨hl, Nat.le_refl _, Or.inl rfl, Nat.zero_lt_succ _, Nat.zero_lt_succ _⟩
    have HH := H g2 (FR_t f1 f2) k2
    rw [eV] at HH
    have n10 : (nI 1 = nI 0) = False := eq_false (by decide)
    have n20 : (nI 2 = nI 0) = False := eq_false (by decide)
    have n21 : (nI 2 = nI 1) = False := eq_false (by decide)
    have n30 : (nI 3 = nI 0) = False := eq_false (by decide)
    have n31 : (nI 3 = nI 1) = False := eq_false (by decide)
    have n32 : (nI 3 = nI 2) = False := eq_false (by decide)
    obtain ⟨k', hk, rfl⟩ := int_is h1 (by decide)
    unfold bsK at K2
    rw [b_mo_best_178]
    by_cases h9 : (bsE (g 197)).2.1 = 99
    · rw [if_pos h9] at K2 HH
      obtain ⟨rfl, rfl, rfl⟩ := K2
      have : k' = 0 ∨ k' = 1 ∨ k' = 2 ∨ k' = 3 := by omega
      rcases this with rfl | rfl | rfl | rfl
      · simp -implicitDefEqProofs (disch := first | assumption | omega) only [szS_0, szS_i, szS_r, szS_l, x_cons, x_goto, ob_some, kl_i, kl_r, kl_l, kl_n, push_n, push_s, pop_0, pop_i, pop_r, Int.reduceToNat, List.length_cons, List.length_nil, Nat.reduceAdd, Nat.reduceLeDiff, Nat.zero_add, true_and, nI_n0, nat_le, Nat.add_zero, i_1, rt_mo_best, x_al0, x_call, x_getf, x_goto, x_iadd, x_iaload, x_icge, x_icgt, x_icne, x_ifeq, x_ifne, x_il1, x_il10, x_il2, x_il3, x_il4, x_il5, x_il6, x_il7, x_il8, x_il9, x_inc6, x_inc7, x_inc9, x_iret, x_is10, x_is2, x_is3, x_is4, x_is5, x_is6, x_is7, x_is8, x_is9, x_ldc, x_m1, ↓reduceIte, b_mo_best_216]
        exact HH
      · simp -implicitDefEqProofs (disch := first | assumption | omega) only [szS_0, szS_i, szS_r, szS_l, x_cons, x_goto, ob_some, kl_i, kl_r, kl_l, kl_n, push_n, push_s, pop_0, pop_i, pop_r, Int.reduceToNat, List.length_cons, List.length_nil, Nat.reduceAdd, Nat.reduceLeDiff, Nat.zero_add, true_and, nI_n0, nat_le, Nat.add_zero, i_1, rt_mo_best, x_al0, x_call, x_getf, x_goto, x_iadd, x_iaload, x_icge, x_icgt, x_icne, x_ifeq, x_ifne, x_il1, x_il10, x_il2, x_il3, x_il4, x_il5, x_il6, x_il7, x_il8, x_il9, x_inc6, x_inc7, x_inc9, x_iret, x_is10, x_is2, x_is3, x_is4, x_is5, x_is6, x_is7, x_is8, x_is9, x_ldc, x_m1, n10, ↓reduceIte, b_mo_best_186, b_mo_best_216]
        exact HH
      · simp -implicitDefEqProofs (disch := first | assumption | omega) only [szS_0, szS_i, szS_r, szS_l, x_cons, x_goto, ob_some, kl_i, kl_r, kl_l, kl_n, push_n, push_s, pop_0, pop_i, pop_r, Int.reduceToNat, List.length_cons, List.length_nil, Nat.reduceAdd, Nat.reduceLeDiff, Nat.zero_add, true_and, nI_n0, nat_le, Nat.add_zero, i_1, rt_mo_best, x_al0, x_call, x_getf, x_goto, x_iadd, x_iaload, x_icge, x_icgt, x_icne, x_ifeq, x_ifne, x_il1, x_il10, x_il2, x_il3, x_il4, x_il5, x_il6, x_il7, x_il8, x_il9, x_inc6, x_inc7, x_inc9, x_iret, x_is10, x_is2, x_is3, x_is4, x_is5, x_is6, x_is7, x_is8, x_is9, x_ldc, x_m1, n20, n21, ↓reduceIte, b_mo_best_186, b_mo_best_196, b_mo_best_216]
        exact HH
      · simp -implicitDefEqProofs (disch := first | assumption | omega) only [szS_0, szS_i, szS_r, szS_l, x_cons, x_goto, ob_some, kl_i, kl_r, kl_l, kl_n, push_n, push_s, pop_0, pop_i, pop_r, Int.reduceToNat, List.length_cons, List.length_nil, Nat.reduceAdd, Nat.reduceLeDiff, Nat.zero_add, true_and, nI_n0, nat_le, Nat.add_zero, i_1, rt_mo_best, x_al0, x_call, x_getf, x_goto, x_iadd, x_iaload, x_icge, x_icgt, x_icne, x_ifeq, x_ifne, x_il1, x_il10, x_il2, x_il3, x_il4, x_il5, x_il6, x_il7, x_il8, x_il9, x_inc6, x_inc7, x_inc9, x_iret, x_is10, x_is2, x_is3, x_is4, x_is5, x_is6, x_is7, x_is8, x_is9, x_ldc, x_m1, n30, n31, n32, ↓reduceIte, b_mo_best_186, b_mo_best_196, b_mo_best_206, b_mo_best_216]
        exact HH
    · rw [if_neg h9] at K2 HH
      obtain ⟨rfl, rfl, rfl⟩ := K2
      have hlt := O2.2.2.1.resolve_left h9
      have nm := nI_m1 (a := (bsE (g 197)).2.1) (by omega)
      have : k' = 0 ∨ k' = 1 ∨ k' = 2 ∨ k' = 3 := by omega
      rcases this with rfl | rfl | rfl | rfl
      · rw [if_pos rfl] at HH
        simp -implicitDefEqProofs (disch := first | assumption | omega) only [szS_0, szS_i, szS_r, szS_l, x_cons, x_goto, ob_some, kl_i, kl_r, kl_l, kl_n, push_n, push_s, pop_0, pop_i, pop_r, Int.reduceToNat, List.length_cons, List.length_nil, Nat.reduceAdd, Nat.reduceLeDiff, Nat.zero_add, true_and, nI_n0, nat_le, Nat.add_zero, i_1, rt_mo_best, x_al0, x_call, x_getf, x_goto, x_iadd, x_iaload, x_icge, x_icgt, x_icne, x_ifeq, x_ifne, x_il1, x_il10, x_il2, x_il3, x_il4, x_il5, x_il6, x_il7, x_il8, x_il9, x_inc6, x_inc7, x_inc9, x_iret, x_is10, x_is2, x_is3, x_is4, x_is5, x_is6, x_is7, x_is8, x_is9, x_ldc, x_m1, ↓reduceIte, b_mo_best_216]
        exact HH
      · simp only [n10, ↓reduceIte] at HH
        simp -implicitDefEqProofs (disch := first | assumption | omega) only [szS_0, szS_i, szS_r, szS_l, x_cons, x_goto, ob_some, kl_i, kl_r, kl_l, kl_n, push_n, push_s, pop_0, pop_i, pop_r, Int.reduceToNat, List.length_cons, List.length_nil, Nat.reduceAdd, Nat.reduceLeDiff, Nat.zero_add, true_and, nI_n0, nat_le, Nat.add_zero, i_1, rt_mo_best, x_al0, x_call, x_getf, x_goto, x_iadd, x_iaload, x_icge, x_icgt, x_icne, x_ifeq, x_ifne, x_il1, x_il10, x_il2, x_il3, x_il4, x_il5, x_il6, x_il7, x_il8, x_il9, x_inc6, x_inc7, x_inc9, x_iret, x_is10, x_is2, x_is3, x_is4, x_is5, x_is6, x_is7, x_is8, x_is9, x_ldc, x_m1, n10, ↓reduceIte, b_mo_best_186, b_mo_best_216]
        exact HH
      · simp only [n20, n21, ↓reduceIte] at HH
        simp -implicitDefEqProofs (disch := first | assumption | omega) only [szS_0, szS_i, szS_r, szS_l, x_cons, x_goto, ob_some, kl_i, kl_r, kl_l, kl_n, push_n, push_s, pop_0, pop_i, pop_r, Int.reduceToNat, List.length_cons, List.length_nil, Nat.reduceAdd, Nat.reduceLeDiff, Nat.zero_add, true_and, nI_n0, nat_le, Nat.add_zero, i_1, rt_mo_best, x_al0, x_call, x_getf, x_goto, x_iadd, x_iaload, x_icge, x_icgt, x_icne, x_ifeq, x_ifne, x_il1, x_il10, x_il2, x_il3, x_il4, x_il5, x_il6, x_il7, x_il8, x_il9, x_inc6, x_inc7, x_inc9, x_iret, x_is10, x_is2, x_is3, x_is4, x_is5, x_is6, x_is7, x_is8, x_is9, x_ldc, x_m1, n20, n21, ↓reduceIte, b_mo_best_186, b_mo_best_196, b_mo_best_216]
        exact HH
      · simp only [n30, n31, n32, ↓reduceIte] at HH
        simp -implicitDefEqProofs (disch := first | assumption | omega) only [szS_0, szS_i, szS_r, szS_l, x_cons, x_goto, ob_some, kl_i, kl_r, kl_l, kl_n, push_n, push_s, pop_0, pop_i, pop_r, Int.reduceToNat, List.length_cons, List.length_nil, Nat.reduceAdd, Nat.reduceLeDiff, Nat.zero_add, true_and, nI_n0, nat_le, Nat.add_zero, i_1, rt_mo_best, x_al0, x_call, x_getf, x_goto, x_iadd, x_iaload, x_icge, x_icgt, x_icne, x_ifeq, x_ifne, x_il1, x_il10, x_il2, x_il3, x_il4, x_il5, x_il6, x_il7, x_il8, x_il9, x_inc6, x_inc7, x_inc9, x_iret, x_is10, x_is2, x_is3, x_is4, x_is5, x_is6, x_is7, x_is8, x_is9, x_ldc, x_m1, n30, n31, n32, nm, ↓reduceIte, b_mo_best_186, b_mo_best_196, b_mo_best_206, b_mo_best_215, b_mo_best_216]
        exact HH
  · simp only [decide_eq_false h1, ↓reduceIte]
    try simp -implicitDefEqProofs (disch := first | assumption | omega) only [szS_0, szS_i, szS_r, szS_l, x_cons, x_goto, ob_some, kl_i, kl_r, kl_l, kl_n, push_n, push_s, pop_0, pop_i, pop_r, Int.reduceToNat, List.length_cons, List.length_nil, Nat.reduceAdd, Nat.reduceLeDiff, Nat.zero_add, true_and, nI_n0, nat_le, Nat.add_zero, i_1, rt_mo_best, x_al0, x_call, x_getf, x_goto, x_iadd, x_iaload, x_icge, x_icgt, x_icne, x_ifeq, x_ifne, x_il1, x_il10, x_il2, x_il3, x_il4, x_il5, x_il6, x_il7, x_il8, x_il9, x_inc6, x_inc7, x_inc9, x_iret, x_is10, x_is2, x_is3, x_is4, x_is5, x_is6, x_is7, x_is8, x_is9, x_ldc, x_m1]
    have := H g FR_r rfl
    unfold bsV at this
    rw [decide_eq_false h1, if_neg Bool.false_ne_true] at this
    exact this
end MB2
theorem k_best {d L B : Nat} {xs : Nat → Int32} {g : Nat → Nat → Int32} {q : Nat → Nat → Int64} (hW : World B g) (hE : Env L xs g) {k : Int32} : two (d + 6) L xs B vr_best mo_best [.ref 0, .int k] [.ref 196, .int k] g q := by
  refine k_pure hW hE fun w V M pl im R h => ⟨bsV w k, fun P hP => s_vbest h.2.1.1.1 h.1.1.1 fun g' f => hP g' q f, fun g1 q1 P h1 hP => ?_⟩
  have e : g1 197 = w := h1.2.2.1.1
  refine s_mbest (by rw [e]; exact h.1.1.1) fun g2 f2 e2 => ?_
  rw [e]
  exact hP g2 q1 (FR_M f2 rfl) (Mc_FR h1.2.2 f2 e2 rfl rfl)
