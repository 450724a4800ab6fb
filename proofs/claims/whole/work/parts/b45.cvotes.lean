/-! the class's votes -/
theorem bha_f {w : Nat → Int32} {f a m : Nat} (hm : m < 16) : (bha w f a).testBit m = decide (far w (tg w f a) m ≠ 99) := by
  unfold bha bh
  rw [bset_t, decide_eq_true hm, Bool.true_and]
theorem abf_s {w : Nat → Int32} {f m n : Nat} : abf w f m (n + 1) = abf w f m n + (if decide (far w (tg w f n) m ≠ 99) = true then 1 else 0) := rfl
theorem bhn_f {w : Nat → Int32} {f m : Nat} (hm : m < 16) : ∀ n, (bhn w f n).testBit m = decide (1 ≤ abf w f m n)
  | 0 => by
    show (0 : Nat).testBit m = decide (1 ≤ 0)
    rw [Nat.zero_testBit]
    rfl
  | n + 1 => by
    show (bhn w f n ||| bha w f n).testBit m = _
    rw [Nat.testBit_or, bhn_f hm n, bha_f hm, abf_s]
    by_cases h : far w (tg w f n) m ≠ 99
    · rw [decide_eq_true h, Bool.or_true, if_pos rfl]
      exact (decide_eq_true (by omega)).symm
    · rw [decide_eq_false h, Bool.or_false, if_neg Bool.false_ne_true, Nat.add_zero]
theorem tw2_f {w : Nat → Int32} {f m : Nat} (hm : m < 16) : ∀ n, (tw2 w f n).testBit m = decide (2 ≤ abf w f m n)
  | 0 => by
    show (0 : Nat).testBit m = decide (2 ≤ 0)
    rw [Nat.zero_testBit]
    rfl
  | n + 1 => by
    show (tw2 w f n ||| (bhn w f n &&& bha w f n)).testBit m = _
    rw [Nat.testBit_or, Nat.testBit_and, tw2_f hm n, bhn_f hm n, bha_f hm, abf_s]
    by_cases h : far w (tg w f n) m ≠ 99
    · rw [decide_eq_true h, Bool.and_true, if_pos rfl, ← Bool.decide_or]
      exact decide_eq_decide.mpr ⟨fun h => by omega, fun h => by omega⟩
    · rw [decide_eq_false h, Bool.and_false, Bool.or_false, if_neg Bool.false_ne_true, Nat.add_zero]
theorem twc_f {w : Nat → Int32} (h : WI w) {f m : Nat} (hm : m < nn w) (hs : fd w m 0 = 1) : (twc w f).testBit m = decide (1 < abf w f m (am w f)) := by
  have h0 := wi_n h
  unfold twc
  rw [Nat.testBit_and, tw2_f (by omega), tws_t.mpr ⟨hm, hm, hs⟩, Bool.and_true]
  rfl
/-- both laws in the class's Told at t -/
def CL (t : Nat) (g : Nat → Nat → Int32) (V M : LW) : Prop := LC (t + 21) 0 g V ∧ LC (t + 25) 1 g M ∧ (tyW V ∧ nmW okV V) ∧ (tyW M ∧ nmW okM M)
theorem LC_c {b k : Nat} {g g' : Nat → Nat → Int32} {ls : LW} (e0 : g' b = g b) (e1 : g' (b + 1) = g (b + 1)) (e2 : g' (b + 2) = g (b + 2)) (h : LC b k g ls) : LC b k g' ls := by
  unfold LC
  rw [e0, e1, e2]
  exact h
theorem CL_c {t : Nat} {g g' : Nat → Nat → Int32} {V M : LW} (h : CL t g V M) (e : ∀ a, t + 20 < a → a < t + 28 → a ≠ t + 24 → g' a = g a) : CL t g' V M :=
  ⟨LC_c (e _ (by omega) (by omega) (by omega)) (e _ (by omega) (by omega) (by omega)) (e _ (by omega) (by omega) (by omega)) h.1, LC_c (e _ (by omega) (by omega) (by omega)) (e _ (by omega) (by omega) (by omega)) (e _ (by omega) (by omega) (by omega)) h.2.1, h.2.2⟩
section CV
variable {d : Nat} {g : Nat → Nat → Int32} {q : Nat → Nat → Int64} {P : QT} {t : Nat} {w : Nat → Int32}
def akR (w : Nat → Int32) (n : Nat) (r : Nat → Int32) : Nat → Int32 := pu (pu (pu (pu r 0 (w (10 + 20 * n + 10))) 1 (w (10 + 20 * n + 13))) 2 (w (10 + 20 * n + 12))) 3 (w (10 + 20 * n + 11))
theorem s_askTown (hT : t = 1 ∨ t = 31 ∨ t = 61) (hc : Tc t w g) {n : Nat} (hn : n < 16) : callC (ev (d + 1)) ri_askTown [.ref 174, .ref (t + 6), .int (nI n)] (E g q) P = P none (E (upw g 181 (akR w n (g 181))) q) := by
  refine call_eq (in_ri_askTown rfl ?_)
  obtain ⟨e0, e1, e2, e3, e4, e5, e6, e7⟩ := tc_t hc hn
  rw [b_ri_askTown_0]
  simp -implicitDefEqProofs (disch := first | assumption | omega) only [szS_0, szS_i, szS_r, szS_l, x_cons, x_goto, ob_some, kl_i, kl_r, kl_l, kl_n, push_n, push_s, pop_0, pop_i, pop_r, Int.reduceToNat, List.length_cons, List.length_nil, Nat.reduceAdd, Nat.reduceLeDiff, Nat.zero_add, true_and, nI_n0, nat_le, Nat.add_zero, rt_ri_askTown, x_aaload, x_al0, x_al1, x_getf, x_iaload, x_iastore, x_il2, x_ldc, x_vret, fd_174_0, fd_174_1, fd_174_2, fd_174_3, ld_181, sd_181, ln_181, tf_6_0, tf_6_1, tf_6_2, tf_6_3, tf_6_4, tf_6_5, tf_6_6, tf_6_7, tf_6_8, tf_6_9, tf_6_10, ts_6_0, ts_6_1, ts_6_2, ts_6_3, ts_6_4, tr_0, tr_1, tr_2, tr_3, tr_4, tr_5, tr_6, tr_7, tl_9, td_9, tl_10, td_10, tl_13, td_13, tl_14, td_14, upw_o, upw_s, upw_w, pu_g, e0, e1, e4, e5]
  all_goals first | rfl | exact ⟨rfl, rfl⟩ | exact ⟨rfl, trivial⟩ | exact ⟨trivial, rfl⟩ | trivial
theorem s_cvotesOf (hT : t = 1 ∨ t = 31 ∨ t = 61) (hw : WI w) (hc : Tc t w g) {V M : LW} (hL : CL t g V M) {n f a : Nat} (hn : n < nn w) (hs : fd w n 0 = 1) (hf : f < nn w) (hf0 : fd w f 0 = 0) (ha : a < am w f)
    (H : ∀ g', (∀ b, b ≠ 181 → b ≠ t + 24 → g' b = g b) → P (some (.int (nI (vt V w n f a)))) (E g' q)) : callC (ev (d + 3)) ri_votesOf [.ref 174, .ref t, .int (nI n), .int (nI f), .int (nI a)] (E g q) P := by
  refine in_ri_votesOf rfl ?_
  have h0 := wi_n hw
  have hn16 : n < 16 := by omega
  have hf16 : f < 16 := by omega
  have ham := am_le hw hf16
  have htl := tg_lt hw hf16 ha
  have hfb := far_b hw (s := tg w f a) (m := n) (by omega)
  have h9 := fby_9 hw (m := n) hf16 ha
  have hbl : fby w f a n < 2147483648 := by
    unfold fby
    split <;> omega
  have hcf := tc_f hc hf hf0
  have hx := wi_x hw hf16
  have hy := (wi_y hw hn16).1
  have hct := tc_t hc hn16
  have hbha := bha_f (w := w) (f := f) (a := a) hn16
  have htw := twc_f hw (f := f) hn hs
  have ha3 : a < 31 := by omega
  have hp : 2 ^ a < 2 ^ 3 := Nat.pow_lt_pow_right (by decide) (by omega)
  rw [b_ri_votesOf_0]
  simp -implicitDefEqProofs (disch := first | assumption | omega) only [szS_0, szS_i, szS_r, szS_l, x_cons, x_goto, ob_some, kl_i, kl_r, kl_l, kl_n, push_n, push_s, pop_0, pop_i, pop_r, Int.reduceToNat, List.length_cons, List.length_nil, Nat.reduceAdd, Nat.reduceLeDiff, Nat.zero_add, true_and, nI_n0, nat_le, Nat.add_zero, rt_ri_votesOf, x_aaload, x_al0, x_al1, x_al5, x_as5, x_call, x_getf, x_goto, x_iaload, x_iastore, x_icle, x_icne, x_il2, x_il3, x_il4, x_il6, x_il7, x_iret, x_is6, x_is7, x_ishl, x_ldc, x_m1, tf_0_0, tf_0_1, tf_0_2, tf_0_3, tf_0_4, s_farBy, nN_1, h9]
  by_cases hb : far w (tg w f a) n = 99
  · have ev0 : vt V w n f a = 0 := by
      unfold vt
      rw [hbha, decide_eq_false fun h => h hb, if_neg Bool.false_ne_true]
    rw [ev0] at H
    simp -implicitDefEqProofs (disch := first | assumption | omega) only [hb, ↓reduceIte, szS_0, szS_i, szS_r, szS_l, x_cons, x_goto, ob_some, kl_i, kl_r, kl_l, kl_n, push_n, push_s, pop_0, pop_i, pop_r, Int.reduceToNat, List.length_cons, List.length_nil, Nat.reduceAdd, Nat.reduceLeDiff, Nat.zero_add, true_and, nI_n0, nat_le, Nat.add_zero, rt_ri_votesOf, x_aaload, x_al0, x_al1, x_al5, x_as5, x_call, x_getf, x_goto, x_iaload, x_iastore, x_icle, x_icne, x_il2, x_il3, x_il4, x_il6, x_il7, x_iret, x_is6, x_is7, x_ishl, x_ldc, x_m1]
    exact H g fun _ _ _ => rfl
  · have hbt : (bha w f a).testBit n = true := by rw [hbha, decide_eq_true hb]
    have hv := (vt_I hw (V := V) (t := n) (f := f) (a := a) hn16).2 hbt
    have efb : fby w f a n = far w (tg w f a) n + 1 := if_neg hb
    have h99 : far w (tg w f a) n + 1 ≠ 99 := by
      rcases far_99 hw (s := tg w f a) (m := n) (by omega) with e | e <;> omega
    simp only [hb, ↓reduceIte]
    rw [efb, nN_n h99]
    obtain ⟨r4, hr4⟩ : ∃ r4, r4 = pu (pu (akR w n (g 181)) 4 (nI (far w (tg w f a) n + 1))) 5 (nI a) := ⟨_, rfl⟩
    -- behind WON
    have fin : ∀ x, x = (if fd w f 5 = 2 ^ a then nI (fd w f 6) else nI 0) → wp (ev (d + 2)) P ri_votesOf 81 [some (.ref 174), some (.ref t), some (.int (nI n)), some (.int (nI f)), some (.int (nI a)), some (.ref (t + 6)), some (.int (nI (far w (tg w f a) n + 1))), none] [.int x, .int (nI 6), .ref 181] (E (upw g 181 r4) q) := by
      intro x hx6
      have hc1 : ∀ r, Tc t w (upw g 181 r) := fun r => Tc_c hc fun b h1 h2 => upw_o (by omega)
      have last : ∀ y : Nat, y = bt (twc w f) n → wp (ev (d + 2)) P ri_votesOf 106 [some (.ref 174), some (.ref t), some (.int (nI n)), some (.int (nI f)), some (.int (nI a)), some (.ref (t + 6)), some (.int (nI (far w (tg w f a) n + 1))), none] [.int (nI y), .int (nI 7), .ref 181] (E (upw g 181 (pu r4 6 x)) q) := by
        intro y hy7
        have hB : t + 21 = 22 ∨ t + 21 = 26 ∨ t + 21 = 52 ∨ t + 21 = 56 ∨ t + 21 = 82 ∨ t + 21 = 86 := by omega
        have hday : g (t + 6) 0 = w 1 := hc.1.2.1
        rw [b_ri_votesOf_106]
        simp -implicitDefEqProofs (disch := first | assumption | omega) only [szS_0, szS_i, szS_r, szS_l, x_cons, x_goto, ob_some, kl_i, kl_r, kl_l, kl_n, push_n, push_s, pop_0, pop_i, pop_r, Int.reduceToNat, List.length_cons, List.length_nil, Nat.reduceAdd, Nat.reduceLeDiff, Nat.zero_add, true_and, nI_n0, nat_le, Nat.add_zero, rt_ri_votesOf, x_aaload, x_al0, x_al1, x_al5, x_as5, x_call, x_getf, x_goto, x_iaload, x_iastore, x_icle, x_icne, x_il2, x_il3, x_il4, x_il6, x_il7, x_iret, x_is6, x_is7, x_ishl, x_ldc, x_m1, fd_174_0, fd_174_1, fd_174_2, fd_174_3, ld_181, sd_181, ln_181, tf_0_0, tf_0_1, tf_0_2, tf_0_3, tf_0_4, tf_6_0, tf_6_1, tf_6_2, tf_6_3, tf_6_4, tf_6_5, tf_6_6, tf_6_7, tf_6_8, tf_6_9, tf_6_10, ts_6_0, ts_6_1, ts_6_2, ts_6_3, ts_6_4, tr_0, tr_1, tr_2, tr_3, tr_4, tr_5, tr_6, tr_7, tl_9, td_9, pu_w, upw_o, upw_s, hday, hct.1, hy.1]
        refine s_amount (b := t + 21) hB (k := 0) (ok := okV) (F := FV w n f a) (fun s hs => ?_) (by omega) (ls := V) (LC_c (upw_o (by omega)) (upw_o (by omega)) (upw_o (by omega)) hL.1) hL.2.2.1.1 hL.2.2.1.2 fun r' => ?_
        · rw [upw_s, hr4]
          have hs := of_decide_eq_true hs
          have : s = 1 ∨ s = 2 ∨ s = 3 ∨ s = 4 ∨ s = 5 ∨ s = 6 ∨ s = 7 ∨ s = 8 ∨ s = 9 ∨ s = 10 := by omega
          rcases this with rfl | rfl | rfl | rfl | rfl | rfl | rfl | rfl | rfl | rfl <;> refine ⟨by decide, ?_⟩ <;> simp only [asI, FV, akR, pu, hx6, hy7, Nat.reduceEqDiff, Nat.reduceSub, ↓reduceIte]
        · rw [hv]
          simp -implicitDefEqProofs (disch := first | assumption | omega) only [szS_0, szS_i, szS_r, szS_l, x_cons, x_goto, ob_some, kl_i, kl_r, kl_l, kl_n, push_n, push_s, pop_0, pop_i, pop_r, Int.reduceToNat, List.length_cons, List.length_nil, Nat.reduceAdd, Nat.reduceLeDiff, Nat.zero_add, true_and, nI_n0, nat_le, Nat.add_zero, rt_ri_votesOf, x_aaload, x_al0, x_al1, x_al5, x_as5, x_call, x_getf, x_goto, x_iaload, x_iastore, x_icle, x_icne, x_il2, x_il3, x_il4, x_il6, x_il7, x_iret, x_is6, x_is7, x_ishl, x_ldc, x_m1]
          exact H _ fun b h1 h2 => by rw [upw_o (by omega), upw_o h1]
      rw [b_ri_votesOf_81]
      simp -implicitDefEqProofs (disch := first | assumption | omega | exact hc1 _) only [szS_0, szS_i, szS_r, szS_l, x_cons, x_goto, ob_some, kl_i, kl_r, kl_l, kl_n, push_n, push_s, pop_0, pop_i, pop_r, Int.reduceToNat, List.length_cons, List.length_nil, Nat.reduceAdd, Nat.reduceLeDiff, Nat.zero_add, true_and, nI_n0, nat_le, Nat.add_zero, rt_ri_votesOf, x_aaload, x_al0, x_al1, x_al5, x_as5, x_call, x_getf, x_goto, x_iaload, x_iastore, x_icle, x_icne, x_il2, x_il3, x_il4, x_il6, x_il7, x_iret, x_is6, x_is7, x_ishl, x_ldc, x_m1, fd_174_0, fd_174_1, fd_174_2, fd_174_3, ld_181, sd_181, ln_181, tf_0_0, tf_0_1, tf_0_2, tf_0_3, tf_0_4, pu_w, s_armsBefore, nI_ltE]
      have hal := abf_l (w := w) (f := f) (m := n) (n := am w f)
      simp -implicitDefEqProofs (disch := first | assumption | omega) only [nI_ltE]
      by_cases h1 : 1 < abf w f n (am w f)
      · rw [if_pos h1]
        exact last 1 (by rw [bt_t, htw, decide_eq_true h1]; rfl)
      · rw [if_neg h1]
        simp -implicitDefEqProofs (disch := first | assumption | omega) only [b_ri_votesOf_105, szS_0, szS_i, szS_r, szS_l, x_cons, x_goto, ob_some, kl_i, kl_r, kl_l, kl_n, push_n, push_s, pop_0, pop_i, pop_r, Int.reduceToNat, List.length_cons, List.length_nil, Nat.reduceAdd, Nat.reduceLeDiff, Nat.zero_add, true_and, nI_n0, nat_le, Nat.add_zero, rt_ri_votesOf, x_aaload, x_al0, x_al1, x_al5, x_as5, x_call, x_getf, x_goto, x_iaload, x_iastore, x_icle, x_icne, x_il2, x_il3, x_il4, x_il6, x_il7, x_iret, x_is6, x_is7, x_ishl, x_ldc, x_m1]
        exact last 0 (by rw [bt_t, htw, decide_eq_false h1]; rfl)
    rw [b_ri_votesOf_27]
    simp -implicitDefEqProofs (disch := first | assumption | omega) only [szS_0, szS_i, szS_r, szS_l, x_cons, x_goto, ob_some, kl_i, kl_r, kl_l, kl_n, push_n, push_s, pop_0, pop_i, pop_r, Int.reduceToNat, List.length_cons, List.length_nil, Nat.reduceAdd, Nat.reduceLeDiff, Nat.zero_add, true_and, nI_n0, nat_le, Nat.add_zero, rt_ri_votesOf, x_aaload, x_al0, x_al1, x_al5, x_as5, x_call, x_getf, x_goto, x_iaload, x_iastore, x_icle, x_icne, x_il2, x_il3, x_il4, x_il6, x_il7, x_iret, x_is6, x_is7, x_ishl, x_ldc, x_m1, fd_174_0, fd_174_1, fd_174_2, fd_174_3, ld_181, sd_181, ln_181, s_askTown, pu_w, upw_s, upw_o, tf_6_0, tf_6_1, tf_6_2, tf_6_3, tf_6_4, tf_6_5, tf_6_6, tf_6_7, tf_6_8, tf_6_9, tf_6_10, ts_6_0, ts_6_1, ts_6_2, ts_6_3, ts_6_4, tl_17, td_17, tl_18, td_18]
    rw [← hr4]
    simp -implicitDefEqProofs (disch := first | assumption | omega) only [hcf.1, hcf.2.1, hx.1.1, hx.2.1.1, nI_shl1, nI_eqE]
    by_cases h5 : fd w f 5 = 2 ^ a
    · rw [if_pos h5]
      exact fin _ (if_pos h5).symm
    · rw [if_neg h5]
      simp -implicitDefEqProofs (disch := first | assumption | omega) only [b_ri_votesOf_80, szS_0, szS_i, szS_r, szS_l, x_cons, x_goto, ob_some, kl_i, kl_r, kl_l, kl_n, push_n, push_s, pop_0, pop_i, pop_r, Int.reduceToNat, List.length_cons, List.length_nil, Nat.reduceAdd, Nat.reduceLeDiff, Nat.zero_add, true_and, nI_n0, nat_le, Nat.add_zero, rt_ri_votesOf, x_aaload, x_al0, x_al1, x_al5, x_as5, x_call, x_getf, x_goto, x_iaload, x_iastore, x_icle, x_icne, x_il2, x_il3, x_il4, x_il6, x_il7, x_iret, x_is6, x_is7, x_ishl, x_ldc, x_m1]
      exact fin _ (if_neg h5).symm
theorem s_cmovers (hT : t = 1 ∨ t = 31 ∨ t = 61) (hw : WI w) (hc : Tc t w g) {V M : LW} (hL : CL t g V M) {n : Nat} (hn : n < 16) (H : ∀ g', (∀ b, b ≠ 181 → b ≠ t + 28 → g' b = g b) → P (some (.int (nI (mv M w n)))) (E g' q)) :
    callC (ev (d + 3)) ri_movers [.ref 174, .ref t, .int (nI n)] (E g q) P := by
  refine in_ri_movers rfl ?_
  have hy := wi_y hw hn
  have h17 := hy.2.2.2.2.2.2.2
  have h10 := hy.1
  obtain ⟨e0, e1, e2, e3, e4, e5, e6, e7⟩ := tc_t hc hn
  have hday : g (t + 6) 0 = w 1 := hc.1.2.1
  rw [b_ri_movers_0]
  simp -implicitDefEqProofs (disch := first | assumption | omega) only [szS_0, szS_i, szS_r, szS_l, x_cons, x_goto, ob_some, kl_i, kl_r, kl_l, kl_n, push_n, push_s, pop_0, pop_i, pop_r, Int.reduceToNat, List.length_cons, List.length_nil, Nat.reduceAdd, Nat.reduceLeDiff, Nat.zero_add, true_and, nI_n0, nat_le, Nat.add_zero, rt_ri_movers, x_aaload, x_al0, x_al1, x_al3, x_as3, x_call, x_getf, x_iaload, x_iastore, x_idiv, x_ifeq, x_il2, x_il4, x_iret, x_is4, x_ldc, tf_0_0, tf_0_1, tf_0_2, tf_0_3, tf_0_4, tf_6_0, tf_6_1, tf_6_2, tf_6_3, tf_6_4, tf_6_5, tf_6_6, tf_6_7, tf_6_8, tf_6_9, tf_6_10, ts_6_0, ts_6_1, ts_6_2, ts_6_3, ts_6_4, tr_0, tr_1, tr_2, tr_3, tr_4, tr_5, tr_6, tr_7, tl_16, td_16, e7, h17.1, nI_eqE]
  by_cases hb : fd w n 17 = 0
  · have hv := mv_I hw (M := M) hn
    have hb1 : fd w n 17 ≠ 1 := by omega
    have z10 := nI_ne (a := 10) (by decide) (by decide)
    have hB : t + 25 = 22 ∨ t + 25 = 26 ∨ t + 25 = 52 ∨ t + 25 = 56 ∨ t + 25 = 82 ∨ t + 25 = 86 := by omega
    simp only [hb, ↓reduceIte]
    rw [b_ri_movers_19]
    simp -implicitDefEqProofs (disch := first | assumption | omega) only [szS_0, szS_i, szS_r, szS_l, x_cons, x_goto, ob_some, kl_i, kl_r, kl_l, kl_n, push_n, push_s, pop_0, pop_i, pop_r, Int.reduceToNat, List.length_cons, List.length_nil, Nat.reduceAdd, Nat.reduceLeDiff, Nat.zero_add, true_and, nI_n0, nat_le, Nat.add_zero, rt_ri_movers, x_aaload, x_al0, x_al1, x_al3, x_as3, x_call, x_getf, x_iaload, x_iastore, x_idiv, x_ifeq, x_il2, x_il4, x_iret, x_is4, x_ldc, fd_174_0, fd_174_1, fd_174_2, fd_174_3, ld_181, sd_181, ln_181, s_askTown, tf_0_0, tf_0_1, tf_0_2, tf_0_3, tf_0_4, tf_6_0, tf_6_1, tf_6_2, tf_6_3, tf_6_4, tf_6_5, tf_6_6, tf_6_7, tf_6_8, tf_6_9, tf_6_10, ts_6_0, ts_6_1, ts_6_2, ts_6_3, ts_6_4, tr_0, tr_1, tr_2, tr_3, tr_4, tr_5, tr_6, tr_7, tl_9, td_9, tl_11, td_11, pu_w, upw_o, upw_s, e0, e2, hday, h10.1, nI_div]
    refine s_amount (b := t + 25) hB (k := 1) (ok := okM) (F := FM w n) (fun s hs => ?_) (by omega) (ls := M) (LC_c (upw_o (by omega)) (upw_o (by omega)) (upw_o (by omega)) hL.2.1) hL.2.2.2.1 hL.2.2.2.2 fun r' => ?_
    · rw [upw_s]
      have hs := of_decide_eq_true hs
      have h15 := hy.2.2.2.2.2.1.1
      rcases hs with rfl | rfl | rfl | rfl | rfl | rfl | rfl <;> refine ⟨by decide, ?_⟩ <;> simp only [asI, FM, akR, pu, h15, Nat.reduceEqDiff, Nat.reduceSub, Nat.reduceLeDiff, ↓reduceIte]
    · rw [hv.2 hb1]
      simp -implicitDefEqProofs (disch := first | assumption | omega) only [szS_0, szS_i, szS_r, szS_l, x_cons, x_goto, ob_some, kl_i, kl_r, kl_l, kl_n, push_n, push_s, pop_0, pop_i, pop_r, Int.reduceToNat, List.length_cons, List.length_nil, Nat.reduceAdd, Nat.reduceLeDiff, Nat.zero_add, true_and, nI_n0, nat_le, Nat.add_zero, rt_ri_movers, x_aaload, x_al0, x_al1, x_al3, x_as3, x_call, x_getf, x_iaload, x_iastore, x_idiv, x_ifeq, x_il2, x_il4, x_iret, x_is4, x_ldc]
      exact H _ fun b h1 h2 => by rw [upw_o (by omega), upw_o h1]
  · simp only [hb, ↓reduceIte]
    have : mv M w n = 0 := if_pos (by omega)
    rw [this] at H
    exact H g fun _ _ _ => rfl
/-- votes of a town for an arm, 0 where none is cast -/
def cst (V : LW) (w : Nat → Int32) (f n a : Nat) : Nat := if f < n ∧ n < nn w ∧ fd w n 0 = 1 ∧ a < am w f then vt V w n f a else 0
/-- the class's counts: of the towns below n, of n itself the arms below a -/
def cnS (V : LW) (w : Nat → Int32) (f n a : Nat) (S C : Nat → Int32) : Prop :=
  (∀ b, b < 3 → S b = nI (if b < am w f then (if b < a then vsum V w f b (n + 1) else vsum V w f b n) else 0)) ∧
  (∀ m b, m < 16 → b < 3 → C (m * 3 + b) = nI (if m < n ∨ (m = n ∧ b < a) then cst V w f m b else 0))
theorem cnS_n {V : LW} {w : Nat → Int32} {f n a : Nat} {S C : Nat → Int32} (ha : am w f ≤ a) (h : cnS V w f n a S C) : cnS V w f (n + 1) 0 S C := by
  refine ⟨fun b hb => ?_, fun m b hm hb => ?_⟩
  · rw [h.1 b hb]
    by_cases e : b < am w f
    · rw [if_pos e, if_pos e, if_pos (by omega), if_neg (Nat.not_lt_zero b)]
    · rw [if_neg e, if_neg e]
  · rw [h.2 m b hm hb]
    by_cases e : m < n ∨ (m = n ∧ b < a)
    · rw [if_pos e, if_pos (by omega)]
    · rw [if_neg e]
      by_cases e2 : m < n + 1 ∨ (m = n + 1 ∧ b < 0)
      · rw [if_pos e2]
        unfold cst
        rw [if_neg (by omega)]
      · rw [if_neg e2]
theorem cnS_0 {V : LW} {w : Nat → Int32} {f n : Nat} {S C : Nat → Int32} (hs : ¬ (f < n ∧ fd w n 0 = 1)) (h : cnS V w f n 0 S C) : cnS V w f (n + 1) 0 S C := by
  refine ⟨fun b hb => ?_, fun m b hm hb => ?_⟩
  · rw [h.1 b hb]
    have : vsum V w f b (n + 1) = vsum V w f b n := by
      show vsum V w f b n + (if f < n ∧ fd w n 0 = 1 then _ else 0) = _
      rw [if_neg hs]
      rfl
    simp only [Nat.not_lt_zero, ↓reduceIte, this]
  · rw [h.2 m b hm hb]
    by_cases e : m < n
    · rw [if_pos (Or.inl e), if_pos (Or.inl (by omega))]
    · rw [if_neg (by omega)]
      by_cases e2 : m = n
      · rw [if_pos (Or.inl (by omega))]
        unfold cst
        rw [e2, if_neg fun h => hs ⟨h.1, h.2.2.1⟩]
      · rw [if_neg (by omega)]
theorem cv_in (hT : t = 1 ∨ t = 31 ∨ t = 61) (hw : WI w) {V M : LW} {n f : Nat} (hn : n < nn w) (hs : fd w n 0 = 1) (hf : f < nn w) (hf0 : fd w f 0 = 0) (hfn : f < n) {g0 : Nat → Nat → Int32} (hc : Tc t w g0) (hL : CL t g0 V M)
    (H : ∀ g' o o2, (∀ b, b ≠ 179 → b ≠ 180 → b ≠ 181 → b ≠ t + 24 → g' b = g0 b) → cnS V w f (n + 1) 0 (g' 179) (g' 180) → wp (ev (d + 3)) P ri_countVotes 20 [some (.ref 174), some (.ref t), some (.int (nI f)), some (.int (nI (n + 1))), o, o2] [] (E g' q)) :
    ∀ (j a : Nat) (g : Nat → Nat → Int32) (o : Option Value), a + j = am w f → (∀ b, b ≠ 179 → b ≠ 180 → b ≠ 181 → b ≠ t + 24 → g b = g0 b) → cnS V w f n a (g 179) (g 180) →
    wp (ev (d + 3)) P ri_countVotes 50 [some (.ref 174), some (.ref t), some (.int (nI f)), some (.int (nI n)), some (.int (nI a)), o] [] (E g q) := by
  have h0 := wi_n hw
  have ham := am_le hw (n := f) (by omega)
  have ha1 := tc_am hc (n := f) (by omega)
  rw [(wi_1 hw (n := f) (by omega)).1] at ha1
  have ha1 : g0 (t + 3) f = nI (am w f) := ha1
  intro j
  induction j with
  | zero =>
    intro a g o ha hr hC
    have ha : a = am w f := ha
    have e3 : g (t + 3) f = nI (am w f) := by rw [hr _ (by omega) (by omega) (by omega) (by omega)]; exact ha1
    rw [b_ri_countVotes_50]
    simp -implicitDefEqProofs (disch := first | assumption | omega) only [szS_0, szS_i, szS_r, szS_l, x_cons, x_goto, ob_some, kl_i, kl_r, kl_l, kl_n, push_n, push_s, pop_0, pop_i, pop_r, Int.reduceToNat, List.length_cons, List.length_nil, Nat.reduceAdd, Nat.reduceLeDiff, Nat.zero_add, true_and, nI_n0, nat_le, Nat.add_zero, i_1, rt_ri_countVotes, x_al0, x_al1, x_call, x_dup2, x_getf, x_goto, x_iadd, x_iaload, x_iastore, x_iceq, x_icge, x_il2, x_il3, x_il4, x_il5, x_imul, x_inc3, x_inc4, x_is3, x_is4, x_is5, x_ldc, x_vret, tf_0_0, tf_0_1, tf_0_2, tf_0_3, tf_0_4, tf_1_0, tf_1_1, tf_1_2, tf_1_3, tf_1_4, ts_1_0, tl_3, td_3, e3, ha, nI_ltE, Nat.lt_irrefl, ↓reduceIte, b_ri_countVotes_106, nI_add]
    exact H g _ _ hr (cnS_n (by omega) hC)
  | succ j ih =>
    intro a g o ha hr hC
    have ha' : a < am w f := by omega
    have e3 : g (t + 3) f = nI (am w f) := by rw [hr _ (by omega) (by omega) (by omega) (by omega)]; exact ha1
    have hcg : Tc t w g := Tc_c hc fun b h1 h2 => hr b (by omega) (by omega) (by omega) (by omega)
    have hLg : CL t g V M := CL_c hL fun b h1 h2 h3 => hr b (by omega) (by omega) (by omega) h3
    rw [b_ri_countVotes_50]
    simp -implicitDefEqProofs (disch := first | assumption | omega) only [szS_0, szS_i, szS_r, szS_l, x_cons, x_goto, ob_some, kl_i, kl_r, kl_l, kl_n, push_n, push_s, pop_0, pop_i, pop_r, Int.reduceToNat, List.length_cons, List.length_nil, Nat.reduceAdd, Nat.reduceLeDiff, Nat.zero_add, true_and, nI_n0, nat_le, Nat.add_zero, i_1, rt_ri_countVotes, x_al0, x_al1, x_call, x_dup2, x_getf, x_goto, x_iadd, x_iaload, x_iastore, x_iceq, x_icge, x_il2, x_il3, x_il4, x_il5, x_imul, x_inc3, x_inc4, x_is3, x_is4, x_is5, x_ldc, x_vret, tf_0_0, tf_0_1, tf_0_2, tf_0_3, tf_0_4, tf_1_0, tf_1_1, tf_1_2, tf_1_3, tf_1_4, ts_1_0, tl_3, td_3, e3, nI_ltE, ha', ↓reduceIte]
    refine s_cvotesOf hT hw hcg hLg hn hs hf hf0 ha' fun g1 f1 => ?_
    have e179 : g1 179 = g 179 := f1 _ (by omega) (by omega)
    have e180 : g1 180 = g 180 := f1 _ (by omega) (by omega)
    have eS := hC.1 a (by omega)
    rw [if_pos ha', if_neg (Nat.lt_irrefl a)] at eS
    simp -implicitDefEqProofs (disch := first | assumption | omega) only [szS_0, szS_i, szS_r, szS_l, x_cons, x_goto, ob_some, kl_i, kl_r, kl_l, kl_n, push_n, push_s, pop_0, pop_i, pop_r, Int.reduceToNat, List.length_cons, List.length_nil, Nat.reduceAdd, Nat.reduceLeDiff, Nat.zero_add, true_and, nI_n0, nat_le, Nat.add_zero, i_1, rt_ri_countVotes, x_al0, x_al1, x_call, x_dup2, x_getf, x_goto, x_iadd, x_iaload, x_iastore, x_iceq, x_icge, x_il2, x_il3, x_il4, x_il5, x_imul, x_inc3, x_inc4, x_is3, x_is4, x_is5, x_ldc, x_vret, fd_174_0, fd_174_1, fd_174_2, fd_174_3, ld_179, sd_179, ln_179, ld_180, sd_180, ln_180, nI_mul, nI_add, pu_g, upw_o, upw_s, e179, e180, eS]
    have evs : vsum V w f a (n + 1) = vsum V w f a n + vt V w n f a := by
      show vsum V w f a n + (if f < n ∧ fd w n 0 = 1 then vt V w n f a else 0) = _
      rw [if_pos ⟨hfn, hs⟩]
    refine ih (a + 1) _ _ (by omega) (fun b h1 h2 h3 h4 => by rw [upw_o h1, upw_o h2, f1 b h3 h4, hr b h1 h2 h3 h4]) ⟨fun b hb => ?_, fun m b hm hb => ?_⟩
    · rw [upw_s]
      unfold pu
      by_cases e : b = a
      · rw [if_pos e, e, if_pos ha', if_pos (by omega), evs]
      · rw [if_neg e, hC.1 b hb]
        by_cases e2 : b < a
        · rw [if_pos e2, if_pos (show b < a + 1 by omega)]
        · rw [if_neg e2, if_neg (show ¬ b < a + 1 by omega)]
    · rw [upw_o (by decide), upw_s]
      unfold pu
      by_cases e : m * 3 + b = n * 3 + a
      · have em : m = n := by omega
        have eb : b = a := by omega
        rw [if_pos e, if_pos (by omega), em, eb]
        unfold cst
        rw [if_pos ⟨hfn, hn, hs, ha'⟩]
      · rw [if_neg e, hC.2 m b hm hb]
        by_cases e2 : m < n ∨ (m = n ∧ b < a)
        · rw [if_pos e2, if_pos (by omega)]
        · rw [if_neg e2, if_neg (by omega)]
theorem cv_out (hT : t = 1 ∨ t = 31 ∨ t = 61) (hw : WI w) {V M : LW} {f : Nat} (hf : f < nn w) (hf0 : fd w f 0 = 0) {g0 : Nat → Nat → Int32} (hc : Tc t w g0) (hL : CL t g0 V M)
    (H : ∀ g', (∀ b, b ≠ 179 → b ≠ 180 → b ≠ 181 → b ≠ t + 24 → g' b = g0 b) → cnS V w f (nn w) 0 (g' 179) (g' 180) → P none (E g' q)) :
    ∀ (j n : Nat) (g : Nat → Nat → Int32) (o o2 : Option Value), n + j = nn w → f < n → (∀ b, b ≠ 179 → b ≠ 180 → b ≠ 181 → b ≠ t + 24 → g b = g0 b) → cnS V w f n 0 (g 179) (g 180) →
    wp (ev (d + 3)) P ri_countVotes 20 [some (.ref 174), some (.ref t), some (.int (nI f)), some (.int (nI n)), o, o2] [] (E g q) := by
  have h0 := wi_n hw
  intro j
  induction j with
  | zero =>
    intro n g o o2 hn hfn hr hC
    have hn : n = nn w := hn
    subst hn
    have e1 : g (t + 1) 0 = nI (nn w) := by rw [hr _ (by omega) (by omega) (by omega) (by omega), tc_n hc]; exact h0.1
    rw [b_ri_countVotes_20]
    simp -implicitDefEqProofs (disch := first | assumption | omega) only [szS_0, szS_i, szS_r, szS_l, x_cons, x_goto, ob_some, kl_i, kl_r, kl_l, kl_n, push_n, push_s, pop_0, pop_i, pop_r, Int.reduceToNat, List.length_cons, List.length_nil, Nat.reduceAdd, Nat.reduceLeDiff, Nat.zero_add, true_and, nI_n0, nat_le, Nat.add_zero, i_1, rt_ri_countVotes, x_al0, x_al1, x_call, x_dup2, x_getf, x_goto, x_iadd, x_iaload, x_iastore, x_iceq, x_icge, x_il2, x_il3, x_il4, x_il5, x_imul, x_inc3, x_inc4, x_is3, x_is4, x_is5, x_ldc, x_vret, tf_0_0, tf_0_1, tf_0_2, tf_0_3, tf_0_4, tf_1_0, tf_1_1, tf_1_2, tf_1_3, tf_1_4, ts_1_0, e1, nI_ltE, Nat.lt_irrefl, ↓reduceIte, b_ri_countVotes_112]
    exact H g hr hC
  | succ j ih =>
    intro n g o o2 hn hfn hr hC
    have hn' : n < nn w := by omega
    have e1 : g (t + 1) 0 = nI (nn w) := by rw [hr _ (by omega) (by omega) (by omega) (by omega), tc_n hc]; exact h0.1
    have hz := wi_0 hw (n := n) (by omega)
    have e2 : g (t + 2) n = nI (fd w n 0) := by rw [hr _ (by omega) (by omega) (by omega) (by omega), tc_so hc (by omega)]; exact hz.1
    rw [b_ri_countVotes_20]
    simp -implicitDefEqProofs (disch := first | assumption | omega) only [szS_0, szS_i, szS_r, szS_l, x_cons, x_goto, ob_some, kl_i, kl_r, kl_l, kl_n, push_n, push_s, pop_0, pop_i, pop_r, Int.reduceToNat, List.length_cons, List.length_nil, Nat.reduceAdd, Nat.reduceLeDiff, Nat.zero_add, true_and, nI_n0, nat_le, Nat.add_zero, i_1, rt_ri_countVotes, x_al0, x_al1, x_call, x_dup2, x_getf, x_goto, x_iadd, x_iaload, x_iastore, x_iceq, x_icge, x_il2, x_il3, x_il4, x_il5, x_imul, x_inc3, x_inc4, x_is3, x_is4, x_is5, x_ldc, x_vret, tf_0_0, tf_0_1, tf_0_2, tf_0_3, tf_0_4, tf_1_0, tf_1_1, tf_1_2, tf_1_3, tf_1_4, ts_1_0, tl_2, td_2, e1, e2, nI_ltE, hn', ↓reduceIte, nI_eqE]
    by_cases hs : fd w n 0 = 1
    · simp only [hs, ↓reduceIte]
      rw [b_ri_countVotes_47]
      simp -implicitDefEqProofs (disch := first | assumption | omega) only [szS_0, szS_i, szS_r, szS_l, x_cons, x_goto, ob_some, kl_i, kl_r, kl_l, kl_n, push_n, push_s, pop_0, pop_i, pop_r, Int.reduceToNat, List.length_cons, List.length_nil, Nat.reduceAdd, Nat.reduceLeDiff, Nat.zero_add, true_and, nI_n0, nat_le, Nat.add_zero, i_1, rt_ri_countVotes, x_al0, x_al1, x_call, x_dup2, x_getf, x_goto, x_iadd, x_iaload, x_iastore, x_iceq, x_icge, x_il2, x_il3, x_il4, x_il5, x_imul, x_inc3, x_inc4, x_is3, x_is4, x_is5, x_ldc, x_vret]
      exact cv_in hT hw hn' hs hf hf0 hfn hc hL (fun g1 o o2 f1 hC1 => ih (n + 1) g1 o o2 (by omega) (by omega) f1 hC1) (am w f) 0 g o2 (Nat.zero_add _) hr hC
    · simp only [hs, ↓reduceIte]
      try simp -implicitDefEqProofs (disch := first | assumption | omega) only [b_ri_countVotes_106, szS_0, szS_i, szS_r, szS_l, x_cons, x_goto, ob_some, kl_i, kl_r, kl_l, kl_n, push_n, push_s, pop_0, pop_i, pop_r, Int.reduceToNat, List.length_cons, List.length_nil, Nat.reduceAdd, Nat.reduceLeDiff, Nat.zero_add, true_and, nI_n0, nat_le, Nat.add_zero, i_1, rt_ri_countVotes, x_al0, x_al1, x_call, x_dup2, x_getf, x_goto, x_iadd, x_iaload, x_iastore, x_iceq, x_icge, x_il2, x_il3, x_il4, x_il5, x_imul, x_inc3, x_inc4, x_is3, x_is4, x_is5, x_ldc, x_vret, nI_add]
      exact ih (n + 1) g o o2 (by omega) (by omega) hr (cnS_0 (fun h => hs h.2) hC)
/-- behind countVotes: sums and votes of the fork -/
def cnd (V : LW) (w : Nat → Int32) (f : Nat) (S C : Nat → Int32) : Prop := (∀ a, a < 3 → S a = nI (if a < am w f then vfor V w f a else 0)) ∧ (∀ m b, m < 16 → b < 3 → C (m * 3 + b) = nI (cst V w f m b))
theorem s_countVotes (hT : t = 1 ∨ t = 31 ∨ t = 61) (hw : WI w) (hc : Tc t w g) {V M : LW} (hL : CL t g V M) {f : Nat} (hf : f < nn w) (hf0 : fd w f 0 = 0)
    (H : ∀ g', (∀ b, b ≠ 179 → b ≠ 180 → b ≠ 181 → b ≠ t + 24 → g' b = g b) → cnd V w f (g' 179) (g' 180) → P none (E g' q)) : callC (ev (d + 4)) ri_countVotes [.ref 174, .ref t, .int (nI f)] (E g q) P := by
  refine in_ri_countVotes rfl ?_
  have h0 := wi_n hw
  rw [b_ri_countVotes_0]
  simp -implicitDefEqProofs (disch := first | assumption | omega) only [szS_0, szS_i, szS_r, szS_l, x_cons, x_goto, ob_some, kl_i, kl_r, kl_l, kl_n, push_n, push_s, pop_0, pop_i, pop_r, Int.reduceToNat, List.length_cons, List.length_nil, Nat.reduceAdd, Nat.reduceLeDiff, Nat.zero_add, true_and, nI_n0, nat_le, Nat.add_zero, i_1, rt_ri_countVotes, x_al0, x_al1, x_call, x_dup2, x_getf, x_goto, x_iadd, x_iaload, x_iastore, x_iceq, x_icge, x_il2, x_il3, x_il4, x_il5, x_imul, x_inc3, x_inc4, x_is3, x_is4, x_is5, x_ldc, x_vret, fd_174_0, fd_174_1, fd_174_2, fd_174_3]
  refine s_fill (n := 3) rfl (by decide) (by decide) fun r1 hr1 => ?_
  simp -implicitDefEqProofs (disch := first | assumption | omega) only [szS_0, szS_i, szS_r, szS_l, x_cons, x_goto, ob_some, kl_i, kl_r, kl_l, kl_n, push_n, push_s, pop_0, pop_i, pop_r, Int.reduceToNat, List.length_cons, List.length_nil, Nat.reduceAdd, Nat.reduceLeDiff, Nat.zero_add, true_and, nI_n0, nat_le, Nat.add_zero, i_1, rt_ri_countVotes, x_al0, x_al1, x_call, x_dup2, x_getf, x_goto, x_iadd, x_iaload, x_iastore, x_iceq, x_icge, x_il2, x_il3, x_il4, x_il5, x_imul, x_inc3, x_inc4, x_is3, x_is4, x_is5, x_ldc, x_vret, fd_174_0, fd_174_1, fd_174_2, fd_174_3]
  refine s_fill (n := 48) rfl (by decide) (by decide) fun r2 hr2 => ?_
  simp -implicitDefEqProofs (disch := first | assumption | omega) only [szS_0, szS_i, szS_r, szS_l, x_cons, x_goto, ob_some, kl_i, kl_r, kl_l, kl_n, push_n, push_s, pop_0, pop_i, pop_r, Int.reduceToNat, List.length_cons, List.length_nil, Nat.reduceAdd, Nat.reduceLeDiff, Nat.zero_add, true_and, nI_n0, nat_le, Nat.add_zero, i_1, rt_ri_countVotes, x_al0, x_al1, x_call, x_dup2, x_getf, x_goto, x_iadd, x_iaload, x_iastore, x_iceq, x_icge, x_il2, x_il3, x_il4, x_il5, x_imul, x_inc3, x_inc4, x_is3, x_is4, x_is5, x_ldc, x_vret, nI_add]
  refine cv_out hT hw hf hf0 (g0 := g) hc hL (fun g' h1 h2 => H g' h1 ⟨fun a ha => ?_, fun m b hm hb => ?_⟩) (nn w - (f + 1)) (f + 1) _ none none (by omega) (by omega) (fun b h1 h2 h3 h4 => by rw [upw_o h2, upw_o h1]) ⟨fun b hb => ?_, fun m b hm hb => ?_⟩
  · rw [h2.1 a ha]
    simp only [Nat.not_lt_zero, ↓reduceIte]
    rfl
  · rw [h2.2 m b hm hb]
    by_cases e : m < nn w ∨ (m = nn w ∧ b < 0)
    · rw [if_pos e]
    · rw [if_neg e]
      unfold cst
      rw [if_neg (by omega)]
  · rw [upw_o (by decide), upw_s, hr1 b hb]
    simp only [Nat.not_lt_zero, ↓reduceIte, vsum_0 (f + 1) (Nat.le_refl _)]
    split <;> rfl
  · rw [upw_s, hr2 _ (by omega)]
    by_cases e : m < f + 1 ∨ (m = f + 1 ∧ b < 0)
    · rw [if_pos e]
      unfold cst
      rw [if_neg (by omega)]
    · rw [if_neg e]
end CV
