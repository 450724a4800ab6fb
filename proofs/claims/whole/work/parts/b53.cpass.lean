/-! the class's day: the whole -/
theorem Tc_w {t : Nat} {w w' : Nat → Int32} {g : Nat → Nat → Int32} (hw : WI w) (h : Tc t w g) (e : ∀ k, k ≠ 2 → k ≠ 5 → k ≠ 8 → k ≠ 9 → k < 596 → w' k = w k) : Tc t w' g := by
  obtain ⟨c1, c2, c3, c4, c5, c6, c7⟩ := h
  have hN := wi_n hw
  have hst : stc w w' := ⟨e 0 (by omega) (by omega) (by omega) (by omega) (by omega), fun n f hn hf => e _ (by omega) (by omega) (by omega) (by omega) (by omega)⟩
  refine ⟨⟨?_, ?_, ?_, ?_, ?_, ?_⟩, fun n hn => ?_, fun n a hn ha => ?_, fun s m hs hm => ?_, fun n hn hs => ?_, fun n hn => ?_, fun k hk => ?_⟩
  · rw [e 0 (by omega) (by omega) (by omega) (by omega) (by omega)]; exact c1.1
  · rw [e 1 (by omega) (by omega) (by omega) (by omega) (by omega)]; exact c1.2.1
  · rw [e 4 (by omega) (by omega) (by omega) (by omega) (by omega)]; exact c1.2.2.1
  · rw [e 3 (by omega) (by omega) (by omega) (by omega) (by omega)]; exact c1.2.2.2.1
  · rw [e 6 (by omega) (by omega) (by omega) (by omega) (by omega)]; exact c1.2.2.2.2.1
  · rw [e 7 (by omega) (by omega) (by omega) (by omega) (by omega)]; exact c1.2.2.2.2.2
  · rw [e _ (by omega) (by omega) (by omega) (by omega) (by omega), e _ (by omega) (by omega) (by omega) (by omega) (by omega)]; exact c2 n hn
  · rw [e _ (by omega) (by omega) (by omega) (by omega) (by omega)]; exact c3 n a hn ha
  · rw [stc_nn hst] at hs
    rw [stc_far hw hst (by omega)]; exact c4 s m hs hm
  · rw [stc_nn hst] at hn
    rw [stc_fd hst (by omega) (by decide)] at hs
    rw [e _ (by omega) (by omega) (by omega) (by omega) (by omega), e _ (by omega) (by omega) (by omega) (by omega) (by omega)]
    exact ⟨(c5 n hn hs).1, (c5 n hn hs).2.1, fun a ha => by rw [e _ (by omega) (by omega) (by omega) (by omega) (by omega)]; exact (c5 n hn hs).2.2 a ha⟩
  · rw [e (10 + 20 * n + 10) (by omega) (by omega) (by omega) (by omega) (by omega), e (10 + 20 * n + 11) (by omega) (by omega) (by omega) (by omega) (by omega), e (10 + 20 * n + 15) (by omega) (by omega) (by omega) (by omega) (by omega), e (10 + 20 * n + 16) (by omega) (by omega) (by omega) (by omega) (by omega), e (10 + 20 * n + 12) (by omega) (by omega) (by omega) (by omega) (by omega), e (10 + 20 * n + 13) (by omega) (by omega) (by omega) (by omega) (by omega), e (10 + 20 * n + 14) (by omega) (by omega) (by omega) (by omega) (by omega), e (10 + 20 * n + 17) (by omega) (by omega) (by omega) (by omega) (by omega)]
    exact c6 n hn
  · rw [e _ (by omega) (by omega) (by omega) (by omega) (by omega)]; exact c7 k hk
/-- fields of the state that the tie doesn't read -/
theorem Tc_g {t : Nat} {w : Nat → Int32} {g g' : Nat → Nat → Int32} (h : Tc t w g) (e : ∀ a, t < a → a < t + 21 → a ≠ t + 6 → g' a = g a) (e6 : ∀ k, k < 3 → g' (t + 6) k = g (t + 6) k) : Tc t w g' := by
  obtain ⟨h1, h2, h3, h4, h5, h6, h7⟩ := h
  refine ⟨?_, ?_, ?_, ?_, ?_, ?_, ?_⟩
  · rw [e (t + 1) (by omega) (by omega) (by omega), e6 0 (by decide), e6 1 (by decide), e6 2 (by decide), e (t + 7) (by omega) (by omega) (by omega)]
    exact h1
  · rw [e (t + 2) (by omega) (by omega) (by omega), e (t + 3) (by omega) (by omega) (by omega)]
    exact h2
  · rw [e (t + 4) (by omega) (by omega) (by omega)]
    exact h3
  · rw [e (t + 5) (by omega) (by omega) (by omega)]
    exact h4
  · rw [e (t + 17) (by omega) (by omega) (by omega), e (t + 18) (by omega) (by omega) (by omega), e (t + 19) (by omega) (by omega) (by omega)]
    exact h5
  · rw [e (t + 9) (by omega) (by omega) (by omega), e (t + 10) (by omega) (by omega) (by omega), e (t + 11) (by omega) (by omega) (by omega), e (t + 12) (by omega) (by omega) (by omega), e (t + 13) (by omega) (by omega) (by omega), e (t + 14) (by omega) (by omega) (by omega), e (t + 15) (by omega) (by omega) (by omega), e (t + 16) (by omega) (by omega) (by omega)]
    exact h6
  · rw [e (t + 20) (by omega) (by omega) (by omega)]
    exact h7
theorem bkT_c {bk : Bool} {t : Nat} {w w' : Nat → Int32} {g g' : Nat → Nat → Int32} (h : bkT bk t w g) (e2 : w' 2 = w 2) (ew : ∀ k, k < 600 → w' (600 + k) = w (600 + k)) (e4 : g' (t + 6) 4 = g (t + 6) 4) (e29 : g' (t + 29) = g (t + 29)) : bkT bk t w' g' := by
  unfold bkT at *
  split
  next hb =>
    rw [if_pos hb] at h
    rw [e4, e2, e29]
    exact ⟨h.1, fun k hk => by rw [ew k hk]; exact h.2 k hk⟩
  next hb =>
    rw [if_neg hb] at h
    rw [e4, e2]
    exact h
def flB (bk : Bool) (w : Nat → Int32) : Nat := if bk = true then flw w else vN w 6
def drB (bk : Bool) (w : Nat → Int32) : Nat → Int32 := if bk = true then drw w else w
theorem dyB_e {V M : LW} {bk : Bool} {w : Nat → Int32} : dyB V M bk w = dyR V M (flB bk w) (drB bk w) := by
  cases bk <;> rfl
theorem drB_wi {bk : Bool} {w : Nat → Int32} (h : WI w) : WI (drB bk w) := by
  cases bk
  · exact h
  · exact drw_wi h
theorem drB_o {bk : Bool} {w : Nat → Int32} {k : Nat} (h : k ≠ 5) : drB bk w k = w k := by
  cases bk
  · rfl
  · exact drw_o h
theorem flB_l {bk : Bool} {w : Nat → Int32} (h : WI w) : flB bk w ≤ 1998 := by
  cases bk
  · exact fl6 h
  · exact flw_l h
section CP
variable {d : Nat} {g : Nat → Nat → Int32} {q : Nat → Nat → Int64} {P : QT} {t : Nat} {w : Nat → Int32}
theorem s_cdraw (hT : t = 1 ∨ t = 31 ∨ t = 61) (h3 : g (t + 6) 3 = w 5) : callC (ev (d + 1)) st_draw [.ref (t + 6), .int (nI 1000)] (E g q) P = P (some (.int (dI (drn w)))) (E (upw g (t + 6) (pu (g (t + 6)) 3 (drn w))) q) := by
  refine call_eq (in_st_draw (by rcases hT with rfl | rfl | rfl <;> rfl) ?_)
  have hz := nI_ne (a := 1000) (by decide) (by decide)
  have hl : (nI 1000 ≤ nI 0) = False := eq_false (by decide)
  have ed : w 5 * nI 1664525 + nI 1013904223 = drn w := by
    unfold drn
    rw [Int32.mul_comm]
  rw [b_st_draw_0]
  simp -implicitDefEqProofs (disch := first | assumption | omega) only [szS_0, szS_i, szS_r, szS_l, x_cons, x_goto, ob_some, kl_i, kl_r, kl_l, kl_n, push_n, push_s, pop_0, pop_i, pop_r, Int.reduceToNat, List.length_cons, List.length_nil, Nat.reduceAdd, Nat.reduceLeDiff, Nat.zero_add, true_and, nI_n0, nat_le, Nat.add_zero, rt_st_draw, x_al0, x_getf, x_goto, x_iadd, x_ifle, x_il1, x_imul, x_irem, x_iret, x_iushr, x_ldc, x_putf, tf_6_0, tf_6_1, tf_6_2, tf_6_3, tf_6_4, tf_6_5, tf_6_6, tf_6_7, tf_6_8, tf_6_9, tf_6_10, ts_6_0, ts_6_1, ts_6_2, ts_6_3, ts_6_4, h3, ed, pu_g, upw_s, pu_s, hl, ↓reduceIte, b_st_draw_31]
  unfold dI
  exact ⟨rfl, trivial⟩
theorem s_cflow (hT : t = 1 ∨ t = 31 ∨ t = 61) (hw : WI w) {bk : Bool} (h0 : g (t + 7) 0 = w 6) (hx : if bk = true then g (t + 6) 3 = w 5 ∧ g (t + 7) 2 = w 8 ∧ g (t + 7) 3 = w 9 else g (t + 7) 2 = nI 0 ∧ g (t + 7) 3 = nI 0)
    (H : ∀ g', (∀ b, b ≠ t + 6 → g' b = g b) → (∀ k, k ≠ 3 → g' (t + 6) k = g (t + 6) k) → (bk = true → g' (t + 6) 3 = drw w 5) → P (some (.int (nI (flB bk w)))) (E g' q)) : callC (ev (d + 2)) ri_drawnFlow [.ref (t + 6)] (E g q) P := by
  refine in_ri_drawnFlow rfl ?_
  have h6 := wi_6 hw
  have h8 := wi_8 hw
  have h9 := wi_9 hw
  have hz := nI_ne (a := 2) (by decide) (by decide)
  rw [h6.1] at h0
  cases bk
  · have hx : g (t + 7) 2 = nI 0 ∧ g (t + 7) 3 = nI 0 := hx
    rw [b_ri_drawnFlow_0]
    simp -implicitDefEqProofs (disch := first | assumption | omega) only [szS_0, szS_i, szS_r, szS_l, x_cons, x_goto, ob_some, kl_i, kl_r, kl_l, kl_n, push_n, push_s, pop_0, pop_i, pop_r, Int.reduceToNat, List.length_cons, List.length_nil, Nat.reduceAdd, Nat.reduceLeDiff, Nat.zero_add, true_and, nI_n0, nat_le, Nat.add_zero, rt_ri_drawnFlow, x_al0, x_call, x_getf, x_goto, x_iadd, x_iaload, x_icge, x_idiv, x_ifne, x_il1, x_il2, x_il3, x_il4, x_imul, x_iret, x_is1, x_is2, x_is3, x_is4, x_ldc, tf_6_0, tf_6_1, tf_6_2, tf_6_3, tf_6_4, tf_6_5, tf_6_6, tf_6_7, tf_6_8, tf_6_9, tf_6_10, ts_6_0, ts_6_1, ts_6_2, ts_6_3, ts_6_4, tl_7, td_7, h0, hx.1, hx.2, ↓reduceIte]
    exact H g (fun _ _ => rfl) (fun _ _ => rfl) fun h => Bool.noConfusion h
  · have hx : g (t + 6) 3 = w 5 ∧ g (t + 7) 2 = w 8 ∧ g (t + 7) 3 = w 9 := hx
    have H : ∀ g', (∀ b, b ≠ t + 6 → g' b = g b) → (∀ k, k ≠ 3 → g' (t + 6) k = g (t + 6) k) → (true = true → g' (t + 6) 3 = drw w 5) → P (some (.int (nI (flw w)))) (E g' q) := H
    have e8 := hx.2.1.trans h8.1
    have e9 := hx.2.2.trans h9.1
    have big : drq w = false → wp (ev (d + 1)) P ri_drawnFlow 31 [some (.ref (t + 6)), some (.int (nI (vN w 6))), some (.int (nI (vN w 8))), some (.int (nI (vN w 9))), none] [] (E g q) := by
      intro hq
      have e1 : drw w = pu w 5 (drn w) := by
        unfold drw
        rw [hq, if_neg Bool.false_ne_true]
      have e2 : flw w = if dI (drn w) < nI (vN w 8) then vN w 6 / 2 else if dI (drn w) < nI (vN w 8 + vN w 9) then 2 * vN w 6 else vN w 6 := by
        unfold flw
        rw [hq, if_neg Bool.false_ne_true]
      have HH := H (upw g (t + 6) (pu (g (t + 6)) 3 (drn w))) (fun b hb => upw_o hb) (fun k hk => by rw [upw_s, pu_n hk]) fun _ => by rw [upw_s, pu_s, e1, pu_s]
      rw [e2] at HH
      rw [b_ri_drawnFlow_31]
      simp -implicitDefEqProofs (disch := first | assumption | omega) only [szS_0, szS_i, szS_r, szS_l, x_cons, x_goto, ob_some, kl_i, kl_r, kl_l, kl_n, push_n, push_s, pop_0, pop_i, pop_r, Int.reduceToNat, List.length_cons, List.length_nil, Nat.reduceAdd, Nat.reduceLeDiff, Nat.zero_add, true_and, nI_n0, nat_le, Nat.add_zero, rt_ri_drawnFlow, x_al0, x_call, x_getf, x_goto, x_iadd, x_iaload, x_icge, x_idiv, x_ifne, x_il1, x_il2, x_il3, x_il4, x_imul, x_iret, x_is1, x_is2, x_is3, x_is4, x_ldc]
      rw [s_cdraw hT hx.1]
      simp -implicitDefEqProofs (disch := first | assumption | omega) only [szS_0, szS_i, szS_r, szS_l, x_cons, x_goto, ob_some, kl_i, kl_r, kl_l, kl_n, push_n, push_s, pop_0, pop_i, pop_r, Int.reduceToNat, List.length_cons, List.length_nil, Nat.reduceAdd, Nat.reduceLeDiff, Nat.zero_add, true_and, nI_n0, nat_le, Nat.add_zero, rt_ri_drawnFlow, x_al0, x_call, x_getf, x_goto, x_iadd, x_iaload, x_icge, x_idiv, x_ifne, x_il1, x_il2, x_il3, x_il4, x_imul, x_iret, x_is1, x_is2, x_is3, x_is4, x_ldc]
      by_cases ha : dI (drn w) < nI (vN w 8)
      · rw [if_pos ha] at HH
        rw [if_pos ha]
        simp -implicitDefEqProofs (disch := first | assumption | omega) only [szS_0, szS_i, szS_r, szS_l, x_cons, x_goto, ob_some, kl_i, kl_r, kl_l, kl_n, push_n, push_s, pop_0, pop_i, pop_r, Int.reduceToNat, List.length_cons, List.length_nil, Nat.reduceAdd, Nat.reduceLeDiff, Nat.zero_add, true_and, nI_n0, nat_le, Nat.add_zero, rt_ri_drawnFlow, x_al0, x_call, x_getf, x_goto, x_iadd, x_iaload, x_icge, x_idiv, x_ifne, x_il1, x_il2, x_il3, x_il4, x_imul, x_iret, x_is1, x_is2, x_is3, x_is4, x_ldc, nI_div]
        exact HH
      · rw [if_neg ha] at HH
        rw [if_neg ha]
        simp -implicitDefEqProofs (disch := first | assumption | omega) only [b_ri_drawnFlow_50, szS_0, szS_i, szS_r, szS_l, x_cons, x_goto, ob_some, kl_i, kl_r, kl_l, kl_n, push_n, push_s, pop_0, pop_i, pop_r, Int.reduceToNat, List.length_cons, List.length_nil, Nat.reduceAdd, Nat.reduceLeDiff, Nat.zero_add, true_and, nI_n0, nat_le, Nat.add_zero, rt_ri_drawnFlow, x_al0, x_call, x_getf, x_goto, x_iadd, x_iaload, x_icge, x_idiv, x_ifne, x_il1, x_il2, x_il3, x_il4, x_imul, x_iret, x_is1, x_is2, x_is3, x_is4, x_ldc, nI_add]
        by_cases hb : dI (drn w) < nI (vN w 8 + vN w 9)
        · rw [if_pos hb] at HH
          rw [if_pos hb]
          simp -implicitDefEqProofs (disch := first | assumption | omega) only [szS_0, szS_i, szS_r, szS_l, x_cons, x_goto, ob_some, kl_i, kl_r, kl_l, kl_n, push_n, push_s, pop_0, pop_i, pop_r, Int.reduceToNat, List.length_cons, List.length_nil, Nat.reduceAdd, Nat.reduceLeDiff, Nat.zero_add, true_and, nI_n0, nat_le, Nat.add_zero, rt_ri_drawnFlow, x_al0, x_call, x_getf, x_goto, x_iadd, x_iaload, x_icge, x_idiv, x_ifne, x_il1, x_il2, x_il3, x_il4, x_imul, x_iret, x_is1, x_is2, x_is3, x_is4, x_ldc, nI_mul, b_ri_drawnFlow_65]
          exact HH
        · rw [if_neg hb] at HH
          rw [if_neg hb]
          simp -implicitDefEqProofs (disch := first | assumption | omega) only [b_ri_drawnFlow_64, b_ri_drawnFlow_65, szS_0, szS_i, szS_r, szS_l, x_cons, x_goto, ob_some, kl_i, kl_r, kl_l, kl_n, push_n, push_s, pop_0, pop_i, pop_r, Int.reduceToNat, List.length_cons, List.length_nil, Nat.reduceAdd, Nat.reduceLeDiff, Nat.zero_add, true_and, nI_n0, nat_le, Nat.add_zero, rt_ri_drawnFlow, x_al0, x_call, x_getf, x_goto, x_iadd, x_iaload, x_icge, x_idiv, x_ifne, x_il1, x_il2, x_il3, x_il4, x_imul, x_iret, x_is1, x_is2, x_is3, x_is4, x_ldc]
          exact HH
    rw [b_ri_drawnFlow_0]
    simp -implicitDefEqProofs (disch := first | assumption | omega) only [szS_0, szS_i, szS_r, szS_l, x_cons, x_goto, ob_some, kl_i, kl_r, kl_l, kl_n, push_n, push_s, pop_0, pop_i, pop_r, Int.reduceToNat, List.length_cons, List.length_nil, Nat.reduceAdd, Nat.reduceLeDiff, Nat.zero_add, true_and, nI_n0, nat_le, Nat.add_zero, rt_ri_drawnFlow, x_al0, x_call, x_getf, x_goto, x_iadd, x_iaload, x_icge, x_idiv, x_ifne, x_il1, x_il2, x_il3, x_il4, x_imul, x_iret, x_is1, x_is2, x_is3, x_is4, x_ldc, tf_6_0, tf_6_1, tf_6_2, tf_6_3, tf_6_4, tf_6_5, tf_6_6, tf_6_7, tf_6_8, tf_6_9, tf_6_10, ts_6_0, ts_6_1, ts_6_2, ts_6_3, ts_6_4, tl_7, td_7, h0, e8, e9, nI_eqE]
    by_cases h80 : vN w 8 = 0
    · rw [if_pos h80]
      by_cases h90 : vN w 9 = 0
      · have hq : drq w = true := decide_eq_true ⟨h80, h90⟩
        have e1 : drw w = w := if_pos hq
        have e2 : flw w = vN w 6 := if_pos hq
        rw [if_pos h90, ← e2]
        exact H g (fun _ _ => rfl) (fun _ _ => rfl) fun _ => by rw [e1]; exact hx.1
      · rw [if_neg h90]
        exact big (decide_eq_false fun h => h90 h.2)
    · rw [if_neg h80]
      exact big (decide_eq_false fun h => h80 h.1)
theorem pd_lp (hT : t = 1 ∨ t = 31 ∨ t = 61) (hw : WI w) {V M : LW} {bk : Bool} {g0 : Nat → Nat → Int32} (hL : CL t g0 V M) (H : ∀ g', (∀ b, b ≠ 179 → b ≠ 180 → b ≠ 181 → b ≠ t + 24 → (b < t + 6 ∨ t + 20 < b) → b ≠ t + 29 → g' b = g0 b) → g' (t + 6) 3 = g0 (t + 6) 3 → g' (t + 7) = g0 (t + 7) → Tc t (evXS V w (nn w)) g' → bkT bk t (evXS V w (nn w)) g' → wp (ev (d + 5)) P ri_passDay 78 [some (.ref 174), some (.ref t), some (.int (nI (nn w)))] [] (E g' q)) :
    ∀ (j n : Nat) (g : Nat → Nat → Int32), n + j = nn w → (∀ b, b ≠ 179 → b ≠ 180 → b ≠ 181 → b ≠ t + 24 → (b < t + 6 ∨ t + 20 < b) → b ≠ t + 29 → g b = g0 b) → g (t + 6) 3 = g0 (t + 6) 3 → g (t + 7) = g0 (t + 7) → Tc t (evXS V w n) g → bkT bk t (evXS V w n) g →
    wp (ev (d + 5)) P ri_passDay 43 [some (.ref 174), some (.ref t), some (.int (nI n))] [] (E g q) := by
  have h0 := wi_n hw
  intro j
  induction j with
  | zero =>
    intro n g hn hr h3 h7 hc hb
    have hn : n = nn w := hn
    have hS := evS_wi hw (V := V) n (by omega)
    have hX : WI (evXS V w n) ∧ stc w (evXS V w n) := by
      rw [evXS_e hw n (by omega)]
      exact ⟨wi_4 hS.1, stc_t hS.2 agv_4.1⟩
    have hN := wi_n hX.1
    have e1 : g (t + 1) 0 = nI (nn w) := by rw [tc_n hc, hN.1, stc_nn hX.2]
    rw [hn] at hc hb
    rw [b_ri_passDay_43]
    simp -implicitDefEqProofs (disch := first | assumption | omega) only [szS_0, szS_i, szS_r, szS_l, x_cons, x_goto, ob_some, kl_i, kl_r, kl_l, kl_n, push_n, push_s, pop_0, pop_i, pop_r, Int.reduceToNat, List.length_cons, List.length_nil, Nat.reduceAdd, Nat.reduceLeDiff, Nat.zero_add, true_and, nI_n0, nat_le, Nat.add_zero, i_1, rt_ri_passDay, x_al0, x_al1, x_call, x_dupi, x_dupr, x_getf, x_goto, x_iadd, x_iaload, x_icge, x_ifne, x_il2, x_inc2, x_is2, x_ldc, x_putf, x_vret, tf_0_0, tf_0_1, tf_0_2, tf_0_3, tf_0_4, tf_1_0, tf_1_1, tf_1_2, tf_1_3, tf_1_4, ts_1_0, e1, hn, nI_ltE, Nat.lt_irrefl, ↓reduceIte]
    exact H g hr h3 h7 hc hb
  | succ j ih =>
    intro n g hn hr h3 h7 hc hb
    have hn' : n < nn w := by omega
    have hn16 : n < 16 := by omega
    have hS := evS_wi hw (V := V) n (by omega)
    have hX : WI (evXS V w n) ∧ stc w (evXS V w n) := by
      rw [evXS_e hw n (by omega)]
      exact ⟨wi_4 hS.1, stc_t hS.2 agv_4.1⟩
    have hN := wi_n hX.1
    have e1 : g (t + 1) 0 = nI (nn w) := by rw [tc_n hc, hN.1, stc_nn hX.2]
    have hz := wi_0 hX.1 hn16
    have es : fd (evXS V w n) n 0 = fd w n 0 := stc_fd hX.2 hn16 (by decide)
    have e2 : g (t + 2) n = nI (fd w n 0) := by rw [tc_so hc hn16, hz.1, es]
    have hz2 := (wi_0 hw hn16).2
    have eS : evXS V w (n + 1) = if fd w n 0 = 0 then evX V (evXS V w n) n else evXS V w n := rfl
    rw [b_ri_passDay_43]
    simp -implicitDefEqProofs (disch := first | assumption | omega) only [szS_0, szS_i, szS_r, szS_l, x_cons, x_goto, ob_some, kl_i, kl_r, kl_l, kl_n, push_n, push_s, pop_0, pop_i, pop_r, Int.reduceToNat, List.length_cons, List.length_nil, Nat.reduceAdd, Nat.reduceLeDiff, Nat.zero_add, true_and, nI_n0, nat_le, Nat.add_zero, i_1, rt_ri_passDay, x_al0, x_al1, x_call, x_dupi, x_dupr, x_getf, x_goto, x_iadd, x_iaload, x_icge, x_ifne, x_il2, x_inc2, x_is2, x_ldc, x_putf, x_vret, tf_0_0, tf_0_1, tf_0_2, tf_0_3, tf_0_4, tf_1_0, tf_1_1, tf_1_2, tf_1_3, tf_1_4, ts_1_0, tl_2, td_2, e1, e2, nI_ltE, hn', ↓reduceIte, nI_eqE]
    by_cases e : fd w n 0 = 0
    · have hLg : CL t g V M := CL_c hL fun a a1 a2 a3 => hr a (by omega) (by omega) (by omega) a3 (by omega) (by omega)
      rw [if_pos e] at eS
      rw [if_pos e]
      try simp -implicitDefEqProofs (disch := first | assumption | omega) only [szS_0, szS_i, szS_r, szS_l, x_cons, x_goto, ob_some, kl_i, kl_r, kl_l, kl_n, push_n, push_s, pop_0, pop_i, pop_r, Int.reduceToNat, List.length_cons, List.length_nil, Nat.reduceAdd, Nat.reduceLeDiff, Nat.zero_add, true_and, nI_n0, nat_le, Nat.add_zero, i_1, rt_ri_passDay, x_al0, x_al1, x_call, x_dupi, x_dupr, x_getf, x_goto, x_iadd, x_iaload, x_icge, x_ifne, x_il2, x_inc2, x_is2, x_ldc, x_putf, x_vret]
      refine s_holdVote hT hX.1 hc hLg hb (by rw [stc_nn hX.2]; exact hn') (by rw [es]; exact e) fun g1 f1 hc1 hb1 => ?_
      simp -implicitDefEqProofs (disch := first | assumption | omega) only [szS_0, szS_i, szS_r, szS_l, x_cons, x_goto, ob_some, kl_i, kl_r, kl_l, kl_n, push_n, push_s, pop_0, pop_i, pop_r, Int.reduceToNat, List.length_cons, List.length_nil, Nat.reduceAdd, Nat.reduceLeDiff, Nat.zero_add, true_and, nI_n0, nat_le, Nat.add_zero, i_1, rt_ri_passDay, x_al0, x_al1, x_call, x_dupi, x_dupr, x_getf, x_goto, x_iadd, x_iaload, x_icge, x_ifne, x_il2, x_inc2, x_is2, x_ldc, x_putf, x_vret, b_ri_passDay_72, nI_add]
      refine ih (n + 1) g1 (by omega) (fun b a1 a2 a3 a4 a5 a6 => by rw [f1.1 b a1 a2 a3 a4 (by omega) (by omega) (by omega) (by omega) (by omega) (by omega) a6, hr b a1 a2 a3 a4 a5 a6]) (by rw [f1.2, h3]) (by rw [f1.1 _ (by omega) (by omega) (by omega) (by omega) (by omega) (by omega) (by omega) (by omega) (by omega) (by omega) (by omega), h7]) (by rw [eS]; exact hc1) (by rw [eS]; exact hb1)
    · rw [if_neg e] at eS
      rw [if_neg e]
      simp -implicitDefEqProofs (disch := first | assumption | omega) only [b_ri_passDay_72, szS_0, szS_i, szS_r, szS_l, x_cons, x_goto, ob_some, kl_i, kl_r, kl_l, kl_n, push_n, push_s, pop_0, pop_i, pop_r, Int.reduceToNat, List.length_cons, List.length_nil, Nat.reduceAdd, Nat.reduceLeDiff, Nat.zero_add, true_and, nI_n0, nat_le, Nat.add_zero, i_1, rt_ri_passDay, x_al0, x_al1, x_call, x_dupi, x_dupr, x_getf, x_goto, x_iadd, x_iaload, x_icge, x_ifne, x_il2, x_inc2, x_is2, x_ldc, x_putf, x_vret, nI_add]
      exact ih (n + 1) g (by omega) hr h3 h7 (by rw [eS]; exact hc) (by rw [eS]; exact hb)
theorem s_passDay (hT : t = 1 ∨ t = 31 ∨ t = 61) (hw : WI w) (hc : Tc t w g) {V M : LW} (hL : CL t g V M) {bk : Bool} (hx : Tx bk t w g) (H : ∀ g', fD t g g' → Tc t (dyB V M bk w) g' → CL t g' V M → Tx bk t (dyB V M bk w) g' → P none (E g' q)) :
    callC (ev (d + 6)) ri_passDay [.ref 174, .ref t] (E g q) P := by
  refine in_ri_passDay rfl ?_
  have hN := wi_n hw
  have hwd := drB_wi hw (bk := bk)
  have hfl := flB_l hw (bk := bk)
  rw [b_ri_passDay_0]
  simp -implicitDefEqProofs (disch := first | assumption | omega) only [szS_0, szS_i, szS_r, szS_l, x_cons, x_goto, ob_some, kl_i, kl_r, kl_l, kl_n, push_n, push_s, pop_0, pop_i, pop_r, Int.reduceToNat, List.length_cons, List.length_nil, Nat.reduceAdd, Nat.reduceLeDiff, Nat.zero_add, true_and, nI_n0, nat_le, Nat.add_zero, i_1, rt_ri_passDay, x_al0, x_al1, x_call, x_dupi, x_dupr, x_getf, x_goto, x_iadd, x_iaload, x_icge, x_ifne, x_il2, x_inc2, x_is2, x_ldc, x_putf, x_vret, fd_174_0, fd_174_1, fd_174_2, fd_174_3, tf_0_0, tf_0_1, tf_0_2, tf_0_3, tf_0_4, tf_6_0, tf_6_1, tf_6_2, tf_6_3, tf_6_4, tf_6_5, tf_6_6, tf_6_7, tf_6_8, tf_6_9, tf_6_10, ts_6_0, ts_6_1, ts_6_2, ts_6_3, ts_6_4]
  refine s_cflow hT hw (bk := bk) hc.1.2.2.2.2.1 hx.2 fun g1 o1 k1 d1 => ?_
  have c1 : Tc t (drB bk w) g1 := Tc_g (Tc_w hw hc fun k _ h5 _ _ _ => drB_o h5) (fun a a1 a2 a3 => o1 a a3) fun k hk => k1 k (by omega)
  simp -implicitDefEqProofs (disch := first | assumption | omega) only [szS_0, szS_i, szS_r, szS_l, x_cons, x_goto, ob_some, kl_i, kl_r, kl_l, kl_n, push_n, push_s, pop_0, pop_i, pop_r, Int.reduceToNat, List.length_cons, List.length_nil, Nat.reduceAdd, Nat.reduceLeDiff, Nat.zero_add, true_and, nI_n0, nat_le, Nat.add_zero, i_1, rt_ri_passDay, x_al0, x_al1, x_call, x_dupi, x_dupr, x_getf, x_goto, x_iadd, x_iaload, x_icge, x_ifne, x_il2, x_inc2, x_is2, x_ldc, x_putf, x_vret]
  refine s_waRun hT (x := 175) (Or.inl rfl) hwd c1 (op := fun n => fd (drB bk w) n 5) (tk_17 hT) (by omega) (by omega) (fun n hn hs => by
    have hN := wi_n hwd
    rw [(tc_f c1 hn hs).1]
    exact (wi_x hwd (by omega)).1.1) (opO_w hwd) hfl fun g2 o2 W2 => ?_
  have c2 : Tc t (drB bk w) g2 := Tc_c c1 fun a a1 a2 => o2 a (by omega) (by omega) (by omega) (by omega)
  simp -implicitDefEqProofs (disch := first | assumption | omega) only [szS_0, szS_i, szS_r, szS_l, x_cons, x_goto, ob_some, kl_i, kl_r, kl_l, kl_n, push_n, push_s, pop_0, pop_i, pop_r, Int.reduceToNat, List.length_cons, List.length_nil, Nat.reduceAdd, Nat.reduceLeDiff, Nat.zero_add, true_and, nI_n0, nat_le, Nat.add_zero, i_1, rt_ri_passDay, x_al0, x_al1, x_call, x_dupi, x_dupr, x_getf, x_goto, x_iadd, x_iaload, x_icge, x_ifne, x_il2, x_inc2, x_is2, x_ldc, x_putf, x_vret, tf_0_0, tf_0_1, tf_0_2, tf_0_3, tf_0_4]
  refine s_takeWater hT hwd hfl c2 W2 fun g3 f3 c3 => ?_
  have hw1 := flR_wi hwd hfl
  have hN1 := wi_n hw1
  obtain ⟨w1, hw1e⟩ : ∃ w1, w1 = flR (drB bk w) (flB bk w) := ⟨_, rfl⟩
  have q1 : ∀ k, k ≠ 3 → (k < 22 ∨ 330 ≤ k) → (k < 340 ∨ 596 ≤ k) → w1 k = drB bk w k := fun k a1 a2 a3 => by rw [hw1e]; exact flR_o hwd a1 a2 a3
  rw [← hw1e] at hw1 hN1 c3
  have b3 : bkT bk t w1 g3 := bkT_c hx.1 (by rw [q1 2 (by decide) (by omega) (by omega), drB_o (by decide)]) (fun k hk => by rw [q1 _ (by omega) (by omega) (by omega), drB_o (by omega)]) (by rw [f3.2.2.1, o2 _ (by omega) (by omega) (by omega) (by omega), k1 4 (by decide)]) (by rw [f3.1 _ (by omega), o2 _ (by omega) (by omega) (by omega) (by omega), o1 _ (by omega)])
  have hL3 : CL t g3 V M := CL_c hL fun a a1 a2 a3 => by rw [f3.1 a (by omega), o2 a (by omega) (by omega) (by omega) (by omega), o1 a (by omega)]
  simp -implicitDefEqProofs (disch := first | assumption | omega) only [szS_0, szS_i, szS_r, szS_l, x_cons, x_goto, ob_some, kl_i, kl_r, kl_l, kl_n, push_n, push_s, pop_0, pop_i, pop_r, Int.reduceToNat, List.length_cons, List.length_nil, Nat.reduceAdd, Nat.reduceLeDiff, Nat.zero_add, true_and, nI_n0, nat_le, Nat.add_zero, i_1, rt_ri_passDay, x_al0, x_al1, x_call, x_dupi, x_dupr, x_getf, x_goto, x_iadd, x_iaload, x_icge, x_ifne, x_il2, x_inc2, x_is2, x_ldc, x_putf, x_vret]
  refine pd_lp hT hw1 (bk := bk) (g0 := g3) hL3 (fun g4 o4 e43 e47 c4 b4 => ?_) (nn w1) 0 g3 (Nat.zero_add _) (fun _ _ _ _ _ _ _ => rfl) rfl rfl c3 b3
  have hS := evS_wi hw1 (V := V) (nn w1) (Nat.le_refl _)
  have hX : WI (evXS V w1 (nn w1)) := by
    rw [evXS_e hw1 _ (Nat.le_refl _)]
    exact wi_4 hS.1
  have hL4 : CL t g4 V M := CL_c hL3 fun a a1 a2 a3 => o4 a (by omega) (by omega) (by omega) a3 (by omega) (by omega)
  rw [b_ri_passDay_78]
  simp -implicitDefEqProofs (disch := first | assumption | omega) only [szS_0, szS_i, szS_r, szS_l, x_cons, x_goto, ob_some, kl_i, kl_r, kl_l, kl_n, push_n, push_s, pop_0, pop_i, pop_r, Int.reduceToNat, List.length_cons, List.length_nil, Nat.reduceAdd, Nat.reduceLeDiff, Nat.zero_add, true_and, nI_n0, nat_le, Nat.add_zero, i_1, rt_ri_passDay, x_al0, x_al1, x_call, x_dupi, x_dupr, x_getf, x_goto, x_iadd, x_iaload, x_icge, x_ifne, x_il2, x_inc2, x_is2, x_ldc, x_putf, x_vret]
  refine s_moveAway hT hX c4 hL4 fun g5 o5 c5 => ?_
  have eA : alR M (evXS V w1 (nn w1)) = alR M (ev4 V w1) := by rw [ev4_x hw1]
  rw [eA] at c5
  have hwA := (alR_wi (M := M) (ev4_wi hw1 (V := V))).1
  have day5 : g5 (t + 6) 0 = alR M (ev4 V w1) 1 := c5.1.2.1
  simp -implicitDefEqProofs (disch := first | assumption | omega) only [szS_0, szS_i, szS_r, szS_l, x_cons, x_goto, ob_some, kl_i, kl_r, kl_l, kl_n, push_n, push_s, pop_0, pop_i, pop_r, Int.reduceToNat, List.length_cons, List.length_nil, Nat.reduceAdd, Nat.reduceLeDiff, Nat.zero_add, true_and, nI_n0, nat_le, Nat.add_zero, i_1, rt_ri_passDay, x_al0, x_al1, x_call, x_dupi, x_dupr, x_getf, x_goto, x_iadd, x_iaload, x_icge, x_ifne, x_il2, x_inc2, x_is2, x_ldc, x_putf, x_vret, tf_0_0, tf_0_1, tf_0_2, tf_0_3, tf_0_4, tf_6_0, tf_6_1, tf_6_2, tf_6_3, tf_6_4, tf_6_5, tf_6_6, tf_6_7, tf_6_8, tf_6_9, tf_6_10, ts_6_0, ts_6_1, ts_6_2, ts_6_3, ts_6_4, day5, pu_g]
  have eD : dyB V M bk w = pu (alR M (ev4 V w1)) 1 (alR M (ev4 V w1) 1 + nI 1) := by
    rw [dyB_e, hw1e]
    rfl
  have DO : ∀ k, k ≠ 1 → k ≠ 3 → k ≠ 4 → k ≠ 2 → (k < 10 ∨ 330 ≤ k) → (k < 340 ∨ (596 ≤ k ∧ k < 600) ∨ 1200 ≤ k) → dyB V M bk w k = drB bk w k := fun k a1 a2 a3 a4 a5 a6 => by rw [dyB_e]; exact dyR_o hwd hfl a1 a2 a3 a4 a5 a6
  refine H _ (fun b a1 a2 => ?_) ?_ ?_ ⟨?_, ?_⟩
  · rw [upw_o (by omega), o5 b (by omega) (by omega) (by omega), o4 b (by omega) (by omega) (by omega) (by omega) (by omega) (by omega), f3.1 b (by omega), o2 b (by omega) (by omega) (by omega) (by omega), o1 b (by omega)]
  · rw [eD]
    obtain ⟨a1, a2, a3, a4, a5, a6, a7⟩ := c5
    have hst : stc (alR M (ev4 V w1)) (pu (alR M (ev4 V w1)) 1 (alR M (ev4 V w1) 1 + nI 1)) := ⟨pu_n (by decide), fun n f _ _ => pu_n (by omega)⟩
    have hNA := wi_n hwA
    refine ⟨⟨?_, ?_, ?_, ?_, ?_, ?_⟩, fun n hn => ?_, fun n a hn ha => ?_, fun s m hs hm => ?_, fun n hn hs => ?_, fun n hn => ?_, fun k hk => ?_⟩
    · rw [upw_o (by omega), pu_n (by decide)]; exact a1.1
    · rw [upw_s, pu_s, pu_s]
    · rw [upw_s, pu_n (by decide), pu_n (by decide)]; exact a1.2.2.1
    · rw [upw_s, pu_n (by decide), pu_n (by decide)]; exact a1.2.2.2.1
    · rw [upw_o (by omega), pu_n (by decide)]; exact a1.2.2.2.2.1
    · rw [upw_o (by omega), pu_n (by decide)]; exact a1.2.2.2.2.2
    · rw [upw_o (by omega), upw_o (by omega), pu_n (by omega), pu_n (by omega)]; exact a2 n hn
    · rw [upw_o (by omega), pu_n (by omega)]; exact a3 n a hn ha
    · rw [stc_nn hst] at hs
      rw [upw_o (by omega), stc_far hwA hst (by omega)]; exact a4 s m hs hm
    · rw [stc_nn hst] at hn
      rw [stc_fd hst (by omega) (by decide)] at hs
      rw [upw_o (by omega), upw_o (by omega), upw_o (by omega), pu_n (by omega), pu_n (by omega)]
      exact ⟨(a5 n hn hs).1, (a5 n hn hs).2.1, fun a ha => by rw [pu_n (by omega)]; exact (a5 n hn hs).2.2 a ha⟩
    · rw [upw_o (by omega), upw_o (by omega), upw_o (by omega), upw_o (by omega), upw_o (by omega), upw_o (by omega), upw_o (by omega), upw_o (by omega), pu_n (by omega), pu_n (by omega), pu_n (by omega), pu_n (by omega), pu_n (by omega), pu_n (by omega), pu_n (by omega), pu_n (by omega)]
      exact a6 n hn
    · rw [upw_o (by omega), pu_n (by omega)]; exact a7 k hk
  · exact CL_c hL4 fun a a1 a2 a3 => by rw [upw_o (by omega), o5 a (by omega) (by omega) (by omega)]
  · have hA : ∀ k, k < 20 ∨ 330 ≤ k → alR M (ev4 V w1) k = ev4 V w1 k := fun k hk => alR_o (ev4_wi hw1) hk
    refine bkT_c b4 ?_ (fun k hk => ?_) ?_ ?_
    · rw [eD, pu_n (by decide), hA 2 (by omega), ev4_x hw1]
    · rw [eD, pu_n (by omega), hA _ (by omega), ev4_x hw1]
    · rw [upw_s, pu_n (by decide), o5 _ (by omega) (by omega) (by omega)]
    · rw [upw_o (by omega), o5 _ (by omega) (by omega) (by omega)]
  · have e3 : upw g5 (t + 6) (pu (g5 (t + 6)) 0 (alR M (ev4 V w1) 1 + nI 1)) (t + 6) 3 = g1 (t + 6) 3 := by
      rw [upw_s, pu_n (by decide), o5 _ (by omega) (by omega) (by omega), e43, f3.2.1, o2 _ (by omega) (by omega) (by omega) (by omega)]
    have e7 : upw g5 (t + 6) (pu (g5 (t + 6)) 0 (alR M (ev4 V w1) 1 + nI 1)) (t + 7) = g (t + 7) := by
      rw [upw_o (by omega), o5 _ (by omega) (by omega) (by omega), e47, f3.2.2.2, o2 _ (by omega) (by omega) (by omega) (by omega), o1 _ (by omega)]
    have hx2 := hx.2
    cases bk
    · rw [e7]
      exact hx2
    · rw [e3, e7, DO 5 (by decide) (by decide) (by decide) (by decide) (by omega) (by omega), DO 8 (by decide) (by decide) (by decide) (by decide) (by omega) (by omega), DO 9 (by decide) (by decide) (by decide) (by decide) (by omega) (by omega)]
      have hx2 : g (t + 6) 3 = w 5 ∧ g (t + 7) 2 = w 8 ∧ g (t + 7) 3 = w 9 := hx2
      exact ⟨d1 rfl, by rw [drB_o (by decide)]; exact hx2.2.1, by rw [drB_o (by decide)]; exact hx2.2.2⟩
end CP
