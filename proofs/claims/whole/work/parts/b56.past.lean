/-! the class's days told, days undone -/
/-- a State holds a row's changing part -/
def Sc (s : Nat) (w : Nat → Int32) (g : Nat → Nat → Int32) : Prop :=
  (g s 0 = w 1 ∧ g s 1 = w 4 ∧ g s 2 = w 3 ∧ g s 3 = w 5 ∧ g s 4 = w 2) ∧ (∀ k, k < 4 → g (s + 1) k = w (6 + k)) ∧
  (∀ n, n < nn w → fd w n 0 = 0 → g (s + 11) n = w (10 + 20 * n + 5) ∧ g (s + 12) n = w (10 + 20 * n + 6) ∧ ∀ a, a < 3 → g (s + 13) (n * 3 + a) = w (10 + 20 * n + (7 + a))) ∧
  (∀ i m, i < 8 → m < 16 → g (s + 3 + i) m = w (10 + 20 * m + tfd i)) ∧ (∀ k, k < 256 → g (s + 14) k = w (340 + k))
theorem sc_of {t : Nat} {w : Nat → Int32} {g : Nat → Nat → Int32} (h : Tc t w g) (hx : Tx true t w g) : Sc (t + 6) w g := by
  have h1 : g (t + 6) 4 = w 2 ∧ ∀ k, k < 600 → g (t + 29) k = w (600 + k) := hx.1
  have h2 : g (t + 6) 3 = w 5 ∧ g (t + 7) 2 = w 8 ∧ g (t + 7) 3 = w 9 := hx.2
  refine ⟨⟨h.1.2.1, h.1.2.2.1, h.1.2.2.2.1, h2.1, h1.1⟩, fun k hk => ?_, fun n hn hs => tc_f h hn hs, fun i m hi hm => tc_v h hi hm, fun k hk => h.2.2.2.2.2.2 k hk⟩
  have hk4 : k = 0 ∨ k = 1 ∨ k = 2 ∨ k = 3 := by omega
  rcases hk4 with rfl | rfl | rfl | rfl
  · exact h.1.2.2.2.2.1
  · exact h.1.2.2.2.2.2
  · exact h2.2.1
  · exact h2.2.2
theorem sc_cp {s s' : Nat} {w : Nat → Int32} {g g' : Nat → Nat → Int32} (hw : WI w) (h : cqS s s' g g') (hc : Sc s' w g) : Sc s w g' := by
  obtain ⟨b0, b1, b2, b3, b4, b5, b6⟩ := h
  obtain ⟨c1, c2, c3, c4, c5⟩ := hc
  have h0 := wi_n hw
  refine ⟨⟨by rw [b0 0 (by decide)]; exact c1.1, by rw [b0 1 (by decide)]; exact c1.2.1, by rw [b0 2 (by decide)]; exact c1.2.2.1, by rw [b0 3 (by decide)]; exact c1.2.2.2.1, by rw [b0 4 (by decide)]; exact c1.2.2.2.2⟩, fun k hk => by rw [b1 k hk]; exact c2 k hk, fun n hn hs => ?_, fun i m hi hm => by rw [b2 i m hi hm]; exact c4 i m hi hm, fun k hk => by rw [b6 k hk]; exact c5 k hk⟩
  have := c3 n hn hs
  rw [b3 n (by omega), b4 n (by omega)]
  exact ⟨this.1, this.2.1, fun a ha => by rw [b5 _ (by omega)]; exact this.2.2 a ha⟩
theorem sc_c {s : Nat} {w : Nat → Int32} {g g' : Nat → Nat → Int32} (h : Sc s w g) (e : ∀ b, s ≤ b → b < s + 15 → g' b = g b) : Sc s w g' := by
  obtain ⟨c1, c2, c3, c4, c5⟩ := h
  refine ⟨by rw [e s (by omega) (by omega)]; exact c1, by rw [e (s + 1) (by omega) (by omega)]; exact c2, ?_, fun i m hi hm => by rw [e (s + 3 + i) (by omega) (by omega)]; exact c4 i m hi hm, by rw [e (s + 14) (by omega) (by omega)]; exact c5⟩
  rw [e (s + 11) (by omega) (by omega), e (s + 12) (by omega) (by omega), e (s + 13) (by omega) (by omega)]
  exact c3
theorem mrg_l {r w : Nat → Int32} {k : Nat} (h : k < 596) : mrg r w k = r k := if_pos h
theorem mrg_g {r w : Nat → Int32} {k : Nat} (h : 596 ≤ k) : mrg r w k = w k := if_neg (by omega)
theorem mrg_st {r w : Nat → Int32} : stc r (mrg r w) := ⟨mrg_l (by decide), fun n f hn hf => mrg_l (by omega)⟩
theorem mrg_wi {r w : Nat → Int32} (h : WI r) : WI (mrg r w) := WI_c h fun k hk => mrg_l (by omega)
/-- what the class's ring holds -/
def rgK (pl : PL) (g : Nat → Nat → Int32) : Prop := ∃ nx, nx < 5 ∧ g 91 2 = nI nx ∧ g 91 1 = nI pl.length ∧ pl.length ≤ 5 ∧ ∀ i r, pl[i]? = some r → WI r ∧ Sc (93 + 15 * ((nx + 4 - i) % 5)) r g
theorem rgK_c {pl : PL} {g g' : Nat → Nat → Int32} (h : rgK pl g) (e : ∀ b, 91 ≤ b → b < 168 → g' b = g b) : rgK pl g' := by
  obtain ⟨nx, h1, h2, h3, h4, h5⟩ := h
  refine ⟨nx, h1, by rw [e 91 (by decide) (by decide)]; exact h2, by rw [e 91 (by decide) (by decide)]; exact h3, h4, fun i r hr => ⟨(h5 i r hr).1, sc_c (h5 i r hr).2 fun b b1 b2 => e b (by omega) (by omega)⟩⟩
section CR
variable {d : Nat} {g : Nat → Nat → Int32} {q : Nat → Nat → Int64} {P : QT} {w : Nat → Int32}
theorem r92 {n : Nat} (h : n < 5) : rld (E g q) 92 (nI n) = some (.ref (93 + 15 * n)) := by
  have h : n = 0 ∨ n = 1 ∨ n = 2 ∨ n = 3 ∨ n = 4 := by omega
  rcases h with rfl | rfl | rfl | rfl | rfl
  · exact ld_92_0
  · exact ld_92_1
  · exact ld_92_2
  · exact ld_92_3
  · exact ld_92_4
theorem s_forget : callC (ev (d + 1)) ps_forget [.ref 91] (E g q) P = P none (E (upw g 91 (pu (pu (g 91) 1 (nI 0)) 2 (nI 0))) q) := by
  refine call_eq (in_ps_forget rfl ?_)
  rw [b_ps_forget_0]
  simp -implicitDefEqProofs (disch := first | assumption | omega) only [szS_0, szS_i, szS_r, szS_l, x_cons, x_goto, ob_some, kl_i, kl_r, kl_l, kl_n, push_n, push_s, pop_0, pop_i, pop_r, Int.reduceToNat, List.length_cons, List.length_nil, Nat.reduceAdd, Nat.reduceLeDiff, Nat.zero_add, true_and, nI_n0, nat_le, Nat.add_zero, rt_ps_forget, x_al0, x_ldc, x_putf, x_vret, fd_91_0, fd_91_1, sf_91_1, fd_91_2, sf_91_2, pu_g, pu_w, upw_s, upw_w, pu_s]
  all_goals first | rfl | exact ⟨rfl, rfl⟩ | exact ⟨rfl, trivial⟩ | exact ⟨trivial, rfl⟩ | trivial
theorem rgK_0 {r : Nat → Int32} (h1 : r 1 = nI 0) (h2 : r 2 = nI 0) : rgK [] (upw g 91 r) := ⟨0, by decide, by rw [upw_s]; exact h2, by rw [upw_s]; exact h1, by decide, fun i r hr => by
  rw [List.getElem?_nil] at hr
  cases hr⟩
theorem s_keep (hw : WI w) (hc : Sc 7 w g) {pl : PL} (hK : rgK pl g) (H : ∀ g', (∀ b, (b < 91 ∨ 168 ≤ b) → g' b = g b) → rgK (kpL w pl) g' → P none (E g' q)) : callC (ev (d + 3)) ps_keep [.ref 91, .ref 7] (E g q) P := by
  refine in_ps_keep rfl ?_
  obtain ⟨nx, h1, h2, h3, h4, h5⟩ := hK
  have hz := nI_ne (a := 5) (by decide) (by decide)
  rw [b_ps_keep_0]
  simp -implicitDefEqProofs (disch := first | assumption | omega) only [szS_0, szS_i, szS_r, szS_l, x_cons, x_goto, ob_some, kl_i, kl_r, kl_l, kl_n, push_n, push_s, pop_0, pop_i, pop_r, Int.reduceToNat, List.length_cons, List.length_nil, Nat.reduceAdd, Nat.reduceLeDiff, Nat.zero_add, true_and, nI_n0, nat_le, Nat.add_zero, rt_ps_keep, x_aaload, x_al0, x_al1, x_call, x_getf, x_iadd, x_irem, x_ldc, x_putf, x_vret, fd_91_0, fd_91_1, sf_91_1, fd_91_2, sf_91_2, h2, r92]
  refine s_scopy (s := 93 + 15 * nx) (s' := 7) (by omega) (by decide) (by omega) fun g1 f1 c1 => ?_
  have e2 : g1 91 2 = nI nx := by rw [f1 _ (by omega)]; exact h2
  have e1 : g1 91 1 = nI pl.length := by rw [f1 _ (by omega)]; exact h3
  simp -implicitDefEqProofs (disch := first | assumption | omega) only [szS_0, szS_i, szS_r, szS_l, x_cons, x_goto, ob_some, kl_i, kl_r, kl_l, kl_n, push_n, push_s, pop_0, pop_i, pop_r, Int.reduceToNat, List.length_cons, List.length_nil, Nat.reduceAdd, Nat.reduceLeDiff, Nat.zero_add, true_and, nI_n0, nat_le, Nat.add_zero, rt_ps_keep, x_aaload, x_al0, x_al1, x_call, x_getf, x_iadd, x_irem, x_ldc, x_putf, x_vret, fd_91_0, fd_91_1, sf_91_1, fd_91_2, sf_91_2, e2, pu_g, pu_w, upw_s, nI_add, nI_mod, pu_n, e1, s_jmin, upw_w, pu_s]
  have k1 := sc_cp hw c1 hc
  have hl := kpL_l (w := w) h4
  refine H _ (fun b hb => by rw [upw_o (by omega)]; exact f1 b (by omega)) ⟨(nx + 1) % 5, Nat.mod_lt _ (by decide), ?_, ?_, ?_, fun i r hr => ?_⟩
  · rw [upw_s, pu_n (by decide), pu_s]
  · rw [upw_s, pu_s, hl]
    simp only [nI_ltE (a := 5) (b := pl.length + 1) (by decide) (by omega), nI_ite]
    refine congrArg nI ?_
    split <;> split <;> omega
  · rw [hl]
    split <;> omega
  · cases i with
    | zero =>
      have hr : some w = some r := hr
      cases hr
      refine ⟨hw, ?_⟩
      rw [show ((nx + 1) % 5 + 4 - 0) % 5 = nx by omega]
      exact sc_c k1 fun b b1 b2 => upw_o (by omega)
    | succ i =>
      have hr : (pl.take 4)[i]? = some r := hr
      have hi : i < 4 := by
        have := (List.getElem?_eq_some_iff.mp hr).1
        rw [List.length_take] at this
        omega
      rw [List.getElem?_take_of_lt hi] at hr
      have h6 := h5 i r hr
      refine ⟨h6.1, ?_⟩
      rw [show ((nx + 1) % 5 + 4 - (i + 1)) % 5 = (nx + 4 - i) % 5 by omega]
      refine sc_c h6.2 fun b b1 b2 => ?_
      rw [upw_o (by omega)]
      exact f1 b (by omega)
theorem s_goBack0 (hK : rgK [] g) : callC (ev (d + 3)) ps_goBack [.ref 91, .ref 7] (E g q) P = P (some (.int (nI 0))) (E g q) := by
  refine call_eq (in_ps_goBack rfl ?_)
  obtain ⟨nx, h1, h2, h3, -⟩ := hK
  have h3 : g 91 1 = nI 0 := h3
  rw [b_ps_goBack_0]
  simp -implicitDefEqProofs (disch := first | assumption | omega) only [szS_0, szS_i, szS_r, szS_l, x_cons, x_goto, ob_some, kl_i, kl_r, kl_l, kl_n, push_n, push_s, pop_0, pop_i, pop_r, Int.reduceToNat, List.length_cons, List.length_nil, Nat.reduceAdd, Nat.reduceLeDiff, Nat.zero_add, true_and, nI_n0, nat_le, Nat.add_zero, rt_ps_goBack_0, rt_ps_goBack_1, rt_ps_goBack_b, x_aaload, x_al0, x_al1, x_call, x_dupi, x_dupr, x_getf, x_iadd, x_ifne, x_irem, x_iret, x_isub, x_ldc, x_putf, fd_91_0, fd_91_1, sf_91_1, fd_91_2, sf_91_2, h3, ↓reduceIte, rt_ps_goBack_0]
  all_goals first | rfl | exact ⟨rfl, rfl⟩ | exact ⟨rfl, trivial⟩ | exact ⟨trivial, rfl⟩ | trivial
theorem s_goBack {r : Nat → Int32} {pl : PL} (hK : rgK (r :: pl) g) (H : ∀ g', (∀ b, b ≠ 91 → (b < 7 ∨ 22 ≤ b) → g' b = g b) → Sc 7 r g' → rgK pl g' → P (some (.int (nI 1))) (E g' q)) : callC (ev (d + 3)) ps_goBack [.ref 91, .ref 7] (E g q) P := by
  refine in_ps_goBack rfl ?_
  obtain ⟨nx, h1, h2, h3, h4, h5⟩ := hK
  rw [List.length_cons] at h3 h4
  have hz := nI_ne (a := 5) (by decide) (by decide)
  have hn0 : ¬ pl.length + 1 = 0 := by omega
  have hm : (nx + 5 - 1) % 5 < 5 := Nat.mod_lt _ (by decide)
  rw [b_ps_goBack_0]
  simp -implicitDefEqProofs (disch := first | assumption | omega) only [szS_0, szS_i, szS_r, szS_l, x_cons, x_goto, ob_some, kl_i, kl_r, kl_l, kl_n, push_n, push_s, pop_0, pop_i, pop_r, Int.reduceToNat, List.length_cons, List.length_nil, Nat.reduceAdd, Nat.reduceLeDiff, Nat.zero_add, true_and, nI_n0, nat_le, Nat.add_zero, rt_ps_goBack_0, rt_ps_goBack_1, rt_ps_goBack_b, x_aaload, x_al0, x_al1, x_call, x_dupi, x_dupr, x_getf, x_iadd, x_ifne, x_irem, x_iret, x_isub, x_ldc, x_putf, fd_91_0, fd_91_1, sf_91_1, fd_91_2, sf_91_2, h3, nI_eqE, hn0, ↓reduceIte, b_ps_goBack_9, h2, nI_add, nI_sub, nI_mod, pu_g, pu_w, upw_s, pu_n, pu_s, r92, upw_o, upw_w]
  refine s_scopy (s := 7) (s' := 93 + 15 * ((nx + 5 - 1) % 5)) (by decide) (by omega) (by omega) fun g1 f1 c1 => ?_
  simp -implicitDefEqProofs (disch := first | assumption | omega) only [szS_0, szS_i, szS_r, szS_l, x_cons, x_goto, ob_some, kl_i, kl_r, kl_l, kl_n, push_n, push_s, pop_0, pop_i, pop_r, Int.reduceToNat, List.length_cons, List.length_nil, Nat.reduceAdd, Nat.reduceLeDiff, Nat.zero_add, true_and, nI_n0, nat_le, Nat.add_zero, rt_ps_goBack_0, rt_ps_goBack_1, rt_ps_goBack_b, x_aaload, x_al0, x_al1, x_call, x_dupi, x_dupr, x_getf, x_iadd, x_ifne, x_irem, x_iret, x_isub, x_ldc, x_putf, rt_ps_goBack_1]
  have k0 := h5 0 r rfl
  have k1 : Sc (93 + 15 * ((nx + 5 - 1) % 5)) r _ := sc_c (g' := upw g 91 (pu (pu (g 91) 2 (nI ((nx + 5 - 1) % 5))) 1 (nI (pl.length + 1 - 1)))) (by
    have := k0.2
    rw [show (nx + 4 - 0) % 5 = (nx + 5 - 1) % 5 by omega] at this
    exact this) fun b b1 b2 => upw_o (by omega)
  refine H _ (fun b hb hb2 => by rw [f1 b (by omega), upw_o hb]) (sc_cp k0.1 c1 k1) ⟨(nx + 5 - 1) % 5, hm, ?_, ?_, by omega, fun i r' hr => ?_⟩
  · rw [f1 _ (by omega), upw_s, pu_n (by decide), pu_s]
  · rw [f1 _ (by omega), upw_s, pu_s, Nat.add_sub_cancel]
  · have h6 := h5 (i + 1) r' hr
    have hi := (List.getElem?_eq_some_iff.mp hr).1
    refine ⟨h6.1, ?_⟩
    rw [show ((nx + 5 - 1) % 5 + 4 - i) % 5 = (nx + 4 - (i + 1)) % 5 by omega]
    refine sc_c h6.2 fun b b1 b2 => ?_
    rw [f1 b (by omega), upw_o (by omega)]
/-- the row gone back to is tied -/
theorem tc_of {r : Nat → Int32} {g' : Nat → Nat → Int32} (hw : WI w) (hr : WI r) (hst : stc w r) (hc : Tc 1 w g) (hs : Sc 7 r g') (e : ∀ b, b < 7 → g' b = g b) : Tc 1 (mrg r w) g' := by
  obtain ⟨c1, c2, c3, c4, -⟩ := hc
  obtain ⟨s1, s2, s3, s4, s5⟩ := hs
  have hN := wi_n hr
  have h1 : stc w (mrg r w) := stc_t hst mrg_st
  have h2 : stc r (mrg r w) := mrg_st
  refine ⟨⟨?_, ?_, ?_, ?_, ?_, ?_⟩, fun n hn => ?_, fun n a hn ha => ?_, fun s m hs hm => ?_, fun n hn hs => ?_, fun n hn => ?_, fun k hk => ?_⟩
  · rw [e _ (by decide), mrg_l (by decide), hst.1]; exact c1.1
  · rw [mrg_l (by decide)]; exact s1.1
  · rw [mrg_l (by decide)]; exact s1.2.1
  · rw [mrg_l (by decide)]; exact s1.2.2.1
  · rw [mrg_l (by decide)]; exact s2 0 (by decide)
  · rw [mrg_l (by decide)]; exact s2 1 (by decide)
  · have := c2 n hn
    rw [e _ (by decide), e _ (by decide), mrg_l (by omega), mrg_l (by omega)]
    exact ⟨this.1.trans (hst.2 n 0 hn (by decide)).symm, this.2.trans (hst.2 n 1 hn (by decide)).symm⟩
  · rw [e _ (by decide), mrg_l (by omega), hst.2 n (2 + a) hn (by omega)]; exact c3 n a hn ha
  · rw [stc_nn h1] at hs
    have h0 := wi_n hw
    rw [e _ (by decide), stc_far hw h1 (by omega)]; exact c4 s m hs hm
  · rw [stc_nn h2] at hn
    rw [stc_fd h2 (by omega) (by decide)] at hs
    rw [mrg_l (by omega), mrg_l (by omega)]
    exact ⟨(s3 n hn hs).1, (s3 n hn hs).2.1, fun a ha => by rw [mrg_l (by omega)]; exact (s3 n hn hs).2.2 a ha⟩
  · rw [mrg_l (by omega), mrg_l (by omega), mrg_l (by omega), mrg_l (by omega), mrg_l (by omega), mrg_l (by omega), mrg_l (by omega), mrg_l (by omega)]
    exact ⟨s4 0 n (by decide) hn, s4 1 n (by decide) hn, s4 2 n (by decide) hn, s4 3 n (by decide) hn, s4 4 n (by decide) hn, s4 5 n (by decide) hn, s4 6 n (by decide) hn, s4 7 n (by decide) hn⟩
  · rw [mrg_l (by omega)]; exact s5 k hk
theorem tx_of {r : Nat → Int32} {g' : Nat → Nat → Int32} (hx : Tx true 1 w g) (hs : Sc 7 r g') (e : g' 30 = g 30) : Tx true 1 (mrg r w) g' := by
  have h1 : g 7 4 = w 2 ∧ ∀ k, k < 600 → g 30 k = w (600 + k) := hx.1
  obtain ⟨s1, s2, -⟩ := hs
  refine ⟨⟨by rw [mrg_l (by decide)]; exact s1.2.2.2.2, fun k hk => ?_⟩, by rw [mrg_l (by decide)]; exact s1.2.2.2.1, by rw [mrg_l (by decide)]; exact s2 2 (by decide), by rw [mrg_l (by decide)]; exact s2 3 (by decide)⟩
  show g' 30 k = _
  rw [e, mrg_g (by omega)]
  exact h1.2 k hk
theorem s_vundo0 (hK : rgK [] g) : callC (ev (d + 4)) vr_undo [.ref 0] (E g q) P = P (some (.int (nI 0))) (E g q) := by
  refine call_eq (in_vr_undo rfl ?_)
  rw [b_vr_undo_0]
  simp -implicitDefEqProofs (disch := first | assumption | omega) only [szS_0, szS_i, szS_r, szS_l, x_cons, x_goto, ob_some, kl_i, kl_r, kl_l, kl_n, push_n, push_s, pop_0, pop_i, pop_r, Int.reduceToNat, List.length_cons, List.length_nil, Nat.reduceAdd, Nat.reduceLeDiff, Nat.zero_add, true_and, nI_n0, nat_le, Nat.add_zero, rt_vr_undo_0, rt_vr_undo_1, rt_vr_undo_b, x_al0, x_call, x_getf, x_iret, fd_0_0, fd_0_1, fd_0_2, fd_0_3, fd_0_4, fd_0_5, fd_0_6, fd_0_7, fd_0_8, fd_0_9, sf_0_9, fd_1_0, fd_1_1, fd_1_2, fd_1_3, fd_1_4]
  rw [s_goBack0 hK]
  simp -implicitDefEqProofs (disch := first | assumption | omega) only [szS_0, szS_i, szS_r, szS_l, x_cons, x_goto, ob_some, kl_i, kl_r, kl_l, kl_n, push_n, push_s, pop_0, pop_i, pop_r, Int.reduceToNat, List.length_cons, List.length_nil, Nat.reduceAdd, Nat.reduceLeDiff, Nat.zero_add, true_and, nI_n0, nat_le, Nat.add_zero, rt_vr_undo_0, rt_vr_undo_1, rt_vr_undo_b, x_al0, x_call, x_getf, x_iret, rt_vr_undo_0]
  all_goals first | rfl | exact ⟨rfl, rfl⟩ | exact ⟨rfl, trivial⟩ | exact ⟨trivial, rfl⟩ | trivial
theorem s_vundo {r : Nat → Int32} {pl : PL} (hK : rgK (r :: pl) g) (H : ∀ g', (∀ b, b ≠ 91 → (b < 7 ∨ 22 ≤ b) → g' b = g b) → Sc 7 r g' → rgK pl g' → P (some (.int (nI 1))) (E g' q)) : callC (ev (d + 4)) vr_undo [.ref 0] (E g q) P := by
  refine in_vr_undo rfl ?_
  rw [b_vr_undo_0]
  simp -implicitDefEqProofs (disch := first | assumption | omega) only [szS_0, szS_i, szS_r, szS_l, x_cons, x_goto, ob_some, kl_i, kl_r, kl_l, kl_n, push_n, push_s, pop_0, pop_i, pop_r, Int.reduceToNat, List.length_cons, List.length_nil, Nat.reduceAdd, Nat.reduceLeDiff, Nat.zero_add, true_and, nI_n0, nat_le, Nat.add_zero, rt_vr_undo_0, rt_vr_undo_1, rt_vr_undo_b, x_al0, x_call, x_getf, x_iret, fd_0_0, fd_0_1, fd_0_2, fd_0_3, fd_0_4, fd_0_5, fd_0_6, fd_0_7, fd_0_8, fd_0_9, sf_0_9, fd_1_0, fd_1_1, fd_1_2, fd_1_3, fd_1_4]
  refine s_goBack hK fun g1 f1 c1 k1 => ?_
  simp -implicitDefEqProofs (disch := first | assumption | omega) only [szS_0, szS_i, szS_r, szS_l, x_cons, x_goto, ob_some, kl_i, kl_r, kl_l, kl_n, push_n, push_s, pop_0, pop_i, pop_r, Int.reduceToNat, List.length_cons, List.length_nil, Nat.reduceAdd, Nat.reduceLeDiff, Nat.zero_add, true_and, nI_n0, nat_le, Nat.add_zero, rt_vr_undo_0, rt_vr_undo_1, rt_vr_undo_b, x_al0, x_call, x_getf, x_iret, rt_vr_undo_1]
  exact H g1 f1 c1 k1
/-- what days may change of the class -/
def fY (g g' : Nat → Nat → Int32) : Prop := ∀ b, (b < 1 ∨ 31 ≤ b) → (b < 91 ∨ 168 ≤ b) → (b < 175 ∨ 181 < b) → g' b = g b
theorem dy1_4 {V M : LW} (h : WI w) : dy1 V M w 4 = w 4 + nI (flD V w) := by
  unfold dy1 flD
  rw [dyR_4 (drw_wi h) (flw_l h), drw_o (by decide)]
theorem vd_lp {V M : LW} {N : Nat} (hN : N < 2147483648) {f0 : Int32} {wE : Nat → Int32} {plE : PL} {F : Int32} {g0 : Nat → Nat → Int32} (H : ∀ g', fY g0 g' → Tc 1 wE g' → Tx true 1 wE g' → CL 1 g' V M → rgK plE g' → P (some (.int (F - f0))) (E g' q)) :
    ∀ (j i : Nat) (w : Nat → Int32) (pl : PL) (g : Nat → Nat → Int32), i + j = N → dyN V M j w = wE → dyPL V M j w pl = plE → w 4 + nI (flT V M j w) = F → WI w → fY g0 g → Tc 1 w g → Tx true 1 w g → CL 1 g V M → rgK pl g →
    wp (ev (d + 6)) P vr_days 43 [some (.ref 0), some (.int (nI N)), some (.int f0), some (.int (nI i))] [] (E g q) := by
  intro j
  induction j with
  | zero =>
    intro i w pl g hi hE hP hF hw hf hc hx hL hK
    have hi : i = N := hi
    have hE : w = wE := hE
    have hP : pl = plE := hP
    subst hi hE hP
    have hF : w 4 + 0 = F := hF
    rw [Int32.add_zero] at hF
    have e1 : g 7 1 = F := hc.1.2.2.1.trans hF
    rw [b_vr_days_43]
    simp -implicitDefEqProofs (disch := first | assumption | omega) only [szS_0, szS_i, szS_r, szS_l, x_cons, x_goto, ob_some, kl_i, kl_r, kl_l, kl_n, push_n, push_s, pop_0, pop_i, pop_r, Int.reduceToNat, List.length_cons, List.length_nil, Nat.reduceAdd, Nat.reduceLeDiff, Nat.zero_add, true_and, nI_n0, nat_le, Nat.add_zero, i_1, rt_vr_days, x_al0, x_call, x_getf, x_goto, x_iadd, x_icge, x_icle, x_ifeq, x_il1, x_il2, x_il3, x_inc3, x_iret, x_is2, x_is3, x_isub, x_ldc, x_m1, nI_ltE, Nat.lt_irrefl, ↓reduceIte, b_vr_days_79, fd_0_0, fd_0_1, fd_0_2, fd_0_3, fd_0_4, fd_0_5, fd_0_6, fd_0_7, fd_0_8, fd_0_9, sf_0_9, fd_1_0, fd_1_1, fd_1_2, fd_1_3, fd_1_4, fd_7_0, sf_7_0, fd_7_1, sf_7_1, fd_7_2, sf_7_2, fd_7_3, sf_7_3, fd_7_4, sf_7_4, fd_7_5, fd_7_6, fd_7_7, fd_7_8, fd_7_9, fd_7_10, e1]
    exact H g hf hc hx hL hK
  | succ j ih =>
    intro i w pl g hi hE hP hF hw hf hc hx hL hK
    have hi' : i < N := by omega
    rw [b_vr_days_43]
    simp -implicitDefEqProofs (disch := first | assumption | omega) only [szS_0, szS_i, szS_r, szS_l, x_cons, x_goto, ob_some, kl_i, kl_r, kl_l, kl_n, push_n, push_s, pop_0, pop_i, pop_r, Int.reduceToNat, List.length_cons, List.length_nil, Nat.reduceAdd, Nat.reduceLeDiff, Nat.zero_add, true_and, nI_n0, nat_le, Nat.add_zero, i_1, rt_vr_days, x_al0, x_call, x_getf, x_goto, x_iadd, x_icge, x_icle, x_ifeq, x_il1, x_il2, x_il3, x_inc3, x_iret, x_is2, x_is3, x_isub, x_ldc, x_m1, nI_ltE, hi', ↓reduceIte, fd_0_0, fd_0_1, fd_0_2, fd_0_3, fd_0_4, fd_0_5, fd_0_6, fd_0_7, fd_0_8, fd_0_9, sf_0_9, fd_1_0, fd_1_1, fd_1_2, fd_1_3, fd_1_4]
    refine s_keep hw (sc_of hc hx) hK fun g1 f1 k1 => ?_
    simp -implicitDefEqProofs (disch := first | assumption | omega) only [szS_0, szS_i, szS_r, szS_l, x_cons, x_goto, ob_some, kl_i, kl_r, kl_l, kl_n, push_n, push_s, pop_0, pop_i, pop_r, Int.reduceToNat, List.length_cons, List.length_nil, Nat.reduceAdd, Nat.reduceLeDiff, Nat.zero_add, true_and, nI_n0, nat_le, Nat.add_zero, i_1, rt_vr_days, x_al0, x_call, x_getf, x_goto, x_iadd, x_icge, x_icle, x_ifeq, x_il1, x_il2, x_il3, x_inc3, x_iret, x_is2, x_is3, x_isub, x_ldc, x_m1, fd_0_0, fd_0_1, fd_0_2, fd_0_3, fd_0_4, fd_0_5, fd_0_6, fd_0_7, fd_0_8, fd_0_9, sf_0_9]
    have c1 : Tc 1 w g1 := Tc_c hc fun a a1 a2 => f1 a (by omega)
    have x1 : Tx true 1 w g1 := by
      refine ⟨bkT_c hx.1 rfl (fun _ _ => rfl) (by rw [f1 _ (by omega)]) (f1 _ (by omega)), ?_⟩
      rw [f1 (1 + 6) (by omega), f1 (1 + 7) (by omega)]
      exact hx.2
    have l1 : CL 1 g1 V M := CL_c hL fun a a1 a2 a3 => f1 a (by omega)
    refine s_passDay (t := 1) (bk := true) (by decide) hw c1 l1 x1 fun g2 f2 c2 l2 x2 => ?_
    simp -implicitDefEqProofs (disch := first | assumption | omega) only [szS_0, szS_i, szS_r, szS_l, x_cons, x_goto, ob_some, kl_i, kl_r, kl_l, kl_n, push_n, push_s, pop_0, pop_i, pop_r, Int.reduceToNat, List.length_cons, List.length_nil, Nat.reduceAdd, Nat.reduceLeDiff, Nat.zero_add, true_and, nI_n0, nat_le, Nat.add_zero, i_1, rt_vr_days, x_al0, x_call, x_getf, x_goto, x_iadd, x_icge, x_icle, x_ifeq, x_il1, x_il2, x_il3, x_inc3, x_iret, x_is2, x_is3, x_isub, x_ldc, x_m1, nI_add]
    refine ih (i + 1) (dy1 V M w) (kpL w pl) g2 (by omega) hE hP ?_ (dy1_wi hw) (fun b b1 b2 b3 => by rw [f2 b b3 b1, f1 b b2, hf b b1 b2 b3]) c2 x2 l2 (rgK_c k1 fun b b1 b2 => f2 b (by omega) (by omega))
    have hF : w 4 + nI (flD V w + flT V M j (dy1 V M w)) = F := hF
    rw [dy1_4 hw, Int32.add_assoc, nI_add]
    exact hF
theorem s_vdays0 {n : Int32} (hc : Tc 1 w g) (h : dayB w n = false) : callC (ev (d + 8)) vr_days [.ref 0, .int n] (E g q) P = P (some (.int (-1))) (E g q) := by
  refine call_eq (in_vr_days rfl ?_)
  have e1 : g 7 0 = w 1 := hc.1.2.1
  have no : wp (ev (d + 7)) (fun r1 h1 => r1 = some (.int (-1)) ∧ h1 = E g q) vr_days 28 [some (.ref 0), some (.int n), none, none] [] (E g q) := by
    rw [b_vr_days_28]
    simp -implicitDefEqProofs (disch := first | assumption | omega) only [szS_0, szS_i, szS_r, szS_l, x_cons, x_goto, ob_some, kl_i, kl_r, kl_l, kl_n, push_n, push_s, pop_0, pop_i, pop_r, Int.reduceToNat, List.length_cons, List.length_nil, Nat.reduceAdd, Nat.reduceLeDiff, Nat.zero_add, true_and, nI_n0, nat_le, Nat.add_zero, i_1, rt_vr_days, x_al0, x_call, x_getf, x_goto, x_iadd, x_icge, x_icle, x_ifeq, x_il1, x_il2, x_il3, x_inc3, x_iret, x_is2, x_is3, x_isub, x_ldc, x_m1]
    all_goals first | rfl | exact ⟨rfl, rfl⟩ | exact ⟨rfl, trivial⟩ | exact ⟨trivial, rfl⟩ | trivial
  rw [b_vr_days_0]
  simp -implicitDefEqProofs (disch := first | assumption | omega) only [szS_0, szS_i, szS_r, szS_l, x_cons, x_goto, ob_some, kl_i, kl_r, kl_l, kl_n, push_n, push_s, pop_0, pop_i, pop_r, Int.reduceToNat, List.length_cons, List.length_nil, Nat.reduceAdd, Nat.reduceLeDiff, Nat.zero_add, true_and, nI_n0, nat_le, Nat.add_zero, i_1, rt_vr_days, x_al0, x_call, x_getf, x_goto, x_iadd, x_icge, x_icle, x_ifeq, x_il1, x_il2, x_il3, x_inc3, x_iret, x_is2, x_is3, x_isub, x_ldc, x_m1, s_within, bI_0]
  unfold dayB at h
  by_cases h1 : nI 1 ≤ n ∧ n ≤ nI 100
  · rw [decide_eq_true h1, Bool.true_and, Bool.not_eq_false', decide_eq_true_eq] at h
    simp only [decide_eq_true h1, Bool.true_eq_false, ↓reduceIte]
    simp -implicitDefEqProofs (disch := first | assumption | omega) only [szS_0, szS_i, szS_r, szS_l, x_cons, x_goto, ob_some, kl_i, kl_r, kl_l, kl_n, push_n, push_s, pop_0, pop_i, pop_r, Int.reduceToNat, List.length_cons, List.length_nil, Nat.reduceAdd, Nat.reduceLeDiff, Nat.zero_add, true_and, nI_n0, nat_le, Nat.add_zero, i_1, rt_vr_days, x_al0, x_call, x_getf, x_goto, x_iadd, x_icge, x_icle, x_ifeq, x_il1, x_il2, x_il3, x_inc3, x_iret, x_is2, x_is3, x_isub, x_ldc, x_m1, fd_0_0, fd_0_1, fd_0_2, fd_0_3, fd_0_4, fd_0_5, fd_0_6, fd_0_7, fd_0_8, fd_0_9, sf_0_9, fd_1_0, fd_1_1, fd_1_2, fd_1_3, fd_1_4, fd_7_0, sf_7_0, fd_7_1, sf_7_1, fd_7_2, sf_7_2, fd_7_3, sf_7_3, fd_7_4, sf_7_4, fd_7_5, fd_7_6, fd_7_7, fd_7_8, fd_7_9, fd_7_10, e1, h, ↓reduceIte]
    exact no
  · simp only [decide_eq_false h1, ↓reduceIte]
    exact no
theorem s_vdays {n : Nat} (hw : WI w) {V M : LW} (hc : Tc 1 w g) (hx : Tx true 1 w g) (hL : CL 1 g V M) {pl : PL} (hK : rgK pl g) (hn : n < 2147483648) (h : dayB w (nI n) = true) (H : ∀ g', fY g g' → Tc 1 (dyN V M n w) g' → Tx true 1 (dyN V M n w) g' → CL 1 g' V M → rgK (dyPL V M n w pl) g' → P (some (.int (nI (flT V M n w)))) (E g' q)) :
    callC (ev (d + 8)) vr_days [.ref 0, .int (nI n)] (E g q) P := by
  refine in_vr_days rfl ?_
  have e1 : g 7 0 = w 1 := hc.1.2.1
  have e4 : g 7 1 = w 4 := hc.1.2.2.1
  unfold dayB at h
  rw [Bool.and_eq_true, Bool.not_eq_true'] at h
  have h1 := of_decide_eq_true h.1
  have h2 := of_decide_eq_false h.2
  rw [b_vr_days_0]
  simp -implicitDefEqProofs (disch := first | assumption | omega) only [szS_0, szS_i, szS_r, szS_l, x_cons, x_goto, ob_some, kl_i, kl_r, kl_l, kl_n, push_n, push_s, pop_0, pop_i, pop_r, Int.reduceToNat, List.length_cons, List.length_nil, Nat.reduceAdd, Nat.reduceLeDiff, Nat.zero_add, true_and, nI_n0, nat_le, Nat.add_zero, i_1, rt_vr_days, x_al0, x_call, x_getf, x_goto, x_iadd, x_icge, x_icle, x_ifeq, x_il1, x_il2, x_il3, x_inc3, x_iret, x_is2, x_is3, x_isub, x_ldc, x_m1, s_within, bI_0]
  simp only [decide_eq_true h1, Bool.true_eq_false, ↓reduceIte]
  simp -implicitDefEqProofs (disch := first | assumption | omega) only [szS_0, szS_i, szS_r, szS_l, x_cons, x_goto, ob_some, kl_i, kl_r, kl_l, kl_n, push_n, push_s, pop_0, pop_i, pop_r, Int.reduceToNat, List.length_cons, List.length_nil, Nat.reduceAdd, Nat.reduceLeDiff, Nat.zero_add, true_and, nI_n0, nat_le, Nat.add_zero, i_1, rt_vr_days, x_al0, x_call, x_getf, x_goto, x_iadd, x_icge, x_icle, x_ifeq, x_il1, x_il2, x_il3, x_inc3, x_iret, x_is2, x_is3, x_isub, x_ldc, x_m1, fd_0_0, fd_0_1, fd_0_2, fd_0_3, fd_0_4, fd_0_5, fd_0_6, fd_0_7, fd_0_8, fd_0_9, sf_0_9, fd_1_0, fd_1_1, fd_1_2, fd_1_3, fd_1_4, fd_7_0, sf_7_0, fd_7_1, sf_7_1, fd_7_2, sf_7_2, fd_7_3, sf_7_3, fd_7_4, sf_7_4, fd_7_5, fd_7_6, fd_7_7, fd_7_8, fd_7_9, fd_7_10, e1, h2, ↓reduceIte, b_vr_days_30, e4]
  refine vd_lp (F := w 4 + nI (flT V M n w)) hn (g0 := g) (fun g1 f1 c1 x1 l1 k1 => ?_) n 0 w pl g (Nat.zero_add _) rfl rfl rfl hw (fun _ _ _ _ => rfl) hc hx hL hK
  have e : w 4 + nI (flT V M n w) - w 4 = nI (flT V M n w) := by rw [Int32.add_comm, Int32.add_sub_cancel]
  rw [e]
  exact H g1 f1 c1 x1 l1 k1
end CR
