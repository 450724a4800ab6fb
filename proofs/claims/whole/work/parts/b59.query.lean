/-! the class's plain calls -/
/-- where an arm goes, anew -/
theorem Ts_dig {w : Nat → Int32} {g : Nat → Nat → Int32} (h : Tc 1 w g) {f b : Nat} (hf : f < 16) (hb : b < 3) {v : Int32} : Ts 1 (pu w (10 + 20 * f + (2 + b)) v) (upw g 5 (pu (g 5) (f * 3 + b) v)) := by
  refine ⟨?_, fun n hn => ⟨?_, ?_⟩, fun n a hn ha => ?_⟩
  · rw [upw_o (by decide), pu_n (by omega)]
    exact tc_n h
  · rw [upw_o (by decide), pu_n (by omega)]
    exact tc_so h hn
  · rw [upw_o (by decide), pu_n (by omega)]
    exact tc_am h hn
  · rw [show 1 + 4 = 5 from rfl, upw_s]
    by_cases e : n = f ∧ a = b
    · rw [e.1, e.2, pu_s, pu_s]
    · rw [pu_n (by omega), pu_n (by omega)]
      exact tc_to h hn ha
section CZ
variable {d : Nat} {g : Nat → Nat → Int32} {q : Nat → Nat → Int64} {P : QT} {w : Nat → Int32} {V M : LW} {pl : PL} {im : IM} {R : RD}
theorem s_vdig0 (hw : WI w) (hc : Tc 1 w g) {f a t : Int32} (h : digB w f a t = false) : callC (ev (d + 4)) vr_dig [.ref 0, .int f, .int a, .int t] (E g q) P = P (some (.int (nI 0))) (E g q) := by
  refine call_eq (in_vr_dig rfl ?_)
  have hN := wi_n hw
  have no : wp (ev (d + 3)) (fun r1 h1 => r1 = some (.int (nI 0)) ∧ h1 = E g q) vr_dig 34 [some (.ref 0), some (.int f), some (.int a), some (.int t)] [] (E g q) := by
    rw [b_vr_dig_34]
    simp -implicitDefEqProofs (disch := first | assumption | omega) only [szS_0, szS_i, szS_r, szS_l, x_cons, x_goto, ob_some, kl_i, kl_r, kl_l, kl_n, push_n, push_s, pop_0, pop_i, pop_r, Int.reduceToNat, List.length_cons, List.length_nil, Nat.reduceAdd, Nat.reduceLeDiff, Nat.zero_add, true_and, nI_n0, nat_le, Nat.add_zero, rt_vr_dig_0, rt_vr_dig_1, rt_vr_dig_b, x_al0, x_call, x_getf, x_iadd, x_iastore, x_icgt, x_ifeq, x_il1, x_il2, x_il3, x_imul, x_iret, x_ldc]
    all_goals first | rfl | exact ⟨rfl, rfl⟩ | exact ⟨rfl, trivial⟩ | exact ⟨trivial, rfl⟩ | trivial
  unfold digB at h
  rw [b_vr_dig_0]
  simp -implicitDefEqProofs (disch := first | assumption | omega) only [szS_0, szS_i, szS_r, szS_l, x_cons, x_goto, ob_some, kl_i, kl_r, kl_l, kl_n, push_n, push_s, pop_0, pop_i, pop_r, Int.reduceToNat, List.length_cons, List.length_nil, Nat.reduceAdd, Nat.reduceLeDiff, Nat.zero_add, true_and, nI_n0, nat_le, Nat.add_zero, rt_vr_dig_0, rt_vr_dig_1, rt_vr_dig_b, x_al0, x_call, x_getf, x_iadd, x_iastore, x_icgt, x_ifeq, x_il1, x_il2, x_il3, x_imul, x_iret, x_ldc, fd_0_0, fd_0_1, fd_0_2, fd_0_3, fd_0_4, fd_0_5, fd_0_6, fd_0_7, fd_0_8, fd_0_9, sf_0_9, fd_1_0, fd_1_1, fd_1_2, fd_1_3, fd_1_4]
  rw [s_cArm (t := 1) (by decide) hw hc]
  simp -implicitDefEqProofs (disch := first | assumption | omega) only [szS_0, szS_i, szS_r, szS_l, x_cons, x_goto, ob_some, kl_i, kl_r, kl_l, kl_n, push_n, push_s, pop_0, pop_i, pop_r, Int.reduceToNat, List.length_cons, List.length_nil, Nat.reduceAdd, Nat.reduceLeDiff, Nat.zero_add, true_and, nI_n0, nat_le, Nat.add_zero, rt_vr_dig_0, rt_vr_dig_1, rt_vr_dig_b, x_al0, x_call, x_getf, x_iadd, x_iastore, x_icgt, x_ifeq, x_il1, x_il2, x_il3, x_imul, x_iret, x_ldc, bI_0]
  cases h1 : armB w f a
  · simp -implicitDefEqProofs (disch := first | assumption | omega) only [↓reduceIte]
    exact no
  · obtain ⟨f', a', hf, rfl, hs, ha, rfl⟩ := armB_ex hw h1
    rw [h1, Bool.true_and, decide_eq_false_iff_not] at h
    simp -implicitDefEqProofs (disch := first | assumption | omega) only [Bool.true_eq_false, ↓reduceIte, szS_0, szS_i, szS_r, szS_l, x_cons, x_goto, ob_some, kl_i, kl_r, kl_l, kl_n, push_n, push_s, pop_0, pop_i, pop_r, Int.reduceToNat, List.length_cons, List.length_nil, Nat.reduceAdd, Nat.reduceLeDiff, Nat.zero_add, true_and, nI_n0, nat_le, Nat.add_zero, rt_vr_dig_0, rt_vr_dig_1, rt_vr_dig_b, x_al0, x_call, x_getf, x_iadd, x_iastore, x_icgt, x_ifeq, x_il1, x_il2, x_il3, x_imul, x_iret, x_ldc, fd_0_0, fd_0_1, fd_0_2, fd_0_3, fd_0_4, fd_0_5, fd_0_6, fd_0_7, fd_0_8, fd_0_9, sf_0_9, fd_1_0, fd_1_1, fd_1_2, fd_1_3, fd_1_4]
    rw [s_hasNode (t := 1) (by decide) hw (tc_n hc)]
    simp -implicitDefEqProofs (disch := first | assumption | omega) only [szS_0, szS_i, szS_r, szS_l, x_cons, x_goto, ob_some, kl_i, kl_r, kl_l, kl_n, push_n, push_s, pop_0, pop_i, pop_r, Int.reduceToNat, List.length_cons, List.length_nil, Nat.reduceAdd, Nat.reduceLeDiff, Nat.zero_add, true_and, nI_n0, nat_le, Nat.add_zero, rt_vr_dig_0, rt_vr_dig_1, rt_vr_dig_b, x_al0, x_call, x_getf, x_iadd, x_iastore, x_icgt, x_ifeq, x_il1, x_il2, x_il3, x_imul, x_iret, x_ldc, bI_0]
    cases h2 : nodeB w t
    · simp -implicitDefEqProofs (disch := first | assumption | omega) only [↓reduceIte]
      exact no
    · obtain ⟨t', ht, rfl⟩ := nodeB_ex hw h2
      rw [hN.1, nI_add, nI_sub (by omega), nI_leE (by omega) (by omega), nI_leE (by omega) (by omega)] at h
      have hl : ¬ f' < t' := by omega
      simp -implicitDefEqProofs (disch := first | assumption | omega) only [Bool.true_eq_false, ↓reduceIte, szS_0, szS_i, szS_r, szS_l, x_cons, x_goto, ob_some, kl_i, kl_r, kl_l, kl_n, push_n, push_s, pop_0, pop_i, pop_r, Int.reduceToNat, List.length_cons, List.length_nil, Nat.reduceAdd, Nat.reduceLeDiff, Nat.zero_add, true_and, nI_n0, nat_le, Nat.add_zero, rt_vr_dig_0, rt_vr_dig_1, rt_vr_dig_b, x_al0, x_call, x_getf, x_iadd, x_iastore, x_icgt, x_ifeq, x_il1, x_il2, x_il3, x_imul, x_iret, x_ldc, nI_ltE, hl]
      exact no
theorem s_vdig (hK : Kc w V M pl im R g) (hw : WI w) {f a t : Nat} (hf : f < 16) (ha : a < 3) (h : digB w (nI f) (nI a) (nI t) = true) (ht : t < 16) (hw2 : WI (pu w (10 + 20 * f + (2 + a)) (nI t))) (H : ∀ g', fC g g' → Kc (pu w (10 + 20 * f + (2 + a)) (nI t)) V M [] im R g' → P (some (.int (nI 1))) (E g' q)) :
    callC (ev (d + 4)) vr_dig [.ref 0, .int (nI f), .int (nI a), .int (nI t)] (E g q) P := by
  refine in_vr_dig rfl ?_
  have hN := wi_n hw
  unfold digB at h
  rw [Bool.and_eq_true] at h
  obtain ⟨h1, h2⟩ := h
  have h2 := of_decide_eq_true h2
  rw [hN.1, nI_add, nI_sub (by omega), nI_leE (by omega) (by omega), nI_leE (by omega) (by omega)] at h2
  have hnb : nodeB w (nI t) = true := by
    rw [nodeB_nI hw (by omega)]
    exact decide_eq_true (by omega)
  have hl : f < t := by omega
  rw [b_vr_dig_0]
  simp -implicitDefEqProofs (disch := first | assumption | omega) only [szS_0, szS_i, szS_r, szS_l, x_cons, x_goto, ob_some, kl_i, kl_r, kl_l, kl_n, push_n, push_s, pop_0, pop_i, pop_r, Int.reduceToNat, List.length_cons, List.length_nil, Nat.reduceAdd, Nat.reduceLeDiff, Nat.zero_add, true_and, nI_n0, nat_le, Nat.add_zero, rt_vr_dig_0, rt_vr_dig_1, rt_vr_dig_b, x_al0, x_call, x_getf, x_iadd, x_iastore, x_icgt, x_ifeq, x_il1, x_il2, x_il3, x_imul, x_iret, x_ldc, fd_0_0, fd_0_1, fd_0_2, fd_0_3, fd_0_4, fd_0_5, fd_0_6, fd_0_7, fd_0_8, fd_0_9, sf_0_9, fd_1_0, fd_1_1, fd_1_2, fd_1_3, fd_1_4]
  rw [s_cArm (t := 1) (by decide) hw hK.1.1]
  simp -implicitDefEqProofs (disch := first | assumption | omega) only [szS_0, szS_i, szS_r, szS_l, x_cons, x_goto, ob_some, kl_i, kl_r, kl_l, kl_n, push_n, push_s, pop_0, pop_i, pop_r, Int.reduceToNat, List.length_cons, List.length_nil, Nat.reduceAdd, Nat.reduceLeDiff, Nat.zero_add, true_and, nI_n0, nat_le, Nat.add_zero, rt_vr_dig_0, rt_vr_dig_1, rt_vr_dig_b, x_al0, x_call, x_getf, x_iadd, x_iastore, x_icgt, x_ifeq, x_il1, x_il2, x_il3, x_imul, x_iret, x_ldc, bI_0, h1, Bool.true_eq_false, ↓reduceIte, fd_0_0, fd_0_1, fd_0_2, fd_0_3, fd_0_4, fd_0_5, fd_0_6, fd_0_7, fd_0_8, fd_0_9, sf_0_9, fd_1_0, fd_1_1, fd_1_2, fd_1_3, fd_1_4]
  rw [s_hasNode (t := 1) (by decide) hw (tc_n hK.1.1)]
  simp -implicitDefEqProofs (disch := first | assumption | omega) only [szS_0, szS_i, szS_r, szS_l, x_cons, x_goto, ob_some, kl_i, kl_r, kl_l, kl_n, push_n, push_s, pop_0, pop_i, pop_r, Int.reduceToNat, List.length_cons, List.length_nil, Nat.reduceAdd, Nat.reduceLeDiff, Nat.zero_add, true_and, nI_n0, nat_le, Nat.add_zero, rt_vr_dig_0, rt_vr_dig_1, rt_vr_dig_b, x_al0, x_call, x_getf, x_iadd, x_iastore, x_icgt, x_ifeq, x_il1, x_il2, x_il3, x_imul, x_iret, x_ldc, bI_0, hnb, Bool.true_eq_false, ↓reduceIte, nI_ltE, hl, b_vr_dig_36, fd_0_0, fd_0_1, fd_0_2, fd_0_3, fd_0_4, fd_0_5, fd_0_6, fd_0_7, fd_0_8, fd_0_9, sf_0_9, fd_1_0, fd_1_1, fd_1_2, fd_1_3, fd_1_4, fd_2_0, sf_2_0, fd_2_1, fd_2_2, fd_2_3, fd_2_4, ld_5, sd_5, ln_5, nI_mul, nI_add, pu_g, pu_w, upw_s, upw_w, pu_s]
  refine s_measure (t := 1) (by decide) hw2 (Ts_dig hK.1.1 hf ha) fun g1 f1 c1 => ?_
  simp -implicitDefEqProofs (disch := first | assumption | omega) only [szS_0, szS_i, szS_r, szS_l, x_cons, x_goto, ob_some, kl_i, kl_r, kl_l, kl_n, push_n, push_s, pop_0, pop_i, pop_r, Int.reduceToNat, List.length_cons, List.length_nil, Nat.reduceAdd, Nat.reduceLeDiff, Nat.zero_add, true_and, nI_n0, nat_le, Nat.add_zero, rt_vr_dig_0, rt_vr_dig_1, rt_vr_dig_b, x_al0, x_call, x_getf, x_iadd, x_iastore, x_icgt, x_ifeq, x_il1, x_il2, x_il3, x_imul, x_iret, x_ldc, fd_0_0, fd_0_1, fd_0_2, fd_0_3, fd_0_4, fd_0_5, fd_0_6, fd_0_7, fd_0_8, fd_0_9, sf_0_9, s_forget, pu_g, pu_w, upw_s, upw_w, pu_s]
  have e : ∀ b, b ≠ 5 → b ≠ 6 → b ≠ 91 → upw g1 91 (pu (pu (g1 91) 1 (nI 0)) 2 (nI 0)) b = g b := fun b b1 b2 b3 => by rw [upw_o b3, f1 b b2, upw_o b1]
  refine H _ (fun b hb => e b (by omega) (by omega) (by omega)) (Kc_mk hK ⟨?_, ?_, ?_⟩ (rgK_0 (by rw [pu_n (by decide), pu_s]) pu_s) fun b hb => e b (by omega) (by omega) (by omega))
  · obtain ⟨d1, d2, d3, d4, d5, d6, d7⟩ := hK.1.1
    have ts := Ts_dig hK.1.1 hf ha (v := nI t)
    have es : ∀ b, b ≠ 6 → b ≠ 91 → upw g1 91 (pu (pu (g1 91) 1 (nI 0)) 2 (nI 0)) b = upw g 5 (pu (g 5) (f * 3 + a) (nI t)) b := fun b b2 b3 => by rw [upw_o b3, f1 b b2]
    have efd : ∀ n, fd (pu w (10 + 20 * f + (2 + a)) (nI t)) n 0 = fd w n 0 := fun n => fd_pu_n (by omega)
    have enn : nn (pu w (10 + 20 * f + (2 + a)) (nI t)) = nn w := nn_pu (by omega)
    refine ⟨⟨?_, ?_, ?_, ?_, ?_, ?_⟩, fun n hn => ?_, fun n b hn hb => ?_, fun s m hs hm => ?_, fun n hn hs => ?_, fun n hn => ?_, fun k hk => ?_⟩
    · rw [es _ (by decide) (by decide)]; exact ts.1
    · rw [e _ (by decide) (by decide) (by decide), pu_n (by omega)]; exact d1.2.1
    · rw [e _ (by decide) (by decide) (by decide), pu_n (by omega)]; exact d1.2.2.1
    · rw [e _ (by decide) (by decide) (by decide), pu_n (by omega)]; exact d1.2.2.2.1
    · rw [e _ (by decide) (by decide) (by decide), pu_n (by omega)]; exact d1.2.2.2.2.1
    · rw [e _ (by decide) (by decide) (by decide), pu_n (by omega)]; exact d1.2.2.2.2.2
    · rw [es _ (by decide) (by decide), es _ (by decide) (by decide)]; exact ts.2.1 n hn
    · rw [es _ (by decide) (by decide)]; exact ts.2.2 n b hn hb
    · rw [upw_o (by decide)]; exact c1 s m hs hm
    · rw [enn] at hn
      rw [efd] at hs
      rw [e _ (by decide) (by decide) (by decide), e _ (by decide) (by decide) (by decide), e _ (by decide) (by decide) (by decide), pu_n (by omega), pu_n (by omega)]
      exact ⟨(d5 n hn hs).1, (d5 n hn hs).2.1, fun b hb => by rw [pu_n (by omega)]; exact (d5 n hn hs).2.2 b hb⟩
    · rw [e _ (by decide) (by decide) (by decide), e (1 + 10) (by decide) (by decide) (by decide), e (1 + 11) (by decide) (by decide) (by decide), e (1 + 12) (by decide) (by decide) (by decide), e (1 + 13) (by decide) (by decide) (by decide), e (1 + 14) (by decide) (by decide) (by decide), e (1 + 15) (by decide) (by decide) (by decide), e (1 + 16) (by decide) (by decide) (by decide), pu_n (by omega), pu_n (by omega), pu_n (by omega), pu_n (by omega), pu_n (by omega), pu_n (by omega), pu_n (by omega), pu_n (by omega)]
      exact d6 n hn
    · rw [e _ (by decide) (by decide) (by decide), pu_n (by omega)]; exact d7 k hk
  · exact Tx_c hK.1.2.1 (fun k hk => pu_n (by omega)) (fun k _ => by rw [e _ (by decide) (by decide) (by decide)]) (fun k _ => by rw [e _ (by decide) (by decide) (by decide)]) (e _ (by decide) (by decide) (by decide))
  · exact CL_c hK.1.2.2 fun b a1 a2 a3 => e b (by omega) (by omega) (by omega)
/-- an image is taken -/
theorem s_vimg1 (hK : Kc w V M pl im R g) (hw : WI w) {x : Int32} (hx : x ≠ nI 0) (H : ∀ g', fC g g' → Kc w V M pl (some (w, V, M)) R g' → P (some (.int (nI 1))) (E g' q)) : callC (ev (d + 4)) vr_image [.ref 0, .int x] (E g q) P := by
  refine in_vr_image rfl ?_
  rw [b_vr_image_0]
  simp -implicitDefEqProofs (disch := first | assumption | omega) only [szS_0, szS_i, szS_r, szS_l, x_cons, x_goto, ob_some, kl_i, kl_r, kl_l, kl_n, push_n, push_s, pop_0, pop_i, pop_r, Int.reduceToNat, List.length_cons, List.length_nil, Nat.reduceAdd, Nat.reduceLeDiff, Nat.zero_add, true_and, nI_n0, nat_le, Nat.add_zero, rt_vr_image_0, rt_vr_image_1, rt_vr_image_b, x_al0, x_call, x_getf, x_ifeq, x_ifne, x_il1, x_iret, x_ldc, x_putf, hx, ↓reduceIte, fd_0_0, fd_0_1, fd_0_2, fd_0_3, fd_0_4, fd_0_5, fd_0_6, fd_0_7, fd_0_8, fd_0_9, sf_0_9]
  refine s_tcopy (t := 31) (s := 1) (by decide) (by decide) (by decide) fun g1 c1 => ?_
  simp -implicitDefEqProofs (disch := first | assumption | omega) only [szS_0, szS_i, szS_r, szS_l, x_cons, x_goto, ob_some, kl_i, kl_r, kl_l, kl_n, push_n, push_s, pop_0, pop_i, pop_r, Int.reduceToNat, List.length_cons, List.length_nil, Nat.reduceAdd, Nat.reduceLeDiff, Nat.zero_add, true_and, nI_n0, nat_le, Nat.add_zero, rt_vr_image_0, rt_vr_image_1, rt_vr_image_b, x_al0, x_call, x_getf, x_ifeq, x_ifne, x_il1, x_iret, x_ldc, x_putf, nI_n0]
  have e1 : sfd vr_image (E g1 q) 0 1109 (.int (nI 1)) = some (E (up2 g1 0 9 (nI 1)) q) := sf_0_9 (Or.inr rfl)
  simp -implicitDefEqProofs (disch := first | assumption | omega) only [szS_0, szS_i, szS_r, szS_l, x_cons, x_goto, ob_some, kl_i, kl_r, kl_l, kl_n, push_n, push_s, pop_0, pop_i, pop_r, Int.reduceToNat, List.length_cons, List.length_nil, Nat.reduceAdd, Nat.reduceLeDiff, Nat.zero_add, true_and, nI_n0, nat_le, Nat.add_zero, rt_vr_image_0, rt_vr_image_1, rt_vr_image_b, x_al0, x_call, x_getf, x_ifeq, x_ifne, x_il1, x_iret, x_ldc, x_putf, e1, pu_g, pu_w, upw_s, upw_w, pu_s]
  have e : ∀ b, b ≠ 0 → (b < 31 ∨ 61 ≤ b) → upw g1 0 (pu (g1 0) 9 (nI 1)) b = g b := fun b b1 b2 => by rw [upw_o b1]; exact c1.1 b b2
  refine H _ (fun b hb => e b (by omega) (by omega)) ⟨KA_c hK.1 fun b b1 b2 _ _ => e b (by omega) (by omega), rgK_c hK.2.1 fun b b1 b2 => e b (by omega) (by omega), ⟨by rw [upw_s, pu_s], ?_, ?_, ?_⟩, rdK_c hK.2.2.2 fun b hb => e b (by omega) (by omega)⟩
  · exact Tc_c (Tc_cp hw c1 hK.1.1) fun a a1 a2 => upw_o (by omega)
  · exact Tx_c (Tx_cp c1 hK.1.2.1) (fun _ _ => rfl) (fun k _ => by rw [upw_o (by omega)]) (fun k _ => by rw [upw_o (by omega)]) (upw_o (by omega))
  · exact CL_c (CL_cp c1 hK.1.2.2) fun a a1 a2 a3 => upw_o (by omega)
theorem s_vimg0 (hK : Kc w V M pl none R g) : callC (ev (d + 4)) vr_image [.ref 0, .int (nI 0)] (E g q) P = P (some (.int (nI 0))) (E g q) := by
  refine call_eq (in_vr_image rfl ?_)
  have e9 : g 0 9 = nI 0 := hK.2.2.1
  rw [b_vr_image_0]
  simp -implicitDefEqProofs (disch := first | assumption | omega) only [szS_0, szS_i, szS_r, szS_l, x_cons, x_goto, ob_some, kl_i, kl_r, kl_l, kl_n, push_n, push_s, pop_0, pop_i, pop_r, Int.reduceToNat, List.length_cons, List.length_nil, Nat.reduceAdd, Nat.reduceLeDiff, Nat.zero_add, true_and, nI_n0, nat_le, Nat.add_zero, rt_vr_image_0, rt_vr_image_1, rt_vr_image_b, x_al0, x_call, x_getf, x_ifeq, x_ifne, x_il1, x_iret, x_ldc, x_putf, ↓reduceIte, b_vr_image_22, fd_0_0, fd_0_1, fd_0_2, fd_0_3, fd_0_4, fd_0_5, fd_0_6, fd_0_7, fd_0_8, fd_0_9, sf_0_9, e9]
  all_goals first | rfl | exact ⟨rfl, rfl⟩ | exact ⟨rfl, trivial⟩ | exact ⟨trivial, rfl⟩ | trivial
/-- all goes on from an image -/
theorem s_vimg {w' : Nat → Int32} {V' M' : LW} (hK : Kc w V M pl (some (w', V', M')) R g) (hw : WI w') (H : ∀ g', fC g g' → Kc w' V' M' [] (some (w', V', M')) R g' → P (some (.int (nI 1))) (E g' q)) : callC (ev (d + 4)) vr_image [.ref 0, .int (nI 0)] (E g q) P := by
  refine in_vr_image rfl ?_
  obtain ⟨e9, k1, k2, k3⟩ := hK.2.2.1
  have n10 : (nI 1 = nI 0) = False := eq_false (by decide)
  rw [b_vr_image_0]
  simp -implicitDefEqProofs (disch := first | assumption | omega) only [szS_0, szS_i, szS_r, szS_l, x_cons, x_goto, ob_some, kl_i, kl_r, kl_l, kl_n, push_n, push_s, pop_0, pop_i, pop_r, Int.reduceToNat, List.length_cons, List.length_nil, Nat.reduceAdd, Nat.reduceLeDiff, Nat.zero_add, true_and, nI_n0, nat_le, Nat.add_zero, rt_vr_image_0, rt_vr_image_1, rt_vr_image_b, x_al0, x_call, x_getf, x_ifeq, x_ifne, x_il1, x_iret, x_ldc, x_putf, ↓reduceIte, b_vr_image_22, b_vr_image_31, fd_0_0, fd_0_1, fd_0_2, fd_0_3, fd_0_4, fd_0_5, fd_0_6, fd_0_7, fd_0_8, fd_0_9, sf_0_9, e9, n10]
  refine s_tcopy (t := 1) (s := 31) (by decide) (by decide) (by decide) fun g1 c1 => ?_
  simp -implicitDefEqProofs (disch := first | assumption | omega) only [szS_0, szS_i, szS_r, szS_l, x_cons, x_goto, ob_some, kl_i, kl_r, kl_l, kl_n, push_n, push_s, pop_0, pop_i, pop_r, Int.reduceToNat, List.length_cons, List.length_nil, Nat.reduceAdd, Nat.reduceLeDiff, Nat.zero_add, true_and, nI_n0, nat_le, Nat.add_zero, rt_vr_image_0, rt_vr_image_1, rt_vr_image_b, x_al0, x_call, x_getf, x_ifeq, x_ifne, x_il1, x_iret, x_ldc, x_putf, fd_0_0, fd_0_1, fd_0_2, fd_0_3, fd_0_4, fd_0_5, fd_0_6, fd_0_7, fd_0_8, fd_0_9, sf_0_9, s_forget, pu_g, pu_w, upw_s, upw_w, pu_s]
  have e : ∀ b, b ≠ 91 → (b < 1 ∨ 31 ≤ b) → upw g1 91 (pu (pu (g1 91) 1 (nI 0)) 2 (nI 0)) b = g b := fun b b1 b2 => by rw [upw_o b1]; exact c1.1 b b2
  refine H _ (fun b hb => e b (by omega) (by omega)) ⟨⟨?_, ?_, ?_⟩, rgK_0 (by rw [pu_n (by decide), pu_s]) pu_s, imK_c (g := g) ⟨e9, k1, k2, k3⟩ fun b hb => e b (by omega) (by omega), rdK_c hK.2.2.2 fun b hb => e b (by omega) (by omega)⟩
  · exact Tc_c (Tc_cp hw c1 k1) fun a a1 a2 => upw_o (by omega)
  · exact Tx_c (Tx_cp c1 k2) (fun _ _ => rfl) (fun k _ => by rw [upw_o (by omega)]) (fun k _ => by rw [upw_o (by omega)]) (upw_o (by omega))
  · exact CL_c (CL_cp c1 k3) fun a a1 a2 a3 => upw_o (by omega)
theorem s_vnode (hw : WI w) (hc : Tc 1 w g) {n k : Int32} (H : P (some (.int (ndA w n k))) (E g q)) : callC (ev (d + 2)) vr_node [.ref 0, .int n, .int k] (E g q) P := by
  refine in_vr_node rfl ?_
  rw [b_vr_node_0]
  simp -implicitDefEqProofs (disch := first | assumption | omega) only [szS_0, szS_i, szS_r, szS_l, x_cons, x_goto, ob_some, kl_i, kl_r, kl_l, kl_n, push_n, push_s, pop_0, pop_i, pop_r, Int.reduceToNat, List.length_cons, List.length_nil, Nat.reduceAdd, Nat.reduceLeDiff, Nat.zero_add, true_and, nI_n0, nat_le, Nat.add_zero, rt_vr_node, x_al0, x_al3, x_as3, x_call, x_getf, x_goto, x_iadd, x_iaload, x_icge, x_iclt, x_icne, x_ifne, x_il1, x_il2, x_imul, x_iret, x_isub, x_ldc, x_m1, fd_0_0, fd_0_1, fd_0_2, fd_0_3, fd_0_4, fd_0_5, fd_0_6, fd_0_7, fd_0_8, fd_0_9, sf_0_9, fd_1_0, fd_1_1, fd_1_2, fd_1_3, fd_1_4]
  rw [s_hasNode (t := 1) (by decide) hw (tc_n hc)]
  simp -implicitDefEqProofs (disch := first | assumption | omega) only [szS_0, szS_i, szS_r, szS_l, x_cons, x_goto, ob_some, kl_i, kl_r, kl_l, kl_n, push_n, push_s, pop_0, pop_i, pop_r, Int.reduceToNat, List.length_cons, List.length_nil, Nat.reduceAdd, Nat.reduceLeDiff, Nat.zero_add, true_and, nI_n0, nat_le, Nat.add_zero, rt_vr_node, x_al0, x_al3, x_as3, x_call, x_getf, x_goto, x_iadd, x_iaload, x_icge, x_iclt, x_icne, x_ifne, x_il1, x_il2, x_imul, x_iret, x_isub, x_ldc, x_m1, bI_0]
  unfold ndA at H
  cases h1 : nodeB w n
  · rw [h1, if_neg Bool.false_ne_true] at H
    simp -implicitDefEqProofs (disch := first | assumption | omega) only [↓reduceIte, szS_0, szS_i, szS_r, szS_l, x_cons, x_goto, ob_some, kl_i, kl_r, kl_l, kl_n, push_n, push_s, pop_0, pop_i, pop_r, Int.reduceToNat, List.length_cons, List.length_nil, Nat.reduceAdd, Nat.reduceLeDiff, Nat.zero_add, true_and, nI_n0, nat_le, Nat.add_zero, rt_vr_node, x_al0, x_al3, x_as3, x_call, x_getf, x_goto, x_iadd, x_iaload, x_icge, x_iclt, x_icne, x_ifne, x_il1, x_il2, x_imul, x_iret, x_isub, x_ldc, x_m1]
    exact H
  · obtain ⟨f, hf, rfl⟩ := nodeB_ex hw h1
    have h0 := wi_n hw
    have hf16 : f < 16 := by omega
    have ha := wi_1 hw hf16
    rw [if_pos h1, ix_nI (by omega)] at H
    have e2 : g 3 f = w (10 + 20 * f) := tc_so hc hf16
    have e3 : g 4 f = w (10 + 20 * f + 1) := tc_am hc hf16
    simp -implicitDefEqProofs (disch := first | assumption | omega) only [Bool.true_eq_false, ↓reduceIte, b_vr_node_18, szS_0, szS_i, szS_r, szS_l, x_cons, x_goto, ob_some, kl_i, kl_r, kl_l, kl_n, push_n, push_s, pop_0, pop_i, pop_r, Int.reduceToNat, List.length_cons, List.length_nil, Nat.reduceAdd, Nat.reduceLeDiff, Nat.zero_add, true_and, nI_n0, nat_le, Nat.add_zero, rt_vr_node, x_al0, x_al3, x_as3, x_call, x_getf, x_goto, x_iadd, x_iaload, x_icge, x_iclt, x_icne, x_ifne, x_il1, x_il2, x_imul, x_iret, x_isub, x_ldc, x_m1]
    by_cases k0 : k = nI 0
    · subst k0
      rw [if_pos ⟨by decide, by decide⟩] at H
      simp -implicitDefEqProofs (disch := first | assumption | omega) only [↓reduceIte, szS_0, szS_i, szS_r, szS_l, x_cons, x_goto, ob_some, kl_i, kl_r, kl_l, kl_n, push_n, push_s, pop_0, pop_i, pop_r, Int.reduceToNat, List.length_cons, List.length_nil, Nat.reduceAdd, Nat.reduceLeDiff, Nat.zero_add, true_and, nI_n0, nat_le, Nat.add_zero, rt_vr_node, x_al0, x_al3, x_as3, x_call, x_getf, x_goto, x_iadd, x_iaload, x_icge, x_iclt, x_icne, x_ifne, x_il1, x_il2, x_imul, x_iret, x_isub, x_ldc, x_m1, fd_2_0, sf_2_0, fd_2_1, fd_2_2, fd_2_3, fd_2_4, ld_3, sd_3, ln_3, e2]
      exact H
    · by_cases k1 : k = nI 1
      · subst k1
        rw [if_pos ⟨by decide, by decide⟩] at H
        simp -implicitDefEqProofs (disch := first | assumption | omega) only [k0, ↓reduceIte, szS_0, szS_i, szS_r, szS_l, x_cons, x_goto, ob_some, kl_i, kl_r, kl_l, kl_n, push_n, push_s, pop_0, pop_i, pop_r, Int.reduceToNat, List.length_cons, List.length_nil, Nat.reduceAdd, Nat.reduceLeDiff, Nat.zero_add, true_and, nI_n0, nat_le, Nat.add_zero, rt_vr_node, x_al0, x_al3, x_as3, x_call, x_getf, x_goto, x_iadd, x_iaload, x_icge, x_iclt, x_icne, x_ifne, x_il1, x_il2, x_imul, x_iret, x_isub, x_ldc, x_m1, b_vr_node_29, fd_2_0, sf_2_0, fd_2_1, fd_2_2, fd_2_3, fd_2_4, ld_4, sd_4, ln_4, e3]
        exact H
      · have hno : ¬ (nI 0 ≤ k ∧ k ≤ nI 1) := fun h => by
          obtain ⟨k', hk, rfl⟩ := int_is h (by decide)
          have : k' = 0 ∨ k' = 1 := by omega
          rcases this with rfl | rfl
          · exact k0 rfl
          · exact k1 rfl
        rw [if_neg hno] at H
        simp -implicitDefEqProofs (disch := first | assumption | omega) only [k0, k1, ↓reduceIte, szS_0, szS_i, szS_r, szS_l, x_cons, x_goto, ob_some, kl_i, kl_r, kl_l, kl_n, push_n, push_s, pop_0, pop_i, pop_r, Int.reduceToNat, List.length_cons, List.length_nil, Nat.reduceAdd, Nat.reduceLeDiff, Nat.zero_add, true_and, nI_n0, nat_le, Nat.add_zero, rt_vr_node, x_al0, x_al3, x_as3, x_call, x_getf, x_goto, x_iadd, x_iaload, x_icge, x_iclt, x_icne, x_ifne, x_il1, x_il2, x_imul, x_iret, x_isub, x_ldc, x_m1, b_vr_node_29, b_vr_node_41, fd_2_0, sf_2_0, fd_2_1, fd_2_2, fd_2_3, fd_2_4, ld_4, sd_4, ln_4, e3, ha.1, nI_add]
        rw [ha.1, nI_add] at H
        by_cases h3 : nI 10 ≤ k ∧ k ≤ nI (9 + fd w f 1)
        · obtain ⟨k', hk1, hk2, rfl⟩ := int_in h3 (by decide) (by omega)
          have l1 : ¬ k' < 10 := by omega
          have l2 : k' < 10 + fd w f 1 := by omega
          have e4 : g 5 (f * 3 + (k' - 10)) = w (10 + 20 * f + (2 + (k' - 10))) := tc_to hc hf16 (by omega)
          have e5 : nI (f * 3 + k') - nI 10 = nI (f * 3 + (k' - 10)) := by rw [nI_sub (by omega), show f * 3 + k' - 10 = f * 3 + (k' - 10) by omega]
          rw [if_pos h3, ix_nI (by omega)] at H
          simp -implicitDefEqProofs (disch := first | assumption | omega) only [nI_ltE, l1, l2, ↓reduceIte, szS_0, szS_i, szS_r, szS_l, x_cons, x_goto, ob_some, kl_i, kl_r, kl_l, kl_n, push_n, push_s, pop_0, pop_i, pop_r, Int.reduceToNat, List.length_cons, List.length_nil, Nat.reduceAdd, Nat.reduceLeDiff, Nat.zero_add, true_and, nI_n0, nat_le, Nat.add_zero, rt_vr_node, x_al0, x_al3, x_as3, x_call, x_getf, x_goto, x_iadd, x_iaload, x_icge, x_iclt, x_icne, x_ifne, x_il1, x_il2, x_imul, x_iret, x_isub, x_ldc, x_m1, fd_2_0, sf_2_0, fd_2_1, fd_2_2, fd_2_3, fd_2_4, ld_5, sd_5, ln_5, nI_mul, nI_add, e5, e4, b_vr_node_77]
          exact H
        · rw [if_neg h3] at H
          by_cases l1 : k < nI 10
          · simp -implicitDefEqProofs (disch := first | assumption | omega) only [l1, ↓reduceIte, b_vr_node_76, b_vr_node_77, szS_0, szS_i, szS_r, szS_l, x_cons, x_goto, ob_some, kl_i, kl_r, kl_l, kl_n, push_n, push_s, pop_0, pop_i, pop_r, Int.reduceToNat, List.length_cons, List.length_nil, Nat.reduceAdd, Nat.reduceLeDiff, Nat.zero_add, true_and, nI_n0, nat_le, Nat.add_zero, rt_vr_node, x_al0, x_al3, x_as3, x_call, x_getf, x_goto, x_iadd, x_iaload, x_icge, x_iclt, x_icne, x_ifne, x_il1, x_il2, x_imul, x_iret, x_isub, x_ldc, x_m1]
            exact H
          · have l2 : ¬ k < nI (10 + fd w f 1) := fun l2 => h3 (by
              rw [ltE, nI_I (by omega)] at l1 l2
              rw [leE, leE, nI_I (by omega), nI_I (by omega)]
              omega)
            simp -implicitDefEqProofs (disch := first | assumption | omega) only [l1, l2, ↓reduceIte, b_vr_node_76, b_vr_node_77, szS_0, szS_i, szS_r, szS_l, x_cons, x_goto, ob_some, kl_i, kl_r, kl_l, kl_n, push_n, push_s, pop_0, pop_i, pop_r, Int.reduceToNat, List.length_cons, List.length_nil, Nat.reduceAdd, Nat.reduceLeDiff, Nat.zero_add, true_and, nI_n0, nat_le, Nat.add_zero, rt_vr_node, x_al0, x_al3, x_as3, x_call, x_getf, x_goto, x_iadd, x_iaload, x_icge, x_iclt, x_icne, x_ifne, x_il1, x_il2, x_imul, x_iret, x_isub, x_ldc, x_m1]
            exact H
theorem s_vfork (hw : WI w) (hc : Tc 1 w g) (hL : CL 1 g V M) {n k : Int32} (H : ∀ g', fQ g g' → P (some (.int (fkA V w n k))) (E g' q)) : callC (ev (d + 5)) vr_fork [.ref 0, .int n, .int k] (E g q) P := by
  refine in_vr_fork rfl ?_
  rw [b_vr_fork_0]
  simp -implicitDefEqProofs (disch := first | assumption | omega) only [szS_0, szS_i, szS_r, szS_l, x_cons, x_goto, ob_some, kl_i, kl_r, kl_l, kl_n, push_n, push_s, pop_0, pop_i, pop_r, Int.reduceToNat, List.length_cons, List.length_nil, Nat.reduceAdd, Nat.reduceLeDiff, Nat.zero_add, true_and, nI_n0, nat_le, Nat.add_zero, rt_vr_fork, x_al0, x_call, x_getf, x_goto, x_iadd, x_iaload, x_icge, x_iclt, x_icne, x_ifne, x_il1, x_il2, x_il3, x_imul, x_iret, x_is3, x_isub, x_ldc, x_m1, fd_0_0, fd_0_1, fd_0_2, fd_0_3, fd_0_4, fd_0_5, fd_0_6, fd_0_7, fd_0_8, fd_0_9, sf_0_9, fd_1_0, fd_1_1, fd_1_2, fd_1_3, fd_1_4]
  rw [s_cFork (t := 1) (by decide) hw hc]
  simp -implicitDefEqProofs (disch := first | assumption | omega) only [szS_0, szS_i, szS_r, szS_l, x_cons, x_goto, ob_some, kl_i, kl_r, kl_l, kl_n, push_n, push_s, pop_0, pop_i, pop_r, Int.reduceToNat, List.length_cons, List.length_nil, Nat.reduceAdd, Nat.reduceLeDiff, Nat.zero_add, true_and, nI_n0, nat_le, Nat.add_zero, rt_vr_fork, x_al0, x_call, x_getf, x_goto, x_iadd, x_iaload, x_icge, x_iclt, x_icne, x_ifne, x_il1, x_il2, x_il3, x_imul, x_iret, x_is3, x_isub, x_ldc, x_m1, bI_0]
  unfold fkA at H
  cases h1 : forkB w n
  · rw [h1, if_neg Bool.false_ne_true] at H
    simp -implicitDefEqProofs (disch := first | assumption | omega) only [↓reduceIte, szS_0, szS_i, szS_r, szS_l, x_cons, x_goto, ob_some, kl_i, kl_r, kl_l, kl_n, push_n, push_s, pop_0, pop_i, pop_r, Int.reduceToNat, List.length_cons, List.length_nil, Nat.reduceAdd, Nat.reduceLeDiff, Nat.zero_add, true_and, nI_n0, nat_le, Nat.add_zero, rt_vr_fork, x_al0, x_call, x_getf, x_goto, x_iadd, x_iaload, x_icge, x_iclt, x_icne, x_ifne, x_il1, x_il2, x_il3, x_imul, x_iret, x_is3, x_isub, x_ldc, x_m1]
    exact H g fQ_r
  · obtain ⟨f, hf, rfl, hs⟩ := forkB_ex hw h1
    have h0 := wi_n hw
    have hf16 : f < 16 := by omega
    have ha := wi_1 hw hf16
    rw [if_pos h1, ix_nI (by omega)] at H
    have e3 : g 4 f = nI (fd w f 1) := (tc_am hc hf16).trans ha.1
    obtain ⟨t5, t6, t7⟩ := tc_f hc hf hs
    have e5 : g 18 f = w (10 + 20 * f + 5) := t5
    have e6 : g 19 f = w (10 + 20 * f + 6) := t6
    simp -implicitDefEqProofs (disch := first | assumption | omega) only [Bool.true_eq_false, ↓reduceIte, b_vr_fork_16, szS_0, szS_i, szS_r, szS_l, x_cons, x_goto, ob_some, kl_i, kl_r, kl_l, kl_n, push_n, push_s, pop_0, pop_i, pop_r, Int.reduceToNat, List.length_cons, List.length_nil, Nat.reduceAdd, Nat.reduceLeDiff, Nat.zero_add, true_and, nI_n0, nat_le, Nat.add_zero, rt_vr_fork, x_al0, x_call, x_getf, x_goto, x_iadd, x_iaload, x_icge, x_iclt, x_icne, x_ifne, x_il1, x_il2, x_il3, x_imul, x_iret, x_is3, x_isub, x_ldc, x_m1, fd_0_0, fd_0_1, fd_0_2, fd_0_3, fd_0_4, fd_0_5, fd_0_6, fd_0_7, fd_0_8, fd_0_9, sf_0_9, fd_1_0, fd_1_1, fd_1_2, fd_1_3, fd_1_4, fd_2_0, sf_2_0, fd_2_1, fd_2_2, fd_2_3, fd_2_4, ld_4, sd_4, ln_4, e3]
    by_cases k0 : k = nI 0
    · rw [if_pos k0] at H
      simp -implicitDefEqProofs (disch := first | assumption | omega) only [k0, ↓reduceIte, szS_0, szS_i, szS_r, szS_l, x_cons, x_goto, ob_some, kl_i, kl_r, kl_l, kl_n, push_n, push_s, pop_0, pop_i, pop_r, Int.reduceToNat, List.length_cons, List.length_nil, Nat.reduceAdd, Nat.reduceLeDiff, Nat.zero_add, true_and, nI_n0, nat_le, Nat.add_zero, rt_vr_fork, x_al0, x_call, x_getf, x_goto, x_iadd, x_iaload, x_icge, x_iclt, x_icne, x_ifne, x_il1, x_il2, x_il3, x_imul, x_iret, x_is3, x_isub, x_ldc, x_m1, fd_0_0, fd_0_1, fd_0_2, fd_0_3, fd_0_4, fd_0_5, fd_0_6, fd_0_7, fd_0_8, fd_0_9, sf_0_9, fd_1_0, fd_1_1, fd_1_2, fd_1_3, fd_1_4, fd_7_0, sf_7_0, fd_7_1, sf_7_1, fd_7_2, sf_7_2, fd_7_3, sf_7_3, fd_7_4, sf_7_4, fd_7_5, fd_7_6, fd_7_7, fd_7_8, fd_7_9, fd_7_10, ld_18, sd_18, ln_18, e5]
      exact H g fQ_r
    · rw [if_neg k0] at H
      simp -implicitDefEqProofs (disch := first | assumption | omega) only [k0, ↓reduceIte, szS_0, szS_i, szS_r, szS_l, x_cons, x_goto, ob_some, kl_i, kl_r, kl_l, kl_n, push_n, push_s, pop_0, pop_i, pop_r, Int.reduceToNat, List.length_cons, List.length_nil, Nat.reduceAdd, Nat.reduceLeDiff, Nat.zero_add, true_and, nI_n0, nat_le, Nat.add_zero, rt_vr_fork, x_al0, x_call, x_getf, x_goto, x_iadd, x_iaload, x_icge, x_iclt, x_icne, x_ifne, x_il1, x_il2, x_il3, x_imul, x_iret, x_is3, x_isub, x_ldc, x_m1, b_vr_fork_46]
      by_cases k1 : k = nI 1
      · rw [if_pos k1] at H
        simp -implicitDefEqProofs (disch := first | assumption | omega) only [k1, ↓reduceIte, szS_0, szS_i, szS_r, szS_l, x_cons, x_goto, ob_some, kl_i, kl_r, kl_l, kl_n, push_n, push_s, pop_0, pop_i, pop_r, Int.reduceToNat, List.length_cons, List.length_nil, Nat.reduceAdd, Nat.reduceLeDiff, Nat.zero_add, true_and, nI_n0, nat_le, Nat.add_zero, rt_vr_fork, x_al0, x_call, x_getf, x_goto, x_iadd, x_iaload, x_icge, x_iclt, x_icne, x_ifne, x_il1, x_il2, x_il3, x_imul, x_iret, x_is3, x_isub, x_ldc, x_m1, fd_0_0, fd_0_1, fd_0_2, fd_0_3, fd_0_4, fd_0_5, fd_0_6, fd_0_7, fd_0_8, fd_0_9, sf_0_9, fd_1_0, fd_1_1, fd_1_2, fd_1_3, fd_1_4, fd_7_0, sf_7_0, fd_7_1, sf_7_1, fd_7_2, sf_7_2, fd_7_3, sf_7_3, fd_7_4, sf_7_4, fd_7_5, fd_7_6, fd_7_7, fd_7_8, fd_7_9, fd_7_10, ld_19, sd_19, ln_19, e6]
        exact H g fQ_r
      · rw [if_neg k1, ha.1, nI_add, nI_add] at H
        simp -implicitDefEqProofs (disch := first | assumption | omega) only [k1, ↓reduceIte, szS_0, szS_i, szS_r, szS_l, x_cons, x_goto, ob_some, kl_i, kl_r, kl_l, kl_n, push_n, push_s, pop_0, pop_i, pop_r, Int.reduceToNat, List.length_cons, List.length_nil, Nat.reduceAdd, Nat.reduceLeDiff, Nat.zero_add, true_and, nI_n0, nat_le, Nat.add_zero, rt_vr_fork, x_al0, x_call, x_getf, x_goto, x_iadd, x_iaload, x_icge, x_iclt, x_icne, x_ifne, x_il1, x_il2, x_il3, x_imul, x_iret, x_is3, x_isub, x_ldc, x_m1, b_vr_fork_64, nI_add]
        have last : ¬ (nI 10 ≤ k ∧ k ≤ nI (9 + fd w f 1)) → wp (ev (d + 4)) P vr_fork 103 [some (.ref 0), some (.int (nI f)), some (.int k), some (.int (nI (fd w f 1)))] [] (E g q) := by
          intro h3
          rw [if_neg h3] at H
          rw [b_vr_fork_103]
          simp -implicitDefEqProofs (disch := first | assumption | omega) only [szS_0, szS_i, szS_r, szS_l, x_cons, x_goto, ob_some, kl_i, kl_r, kl_l, kl_n, push_n, push_s, pop_0, pop_i, pop_r, Int.reduceToNat, List.length_cons, List.length_nil, Nat.reduceAdd, Nat.reduceLeDiff, Nat.zero_add, true_and, nI_n0, nat_le, Nat.add_zero, rt_vr_fork, x_al0, x_call, x_getf, x_goto, x_iadd, x_iaload, x_icge, x_iclt, x_icne, x_ifne, x_il1, x_il2, x_il3, x_imul, x_iret, x_is3, x_isub, x_ldc, x_m1, nI_add]
          by_cases h4 : nI 20 ≤ k ∧ k ≤ nI (19 + fd w f 1)
          · obtain ⟨k', hk1, hk2, rfl⟩ := int_in h4 (by decide) (by omega)
            have l1 : ¬ k' < 20 := by omega
            have l2 : k' < 20 + fd w f 1 := by omega
            have e4 : g 20 (f * 3 + (k' - 20)) = w (10 + 20 * f + (7 + (k' - 20))) := t7 _ (by omega)
            have e5 : nI (f * 3 + k') - nI 20 = nI (f * 3 + (k' - 20)) := by rw [nI_sub (by omega), show f * 3 + k' - 20 = f * 3 + (k' - 20) by omega]
            rw [if_pos h4, ix_nI (by omega)] at H
            simp -implicitDefEqProofs (disch := first | assumption | omega) only [nI_ltE, l1, l2, ↓reduceIte, szS_0, szS_i, szS_r, szS_l, x_cons, x_goto, ob_some, kl_i, kl_r, kl_l, kl_n, push_n, push_s, pop_0, pop_i, pop_r, Int.reduceToNat, List.length_cons, List.length_nil, Nat.reduceAdd, Nat.reduceLeDiff, Nat.zero_add, true_and, nI_n0, nat_le, Nat.add_zero, rt_vr_fork, x_al0, x_call, x_getf, x_goto, x_iadd, x_iaload, x_icge, x_iclt, x_icne, x_ifne, x_il1, x_il2, x_il3, x_imul, x_iret, x_is3, x_isub, x_ldc, x_m1, fd_0_0, fd_0_1, fd_0_2, fd_0_3, fd_0_4, fd_0_5, fd_0_6, fd_0_7, fd_0_8, fd_0_9, sf_0_9, fd_1_0, fd_1_1, fd_1_2, fd_1_3, fd_1_4, fd_7_0, sf_7_0, fd_7_1, sf_7_1, fd_7_2, sf_7_2, fd_7_3, sf_7_3, fd_7_4, sf_7_4, fd_7_5, fd_7_6, fd_7_7, fd_7_8, fd_7_9, fd_7_10, ld_20, sd_20, ln_20, nI_mul, nI_add, e5, e4, b_vr_fork_140]
            exact H g fQ_r
          · rw [if_neg h4] at H
            by_cases l1 : k < nI 20
            · simp -implicitDefEqProofs (disch := first | assumption | omega) only [l1, ↓reduceIte, b_vr_fork_139, b_vr_fork_140, szS_0, szS_i, szS_r, szS_l, x_cons, x_goto, ob_some, kl_i, kl_r, kl_l, kl_n, push_n, push_s, pop_0, pop_i, pop_r, Int.reduceToNat, List.length_cons, List.length_nil, Nat.reduceAdd, Nat.reduceLeDiff, Nat.zero_add, true_and, nI_n0, nat_le, Nat.add_zero, rt_vr_fork, x_al0, x_call, x_getf, x_goto, x_iadd, x_iaload, x_icge, x_iclt, x_icne, x_ifne, x_il1, x_il2, x_il3, x_imul, x_iret, x_is3, x_isub, x_ldc, x_m1]
              exact H g fQ_r
            · have l2 : ¬ k < nI (20 + fd w f 1) := fun l2 => h4 (by
                rw [ltE, nI_I (by omega)] at l1 l2
                rw [leE, leE, nI_I (by omega), nI_I (by omega)]
                omega)
              simp -implicitDefEqProofs (disch := first | assumption | omega) only [l1, l2, ↓reduceIte, b_vr_fork_139, b_vr_fork_140, szS_0, szS_i, szS_r, szS_l, x_cons, x_goto, ob_some, kl_i, kl_r, kl_l, kl_n, push_n, push_s, pop_0, pop_i, pop_r, Int.reduceToNat, List.length_cons, List.length_nil, Nat.reduceAdd, Nat.reduceLeDiff, Nat.zero_add, true_and, nI_n0, nat_le, Nat.add_zero, rt_vr_fork, x_al0, x_call, x_getf, x_goto, x_iadd, x_iaload, x_icge, x_iclt, x_icne, x_ifne, x_il1, x_il2, x_il3, x_imul, x_iret, x_is3, x_isub, x_ldc, x_m1]
              exact H g fQ_r
        by_cases h3 : nI 10 ≤ k ∧ k ≤ nI (9 + fd w f 1)
        · obtain ⟨k', hk1, hk2, rfl⟩ := int_in h3 (by decide) (by omega)
          have l1 : ¬ k' < 10 := by omega
          have l2 : k' < 10 + fd w f 1 := by omega
          have la : k' - 10 < am w f := by
            show k' - 10 < fd w f 1
            omega
          have l3 : k' - 10 < 3 := by omega
          rw [if_pos h3, ix_nI (by omega)] at H
          simp -implicitDefEqProofs (disch := first | assumption | omega) only [nI_ltE, l1, l2, ↓reduceIte, szS_0, szS_i, szS_r, szS_l, x_cons, x_goto, ob_some, kl_i, kl_r, kl_l, kl_n, push_n, push_s, pop_0, pop_i, pop_r, Int.reduceToNat, List.length_cons, List.length_nil, Nat.reduceAdd, Nat.reduceLeDiff, Nat.zero_add, true_and, nI_n0, nat_le, Nat.add_zero, rt_vr_fork, x_al0, x_call, x_getf, x_goto, x_iadd, x_iaload, x_icge, x_iclt, x_icne, x_ifne, x_il1, x_il2, x_il3, x_imul, x_iret, x_is3, x_isub, x_ldc, x_m1, fd_0_0, fd_0_1, fd_0_2, fd_0_3, fd_0_4, fd_0_5, fd_0_6, fd_0_7, fd_0_8, fd_0_9, sf_0_9]
          refine s_countVotes (t := 1) (by decide) hw hc hL hf hs fun g1 f1 c1 => ?_
          have e9 : g1 179 (k' - 10) = nI (vfor V w f (k' - 10)) := by rw [c1.1 _ l3, if_pos la]
          simp -implicitDefEqProofs (disch := first | assumption | omega) only [szS_0, szS_i, szS_r, szS_l, x_cons, x_goto, ob_some, kl_i, kl_r, kl_l, kl_n, push_n, push_s, pop_0, pop_i, pop_r, Int.reduceToNat, List.length_cons, List.length_nil, Nat.reduceAdd, Nat.reduceLeDiff, Nat.zero_add, true_and, nI_n0, nat_le, Nat.add_zero, rt_vr_fork, x_al0, x_call, x_getf, x_goto, x_iadd, x_iaload, x_icge, x_iclt, x_icne, x_ifne, x_il1, x_il2, x_il3, x_imul, x_iret, x_is3, x_isub, x_ldc, x_m1, fd_0_0, fd_0_1, fd_0_2, fd_0_3, fd_0_4, fd_0_5, fd_0_6, fd_0_7, fd_0_8, fd_0_9, sf_0_9, fd_174_0, fd_174_1, fd_174_2, fd_174_3, ld_179, sd_179, ln_179, nI_sub, e9]
          exact H g1 <| fQ_mk fun b b1 b2 b4 => f1 b (by omega) (by omega) (by omega) (by omega)
        · by_cases l1 : k < nI 10
          · simp -implicitDefEqProofs (disch := first | assumption | omega) only [l1, ↓reduceIte]
            exact last h3
          · have l2 : ¬ k < nI (10 + fd w f 1) := fun l2 => h3 (by
              rw [ltE, nI_I (by omega)] at l1 l2
              rw [leE, leE, nI_I (by omega), nI_I (by omega)]
              omega)
            simp -implicitDefEqProofs (disch := first | assumption | omega) only [l1, l2, ↓reduceIte, szS_0, szS_i, szS_r, szS_l, x_cons, x_goto, ob_some, kl_i, kl_r, kl_l, kl_n, push_n, push_s, pop_0, pop_i, pop_r, Int.reduceToNat, List.length_cons, List.length_nil, Nat.reduceAdd, Nat.reduceLeDiff, Nat.zero_add, true_and, nI_n0, nat_le, Nat.add_zero, rt_vr_fork, x_al0, x_call, x_getf, x_goto, x_iadd, x_iaload, x_icge, x_iclt, x_icne, x_ifne, x_il1, x_il2, x_il3, x_imul, x_iret, x_is3, x_isub, x_ldc, x_m1]
            exact last h3
theorem s_vof (hw : WI w) (hc : Tc 1 w g) (hL : CL 1 g V M) {t k : Int32} (H : ∀ g', fQ g g' → P (some (.int (ofA M w t k))) (E g' q)) : callC (ev (d + 4)) vr_of [.ref 0, .int t, .int k] (E g q) P := by
  refine in_vr_of rfl ?_
  have no : (townB w t && decide (nI 0 ≤ k ∧ k ≤ nI 8)) = false → wp (ev (d + 3)) P vr_of 24 [some (.ref 0), some (.int t), some (.int k)] [] (E g q) := by
    intro h
    unfold ofA at H
    rw [h, if_neg Bool.false_ne_true] at H
    rw [b_vr_of_24]
    simp -implicitDefEqProofs (disch := first | assumption | omega) only [szS_0, szS_i, szS_r, szS_l, x_cons, x_goto, ob_some, kl_i, kl_r, kl_l, kl_n, push_n, push_s, pop_0, pop_i, pop_r, Int.reduceToNat, List.length_cons, List.length_nil, Nat.reduceAdd, Nat.reduceLeDiff, Nat.zero_add, true_and, nI_n0, nat_le, Nat.add_zero, rt_vr_of, x_aaload, x_al0, x_call, x_getf, x_goto, x_iaload, x_icne, x_ifeq, x_ifne, x_il1, x_il2, x_iret, x_ldc, x_m1]
    exact H g fQ_r
  rw [b_vr_of_0]
  simp -implicitDefEqProofs (disch := first | assumption | omega) only [szS_0, szS_i, szS_r, szS_l, x_cons, x_goto, ob_some, kl_i, kl_r, kl_l, kl_n, push_n, push_s, pop_0, pop_i, pop_r, Int.reduceToNat, List.length_cons, List.length_nil, Nat.reduceAdd, Nat.reduceLeDiff, Nat.zero_add, true_and, nI_n0, nat_le, Nat.add_zero, rt_vr_of, x_aaload, x_al0, x_call, x_getf, x_goto, x_iaload, x_icne, x_ifeq, x_ifne, x_il1, x_il2, x_iret, x_ldc, x_m1, fd_0_0, fd_0_1, fd_0_2, fd_0_3, fd_0_4, fd_0_5, fd_0_6, fd_0_7, fd_0_8, fd_0_9, sf_0_9, fd_1_0, fd_1_1, fd_1_2, fd_1_3, fd_1_4]
  rw [s_cTown (t := 1) (by decide) hw hc]
  simp -implicitDefEqProofs (disch := first | assumption | omega) only [szS_0, szS_i, szS_r, szS_l, x_cons, x_goto, ob_some, kl_i, kl_r, kl_l, kl_n, push_n, push_s, pop_0, pop_i, pop_r, Int.reduceToNat, List.length_cons, List.length_nil, Nat.reduceAdd, Nat.reduceLeDiff, Nat.zero_add, true_and, nI_n0, nat_le, Nat.add_zero, rt_vr_of, x_aaload, x_al0, x_call, x_getf, x_goto, x_iaload, x_icne, x_ifeq, x_ifne, x_il1, x_il2, x_iret, x_ldc, x_m1, bI_0]
  cases h1 : townB w t
  · simp -implicitDefEqProofs (disch := first | assumption | omega) only [↓reduceIte]
    exact no (by rw [h1, Bool.false_and])
  · obtain ⟨t', ht, rfl, hs⟩ := townB_ex hw h1
    have h0 := wi_n hw
    have ht16 : t' < 16 := by omega
    simp -implicitDefEqProofs (disch := first | assumption | omega) only [Bool.true_eq_false, ↓reduceIte, szS_0, szS_i, szS_r, szS_l, x_cons, x_goto, ob_some, kl_i, kl_r, kl_l, kl_n, push_n, push_s, pop_0, pop_i, pop_r, Int.reduceToNat, List.length_cons, List.length_nil, Nat.reduceAdd, Nat.reduceLeDiff, Nat.zero_add, true_and, nI_n0, nat_le, Nat.add_zero, rt_vr_of, x_aaload, x_al0, x_call, x_getf, x_goto, x_iaload, x_icne, x_ifeq, x_ifne, x_il1, x_il2, x_iret, x_ldc, x_m1, s_within, bI_0]
    by_cases h2 : nI 0 ≤ k ∧ k ≤ nI 8
    · obtain ⟨k', hk, rfl⟩ := int_is h2 (by decide)
      simp only [decide_eq_true h2, Bool.true_eq_false, ↓reduceIte]
      unfold ofA at H
      rw [h1, decide_eq_true h2, Bool.true_and, if_pos rfl, ix_nI (by omega), ix_nI (by omega)] at H
      simp only [nI_eqE (a := k') (b := 8) (by omega) (by decide)] at H
      rw [b_vr_of_26]
      simp -implicitDefEqProofs (disch := first | assumption | omega) only [szS_0, szS_i, szS_r, szS_l, x_cons, x_goto, ob_some, kl_i, kl_r, kl_l, kl_n, push_n, push_s, pop_0, pop_i, pop_r, Int.reduceToNat, List.length_cons, List.length_nil, Nat.reduceAdd, Nat.reduceLeDiff, Nat.zero_add, true_and, nI_n0, nat_le, Nat.add_zero, rt_vr_of, x_aaload, x_al0, x_call, x_getf, x_goto, x_iaload, x_icne, x_ifeq, x_ifne, x_il1, x_il2, x_iret, x_ldc, x_m1, nI_eqE]
      by_cases h8 : k' = 8
      · rw [if_pos h8] at H
        rw [if_pos h8]
        try simp -implicitDefEqProofs (disch := first | assumption | omega) only [szS_0, szS_i, szS_r, szS_l, x_cons, x_goto, ob_some, kl_i, kl_r, kl_l, kl_n, push_n, push_s, pop_0, pop_i, pop_r, Int.reduceToNat, List.length_cons, List.length_nil, Nat.reduceAdd, Nat.reduceLeDiff, Nat.zero_add, true_and, nI_n0, nat_le, Nat.add_zero, rt_vr_of, x_aaload, x_al0, x_call, x_getf, x_goto, x_iaload, x_icne, x_ifeq, x_ifne, x_il1, x_il2, x_iret, x_ldc, x_m1, fd_0_0, fd_0_1, fd_0_2, fd_0_3, fd_0_4, fd_0_5, fd_0_6, fd_0_7, fd_0_8, fd_0_9, sf_0_9]
        refine s_cmovers (t := 1) (by decide) hw hc hL ht16 fun g1 f1 => ?_
        simp -implicitDefEqProofs (disch := first | assumption | omega) only [szS_0, szS_i, szS_r, szS_l, x_cons, x_goto, ob_some, kl_i, kl_r, kl_l, kl_n, push_n, push_s, pop_0, pop_i, pop_r, Int.reduceToNat, List.length_cons, List.length_nil, Nat.reduceAdd, Nat.reduceLeDiff, Nat.zero_add, true_and, nI_n0, nat_le, Nat.add_zero, rt_vr_of, x_aaload, x_al0, x_call, x_getf, x_goto, x_iaload, x_icne, x_ifeq, x_ifne, x_il1, x_il2, x_iret, x_ldc, x_m1, b_vr_of_61]
        exact H g1 <| fQ_mk fun b b1 b2 b4 => f1 b (by omega) (by omega)
      · rw [if_neg h8] at H
        rw [if_neg h8]
        have hk8 : k' < 8 := by omega
        have e1 : rld (E g q) 9 (nI k') = some (.ref (10 + k')) := sr_v (s := 7) (by decide) hk8
        have e2 : ild (E g q) (10 + k') (nI t') = some (.int (g (10 + k') t')) := sl_v (s := 7) (by decide) hk8 ht16
        have e3 : g (10 + k') t' = w (10 + 20 * t' + tfd k') := tc_v hc hk8 ht16
        simp -implicitDefEqProofs (disch := first | assumption | omega) only [b_vr_of_47, b_vr_of_61, szS_0, szS_i, szS_r, szS_l, x_cons, x_goto, ob_some, kl_i, kl_r, kl_l, kl_n, push_n, push_s, pop_0, pop_i, pop_r, Int.reduceToNat, List.length_cons, List.length_nil, Nat.reduceAdd, Nat.reduceLeDiff, Nat.zero_add, true_and, nI_n0, nat_le, Nat.add_zero, rt_vr_of, x_aaload, x_al0, x_call, x_getf, x_goto, x_iaload, x_icne, x_ifeq, x_ifne, x_il1, x_il2, x_iret, x_ldc, x_m1, fd_0_0, fd_0_1, fd_0_2, fd_0_3, fd_0_4, fd_0_5, fd_0_6, fd_0_7, fd_0_8, fd_0_9, sf_0_9, fd_1_0, fd_1_1, fd_1_2, fd_1_3, fd_1_4, fd_7_0, sf_7_0, fd_7_1, sf_7_1, fd_7_2, sf_7_2, fd_7_3, sf_7_3, fd_7_4, sf_7_4, fd_7_5, fd_7_6, fd_7_7, fd_7_8, fd_7_9, fd_7_10, e1, e2, e3]
        exact H g fQ_r
    · simp only [decide_eq_false h2, ↓reduceIte]
      exact no (by rw [decide_eq_false h2, Bool.and_false])
theorem s_vvotes (hw : WI w) (hc : Tc 1 w g) (hL : CL 1 g V M) {t f a : Int32} (H : ∀ g', fQ g g' → P (some (.int (vtA V w t f a))) (E g' q)) : callC (ev (d + 4)) vr_votes [.ref 0, .int t, .int f, .int a] (E g q) P := by
  refine in_vr_votes rfl ?_
  have no : (townB w t && armB w f a) = false → wp (ev (d + 3)) P vr_votes 29 [some (.ref 0), some (.int t), some (.int f), some (.int a)] [] (E g q) := by
    intro h
    unfold vtA at H
    rw [h, if_neg Bool.false_ne_true] at H
    rw [b_vr_votes_29]
    simp -implicitDefEqProofs (disch := first | assumption | omega) only [szS_0, szS_i, szS_r, szS_l, x_cons, x_goto, ob_some, kl_i, kl_r, kl_l, kl_n, push_n, push_s, pop_0, pop_i, pop_r, Int.reduceToNat, List.length_cons, List.length_nil, Nat.reduceAdd, Nat.reduceLeDiff, Nat.zero_add, true_and, nI_n0, nat_le, Nat.add_zero, rt_vr_votes, x_al0, x_call, x_getf, x_ifeq, x_ifne, x_il1, x_il2, x_il3, x_iret, x_m1]
    exact H g fQ_r
  rw [b_vr_votes_0]
  simp -implicitDefEqProofs (disch := first | assumption | omega) only [szS_0, szS_i, szS_r, szS_l, x_cons, x_goto, ob_some, kl_i, kl_r, kl_l, kl_n, push_n, push_s, pop_0, pop_i, pop_r, Int.reduceToNat, List.length_cons, List.length_nil, Nat.reduceAdd, Nat.reduceLeDiff, Nat.zero_add, true_and, nI_n0, nat_le, Nat.add_zero, rt_vr_votes, x_al0, x_call, x_getf, x_ifeq, x_ifne, x_il1, x_il2, x_il3, x_iret, x_m1, fd_0_0, fd_0_1, fd_0_2, fd_0_3, fd_0_4, fd_0_5, fd_0_6, fd_0_7, fd_0_8, fd_0_9, sf_0_9, fd_1_0, fd_1_1, fd_1_2, fd_1_3, fd_1_4]
  rw [s_cTown (t := 1) (by decide) hw hc]
  simp -implicitDefEqProofs (disch := first | assumption | omega) only [szS_0, szS_i, szS_r, szS_l, x_cons, x_goto, ob_some, kl_i, kl_r, kl_l, kl_n, push_n, push_s, pop_0, pop_i, pop_r, Int.reduceToNat, List.length_cons, List.length_nil, Nat.reduceAdd, Nat.reduceLeDiff, Nat.zero_add, true_and, nI_n0, nat_le, Nat.add_zero, rt_vr_votes, x_al0, x_call, x_getf, x_ifeq, x_ifne, x_il1, x_il2, x_il3, x_iret, x_m1, bI_0]
  cases h1 : townB w t
  · simp -implicitDefEqProofs (disch := first | assumption | omega) only [↓reduceIte]
    exact no (by rw [h1, Bool.false_and])
  · obtain ⟨t', ht, rfl, hs⟩ := townB_ex hw h1
    have h0 := wi_n hw
    simp -implicitDefEqProofs (disch := first | assumption | omega) only [Bool.true_eq_false, ↓reduceIte, szS_0, szS_i, szS_r, szS_l, x_cons, x_goto, ob_some, kl_i, kl_r, kl_l, kl_n, push_n, push_s, pop_0, pop_i, pop_r, Int.reduceToNat, List.length_cons, List.length_nil, Nat.reduceAdd, Nat.reduceLeDiff, Nat.zero_add, true_and, nI_n0, nat_le, Nat.add_zero, rt_vr_votes, x_al0, x_call, x_getf, x_ifeq, x_ifne, x_il1, x_il2, x_il3, x_iret, x_m1, fd_0_0, fd_0_1, fd_0_2, fd_0_3, fd_0_4, fd_0_5, fd_0_6, fd_0_7, fd_0_8, fd_0_9, sf_0_9, fd_1_0, fd_1_1, fd_1_2, fd_1_3, fd_1_4]
    rw [s_cArm (t := 1) (by decide) hw hc]
    simp -implicitDefEqProofs (disch := first | assumption | omega) only [szS_0, szS_i, szS_r, szS_l, x_cons, x_goto, ob_some, kl_i, kl_r, kl_l, kl_n, push_n, push_s, pop_0, pop_i, pop_r, Int.reduceToNat, List.length_cons, List.length_nil, Nat.reduceAdd, Nat.reduceLeDiff, Nat.zero_add, true_and, nI_n0, nat_le, Nat.add_zero, rt_vr_votes, x_al0, x_call, x_getf, x_ifeq, x_ifne, x_il1, x_il2, x_il3, x_iret, x_m1, bI_0]
    cases h2 : armB w f a
    · simp -implicitDefEqProofs (disch := first | assumption | omega) only [↓reduceIte, szS_0, szS_i, szS_r, szS_l, x_cons, x_goto, ob_some, kl_i, kl_r, kl_l, kl_n, push_n, push_s, pop_0, pop_i, pop_r, Int.reduceToNat, List.length_cons, List.length_nil, Nat.reduceAdd, Nat.reduceLeDiff, Nat.zero_add, true_and, nI_n0, nat_le, Nat.add_zero, rt_vr_votes, x_al0, x_call, x_getf, x_ifeq, x_ifne, x_il1, x_il2, x_il3, x_iret, x_m1]
      exact no (by rw [h2, Bool.and_false])
    · obtain ⟨f', a', hf, rfl, hsf, ha, rfl⟩ := armB_ex hw h2
      have ha3 := am_le hw (n := f') (by omega)
      unfold vtA at H
      rw [h1, h2, Bool.true_and, if_pos rfl, ix_nI (by omega), ix_nI (by omega), ix_nI (by omega)] at H
      simp -implicitDefEqProofs (disch := first | assumption | omega) only [Bool.true_eq_false, ↓reduceIte, szS_0, szS_i, szS_r, szS_l, x_cons, x_goto, ob_some, kl_i, kl_r, kl_l, kl_n, push_n, push_s, pop_0, pop_i, pop_r, Int.reduceToNat, List.length_cons, List.length_nil, Nat.reduceAdd, Nat.reduceLeDiff, Nat.zero_add, true_and, nI_n0, nat_le, Nat.add_zero, rt_vr_votes, x_al0, x_call, x_getf, x_ifeq, x_ifne, x_il1, x_il2, x_il3, x_iret, x_m1]
      rw [b_vr_votes_31]
      simp -implicitDefEqProofs (disch := first | assumption | omega) only [szS_0, szS_i, szS_r, szS_l, x_cons, x_goto, ob_some, kl_i, kl_r, kl_l, kl_n, push_n, push_s, pop_0, pop_i, pop_r, Int.reduceToNat, List.length_cons, List.length_nil, Nat.reduceAdd, Nat.reduceLeDiff, Nat.zero_add, true_and, nI_n0, nat_le, Nat.add_zero, rt_vr_votes, x_al0, x_call, x_getf, x_ifeq, x_ifne, x_il1, x_il2, x_il3, x_iret, x_m1, fd_0_0, fd_0_1, fd_0_2, fd_0_3, fd_0_4, fd_0_5, fd_0_6, fd_0_7, fd_0_8, fd_0_9, sf_0_9]
      refine s_cvotesOf (t := 1) (by decide) hw hc hL ht hs hf hsf ha fun g1 f1 => ?_
      simp -implicitDefEqProofs (disch := first | assumption | omega) only [szS_0, szS_i, szS_r, szS_l, x_cons, x_goto, ob_some, kl_i, kl_r, kl_l, kl_n, push_n, push_s, pop_0, pop_i, pop_r, Int.reduceToNat, List.length_cons, List.length_nil, Nat.reduceAdd, Nat.reduceLeDiff, Nat.zero_add, true_and, nI_n0, nat_le, Nat.add_zero, rt_vr_votes, x_al0, x_call, x_getf, x_ifeq, x_ifne, x_il1, x_il2, x_il3, x_iret, x_m1]
      exact H g1 <| fQ_mk fun b b1 b2 b4 => f1 b (by omega) (by omega)
theorem s_vcame (hw : WI w) (hc : Tc 1 w g) {i j : Int32} (H : P (some (.int (caA w i j))) (E g q)) : callC (ev (d + 2)) vr_came [.ref 0, .int i, .int j] (E g q) P := by
  refine in_vr_came rfl ?_
  have h0 := wi_n hw
  have n10 : (nI 1 = nI 0) = False := eq_false (by decide)
  rw [b_vr_came_0]
  simp -implicitDefEqProofs (disch := first | assumption | omega) only [szS_0, szS_i, szS_r, szS_l, x_cons, x_goto, ob_some, kl_i, kl_r, kl_l, kl_n, push_n, push_s, pop_0, pop_i, pop_r, Int.reduceToNat, List.length_cons, List.length_nil, Nat.reduceAdd, Nat.reduceLeDiff, Nat.zero_add, true_and, nI_n0, nat_le, Nat.add_zero, rt_vr_came, x_al0, x_call, x_getf, x_goto, x_iadd, x_iaload, x_ifeq, x_il1, x_il2, x_il3, x_imul, x_iret, x_is3, x_ldc, x_m1, fd_0_0, fd_0_1, fd_0_2, fd_0_3, fd_0_4, fd_0_5, fd_0_6, fd_0_7, fd_0_8, fd_0_9, sf_0_9, fd_1_0, fd_1_1, fd_1_2, fd_1_3, fd_1_4]
  rw [s_hasNode (t := 1) (by decide) hw (tc_n hc)]
  simp -implicitDefEqProofs (disch := first | assumption | omega) only [szS_0, szS_i, szS_r, szS_l, x_cons, x_goto, ob_some, kl_i, kl_r, kl_l, kl_n, push_n, push_s, pop_0, pop_i, pop_r, Int.reduceToNat, List.length_cons, List.length_nil, Nat.reduceAdd, Nat.reduceLeDiff, Nat.zero_add, true_and, nI_n0, nat_le, Nat.add_zero, rt_vr_came, x_al0, x_call, x_getf, x_goto, x_iadd, x_iaload, x_ifeq, x_il1, x_il2, x_il3, x_imul, x_iret, x_is3, x_ldc, x_m1, bI_0]
  unfold caA at H
  cases h1 : nodeB w i
  · rw [h1, Bool.false_and, if_neg Bool.false_ne_true] at H
    simp -implicitDefEqProofs (disch := first | assumption | omega) only [↓reduceIte, b_vr_came_32, b_vr_came_33, b_vr_came_58, b_vr_came_59, szS_0, szS_i, szS_r, szS_l, x_cons, x_goto, ob_some, kl_i, kl_r, kl_l, kl_n, push_n, push_s, pop_0, pop_i, pop_r, Int.reduceToNat, List.length_cons, List.length_nil, Nat.reduceAdd, Nat.reduceLeDiff, Nat.zero_add, true_and, nI_n0, nat_le, Nat.add_zero, rt_vr_came, x_al0, x_call, x_getf, x_goto, x_iadd, x_iaload, x_ifeq, x_il1, x_il2, x_il3, x_imul, x_iret, x_is3, x_ldc, x_m1]
    exact H
  · obtain ⟨i', hi, rfl⟩ := nodeB_ex hw h1
    simp -implicitDefEqProofs (disch := first | assumption | omega) only [Bool.true_eq_false, ↓reduceIte, szS_0, szS_i, szS_r, szS_l, x_cons, x_goto, ob_some, kl_i, kl_r, kl_l, kl_n, push_n, push_s, pop_0, pop_i, pop_r, Int.reduceToNat, List.length_cons, List.length_nil, Nat.reduceAdd, Nat.reduceLeDiff, Nat.zero_add, true_and, nI_n0, nat_le, Nat.add_zero, rt_vr_came, x_al0, x_call, x_getf, x_goto, x_iadd, x_iaload, x_ifeq, x_il1, x_il2, x_il3, x_imul, x_iret, x_is3, x_ldc, x_m1, fd_0_0, fd_0_1, fd_0_2, fd_0_3, fd_0_4, fd_0_5, fd_0_6, fd_0_7, fd_0_8, fd_0_9, sf_0_9, fd_1_0, fd_1_1, fd_1_2, fd_1_3, fd_1_4]
    rw [s_hasNode (t := 1) (by decide) hw (tc_n hc)]
    simp -implicitDefEqProofs (disch := first | assumption | omega) only [szS_0, szS_i, szS_r, szS_l, x_cons, x_goto, ob_some, kl_i, kl_r, kl_l, kl_n, push_n, push_s, pop_0, pop_i, pop_r, Int.reduceToNat, List.length_cons, List.length_nil, Nat.reduceAdd, Nat.reduceLeDiff, Nat.zero_add, true_and, nI_n0, nat_le, Nat.add_zero, rt_vr_came, x_al0, x_call, x_getf, x_goto, x_iadd, x_iaload, x_ifeq, x_il1, x_il2, x_il3, x_imul, x_iret, x_is3, x_ldc, x_m1, bI_0]
    rw [h1, Bool.true_and] at H
    cases h2 : nodeB w j
    · rw [h2, if_neg Bool.false_ne_true] at H
      simp -implicitDefEqProofs (disch := first | assumption | omega) only [↓reduceIte, b_vr_came_32, b_vr_came_33, b_vr_came_58, b_vr_came_59, szS_0, szS_i, szS_r, szS_l, x_cons, x_goto, ob_some, kl_i, kl_r, kl_l, kl_n, push_n, push_s, pop_0, pop_i, pop_r, Int.reduceToNat, List.length_cons, List.length_nil, Nat.reduceAdd, Nat.reduceLeDiff, Nat.zero_add, true_and, nI_n0, nat_le, Nat.add_zero, rt_vr_came, x_al0, x_call, x_getf, x_goto, x_iadd, x_iaload, x_ifeq, x_il1, x_il2, x_il3, x_imul, x_iret, x_is3, x_ldc, x_m1]
      exact H
    · obtain ⟨j', hj, rfl⟩ := nodeB_ex hw h2
      rw [h2, if_pos rfl, ix_nI (by omega), ix_nI (by omega)] at H
      have e : g 21 (i' * 16 + j') = w (340 + 16 * i' + j') := by
        have := hc.2.2.2.2.2.2 (i' * 16 + j') (by omega)
        rw [show 340 + (i' * 16 + j') = 340 + 16 * i' + j' by omega] at this
        exact this
      simp -implicitDefEqProofs (disch := first | assumption | omega) only [Bool.true_eq_false, ↓reduceIte, szS_0, szS_i, szS_r, szS_l, x_cons, x_goto, ob_some, kl_i, kl_r, kl_l, kl_n, push_n, push_s, pop_0, pop_i, pop_r, Int.reduceToNat, List.length_cons, List.length_nil, Nat.reduceAdd, Nat.reduceLeDiff, Nat.zero_add, true_and, nI_n0, nat_le, Nat.add_zero, rt_vr_came, x_al0, x_call, x_getf, x_goto, x_iadd, x_iaload, x_ifeq, x_il1, x_il2, x_il3, x_imul, x_iret, x_is3, x_ldc, x_m1, b_vr_came_33, n10, fd_0_0, fd_0_1, fd_0_2, fd_0_3, fd_0_4, fd_0_5, fd_0_6, fd_0_7, fd_0_8, fd_0_9, sf_0_9, fd_1_0, fd_1_1, fd_1_2, fd_1_3, fd_1_4, fd_7_0, sf_7_0, fd_7_1, sf_7_1, fd_7_2, sf_7_2, fd_7_3, sf_7_3, fd_7_4, sf_7_4, fd_7_5, fd_7_6, fd_7_7, fd_7_8, fd_7_9, fd_7_10, ld_21, sd_21, ln_21, nI_mul, nI_add, e, b_vr_came_59]
      exact H
theorem s_vbook (hw : WI w) (hx : Tx true 1 w g) {i k : Int32} (H : P (some (.int (bkA w i k))) (E g q)) : callC (ev (d + 1)) vr_book [.ref 0, .int i, .int k] (E g q) P := by
  refine in_vr_book rfl ?_
  have h2 := wi_2 hw
  have e4 : g 7 4 = nI (vN w 2) := hx.1.1.trans h2.1
  have hb : ∀ k, k < 600 → g 30 k = w (600 + k) := hx.1.2
  have no : ¬ (nI 0 ≤ i ∧ i ≤ w 2 - nI 1 ∧ nI 0 ≤ k ∧ k ≤ nI 3) → wp (ev d) P vr_book 27 [some (.ref 0), some (.int i), some (.int k)] [] (E g q) := by
    intro h
    unfold bkA at H
    rw [if_neg (fun h1 => h (by
      rw [Bool.and_eq_true] at h1
      have a1 := of_decide_eq_true h1.1
      have a2 := of_decide_eq_true h1.2
      exact ⟨a1.1, a1.2, a2.1, a2.2⟩))] at H
    rw [b_vr_book_27]
    simp -implicitDefEqProofs (disch := first | assumption | omega) only [szS_0, szS_i, szS_r, szS_l, x_cons, x_goto, ob_some, kl_i, kl_r, kl_l, kl_n, push_n, push_s, pop_0, pop_i, pop_r, Int.reduceToNat, List.length_cons, List.length_nil, Nat.reduceAdd, Nat.reduceLeDiff, Nat.zero_add, true_and, nI_n0, nat_le, Nat.add_zero, rt_vr_book, x_al0, x_getf, x_iadd, x_iaload, x_icge, x_iclt, x_iflt, x_il1, x_il2, x_imul, x_iret, x_ldc, x_m1]
    exact H
  have sI : (w 2 - nI 1).toInt = (vN w 2 : Int) - 1 := by rw [h2.1]; exact nI_sI (by omega) (by decide)
  rw [b_vr_book_0]
  simp -implicitDefEqProofs (disch := first | assumption | omega) only [szS_0, szS_i, szS_r, szS_l, x_cons, x_goto, ob_some, kl_i, kl_r, kl_l, kl_n, push_n, push_s, pop_0, pop_i, pop_r, Int.reduceToNat, List.length_cons, List.length_nil, Nat.reduceAdd, Nat.reduceLeDiff, Nat.zero_add, true_and, nI_n0, nat_le, Nat.add_zero, rt_vr_book, x_al0, x_getf, x_iadd, x_iaload, x_icge, x_iclt, x_iflt, x_il1, x_il2, x_imul, x_iret, x_ldc, x_m1, fd_0_0, fd_0_1, fd_0_2, fd_0_3, fd_0_4, fd_0_5, fd_0_6, fd_0_7, fd_0_8, fd_0_9, sf_0_9, fd_1_0, fd_1_1, fd_1_2, fd_1_3, fd_1_4, fd_7_0, sf_7_0, fd_7_1, sf_7_1, fd_7_2, sf_7_2, fd_7_3, sf_7_3, fd_7_4, sf_7_4, fd_7_5, fd_7_6, fd_7_7, fd_7_8, fd_7_9, fd_7_10, e4]
  by_cases h1 : i < nI 0
  · rw [if_pos h1]
    exact no fun h => by
      have := h.1
      rw [← lt_le] at this
      exact this h1
  · by_cases h3 : i < nI (vN w 2)
    · rw [lt_le] at h1
      obtain ⟨i', hi, rfl⟩ := nI_is h1 h3 (by omega)
      rw [if_neg (by rw [lt_le]; exact h1)]
      simp -implicitDefEqProofs (disch := first | assumption | omega) only [szS_0, szS_i, szS_r, szS_l, x_cons, x_goto, ob_some, kl_i, kl_r, kl_l, kl_n, push_n, push_s, pop_0, pop_i, pop_r, Int.reduceToNat, List.length_cons, List.length_nil, Nat.reduceAdd, Nat.reduceLeDiff, Nat.zero_add, true_and, nI_n0, nat_le, Nat.add_zero, rt_vr_book, x_al0, x_getf, x_iadd, x_iaload, x_icge, x_iclt, x_iflt, x_il1, x_il2, x_imul, x_iret, x_ldc, x_m1, fd_0_0, fd_0_1, fd_0_2, fd_0_3, fd_0_4, fd_0_5, fd_0_6, fd_0_7, fd_0_8, fd_0_9, sf_0_9, fd_1_0, fd_1_1, fd_1_2, fd_1_3, fd_1_4, fd_7_0, sf_7_0, fd_7_1, sf_7_1, fd_7_2, sf_7_2, fd_7_3, sf_7_3, fd_7_4, sf_7_4, fd_7_5, fd_7_6, fd_7_7, fd_7_8, fd_7_9, fd_7_10, e4, nI_ltE, hi, ↓reduceIte]
      by_cases k1 : k < nI 0
      · rw [if_pos k1]
        exact no fun h => by
          have := h.2.2.1
          rw [← lt_le] at this
          exact this k1
      · rw [if_neg k1]
        try simp -implicitDefEqProofs (disch := first | assumption | omega) only [szS_0, szS_i, szS_r, szS_l, x_cons, x_goto, ob_some, kl_i, kl_r, kl_l, kl_n, push_n, push_s, pop_0, pop_i, pop_r, Int.reduceToNat, List.length_cons, List.length_nil, Nat.reduceAdd, Nat.reduceLeDiff, Nat.zero_add, true_and, nI_n0, nat_le, Nat.add_zero, rt_vr_book, x_al0, x_getf, x_iadd, x_iaload, x_icge, x_iclt, x_iflt, x_il1, x_il2, x_imul, x_iret, x_ldc, x_m1]
        by_cases k2 : k < nI 4
        · rw [lt_le] at k1
          obtain ⟨k', hk, rfl⟩ := nI_is k1 k2 (by decide)
          rw [if_pos k2]
          have e : g 30 (i' * 4 + k') = w (600 + 4 * i' + k') := by rw [hb _ (by omega), show 600 + (i' * 4 + k') = 600 + 4 * i' + k' by omega]
          unfold bkA at H
          rw [decide_eq_true ⟨h1, by rw [leE, sI, nI_I (by omega)]; omega⟩, decide_eq_true ⟨k1, by rw [nI_leE (by omega) (by decide)]; omega⟩, Bool.true_and, if_pos rfl, ix_nI (by omega), ix_nI (by omega)] at H
          rw [b_vr_book_29]
          simp -implicitDefEqProofs (disch := first | assumption | omega) only [szS_0, szS_i, szS_r, szS_l, x_cons, x_goto, ob_some, kl_i, kl_r, kl_l, kl_n, push_n, push_s, pop_0, pop_i, pop_r, Int.reduceToNat, List.length_cons, List.length_nil, Nat.reduceAdd, Nat.reduceLeDiff, Nat.zero_add, true_and, nI_n0, nat_le, Nat.add_zero, rt_vr_book, x_al0, x_getf, x_iadd, x_iaload, x_icge, x_iclt, x_iflt, x_il1, x_il2, x_imul, x_iret, x_ldc, x_m1, fd_0_0, fd_0_1, fd_0_2, fd_0_3, fd_0_4, fd_0_5, fd_0_6, fd_0_7, fd_0_8, fd_0_9, sf_0_9, fd_1_0, fd_1_1, fd_1_2, fd_1_3, fd_1_4, ld_30, sd_30, ln_30, nI_mul, nI_add, e]
          exact H
        · rw [if_neg k2]
          try simp -implicitDefEqProofs (disch := first | assumption | omega) only [szS_0, szS_i, szS_r, szS_l, x_cons, x_goto, ob_some, kl_i, kl_r, kl_l, kl_n, push_n, push_s, pop_0, pop_i, pop_r, Int.reduceToNat, List.length_cons, List.length_nil, Nat.reduceAdd, Nat.reduceLeDiff, Nat.zero_add, true_and, nI_n0, nat_le, Nat.add_zero, rt_vr_book, x_al0, x_getf, x_iadd, x_iaload, x_icge, x_iclt, x_iflt, x_il1, x_il2, x_imul, x_iret, x_ldc, x_m1]
          exact no fun h => by
            have := h.2.2.2
            rw [leE, nI_I (by decide)] at this
            rw [ltE, nI_I (by decide)] at k2
            omega
    · rw [if_neg h1]
      try simp -implicitDefEqProofs (disch := first | assumption | omega) only [szS_0, szS_i, szS_r, szS_l, x_cons, x_goto, ob_some, kl_i, kl_r, kl_l, kl_n, push_n, push_s, pop_0, pop_i, pop_r, Int.reduceToNat, List.length_cons, List.length_nil, Nat.reduceAdd, Nat.reduceLeDiff, Nat.zero_add, true_and, nI_n0, nat_le, Nat.add_zero, rt_vr_book, x_al0, x_getf, x_iadd, x_iaload, x_icge, x_iclt, x_iflt, x_il1, x_il2, x_imul, x_iret, x_ldc, x_m1, fd_0_0, fd_0_1, fd_0_2, fd_0_3, fd_0_4, fd_0_5, fd_0_6, fd_0_7, fd_0_8, fd_0_9, sf_0_9, fd_1_0, fd_1_1, fd_1_2, fd_1_3, fd_1_4, fd_7_0, sf_7_0, fd_7_1, sf_7_1, fd_7_2, sf_7_2, fd_7_3, sf_7_3, fd_7_4, sf_7_4, fd_7_5, fd_7_6, fd_7_7, fd_7_8, fd_7_9, fd_7_10, e4]
      rw [if_neg h3]
      exact no fun h => by
        have := h.2.1
        rw [leE, sI] at this
        rw [ltE, nI_I (by omega)] at h3
        omega
/-- the towns below n behind more than one arm -/
theorem tb_lp (hw : WI w) (hc : Tc 1 w g) {f : Nat} (hf : f < nn w) (H : P (some (.int (nI (twc w f)))) (E g q)) : ∀ (j n : Nat), n + j = nn w → f < n →
    wp (ev (d + 2)) P co_twiceBehind 7 [some (.ref 184), some (.ref 2), some (.int (nI f)), some (.int (nI (bset (fun m => decide (f < m ∧ fd w m 0 = 1 ∧ 1 < abf w f m (am w f))) n))), some (.int (nI n))] [] (E g q) := by
  have h0 := wi_n hw
  have e1 : g 2 0 = nI (nn w) := (tc_n hc).trans h0.1
  intro j
  induction j with
  | zero =>
    intro n hn hfn
    have hn : n = nn w := hn
    subst hn
    have e : bset (fun m => decide (f < m ∧ fd w m 0 = 1 ∧ 1 < abf w f m (am w f))) (nn w) = twc w f := by
      refine bt_eq fun m => ?_
      rw [bset_t]
      by_cases hm : m < nn w
      · by_cases hs : fd w m 0 = 1
        · rw [twc_f hw hm hs]
          by_cases hfm : f < m
          · rw [decide_eq_true hm, Bool.true_and, decide_eq_true_eq, decide_eq_true_eq]
            exact ⟨fun h => h.2.2, fun h => ⟨hfm, hs, h⟩⟩
          · have hz : abf w f m (am w f) = 0 := by
              unfold abf
              have : ∀ n, n ≤ am w f → cnt (fun a => decide (far w (tg w f a) m ≠ 99)) n = 0 := by
                intro n
                induction n with
                | zero => exact fun _ => rfl
                | succ n ih =>
                  intro hn
                  have ht := tg_lt hw (n := f) (a := n) (by omega) (by omega)
                  have hf9 := far_no hw ht.2 (m := m) (Or.inl (by omega))
                  rw [cnt_s, ih (by omega), hf9]
                  rfl
              exact this _ (Nat.le_refl _)
            rw [decide_eq_true hm, Bool.true_and, decide_eq_true_eq, decide_eq_true_eq]
            exact ⟨fun h => absurd h.1 hfm, fun h => by omega⟩
        · have : (twc w f).testBit m = false := by
            unfold twc
            rw [Nat.testBit_and]
            have : (tws w (nn w)).testBit m = false := by
              cases hb : (tws w (nn w)).testBit m
              · rfl
              · exact absurd (tws_t.mp hb).2.2 hs
            rw [this, Bool.and_false]
          rw [this, decide_eq_true hm, Bool.true_and, decide_eq_true_eq]
          exact ⟨fun h => absurd h.2.1 hs, fun h => Bool.noConfusion h⟩
      · have : (twc w f).testBit m = false := by
          unfold twc
          rw [Nat.testBit_and]
          have : (tws w (nn w)).testBit m = false := by
            cases hb : (tws w (nn w)).testBit m
            · rfl
            · exact absurd (tws_t.mp hb).1 hm
          rw [this, Bool.and_false]
        rw [this, decide_eq_false hm, Bool.false_and]
    rw [b_co_twiceBehind_7]
    simp -implicitDefEqProofs (disch := first | assumption | omega) only [szS_0, szS_i, szS_r, szS_l, x_cons, x_goto, ob_some, kl_i, kl_r, kl_l, kl_n, push_n, push_s, pop_0, pop_i, pop_r, Int.reduceToNat, List.length_cons, List.length_nil, Nat.reduceAdd, Nat.reduceLeDiff, Nat.zero_add, true_and, nI_n0, nat_le, Nat.add_zero, i_1, rt_co_twiceBehind, x_al1, x_call, x_getf, x_goto, x_iadd, x_iaload, x_icge, x_icle, x_icne, x_il2, x_il3, x_il4, x_inc4, x_ior, x_iret, x_is3, x_is4, x_ishl, x_ldc, fd_2_0, sf_2_0, fd_2_1, fd_2_2, fd_2_3, fd_2_4, e1, nI_ltE, Nat.lt_irrefl, ↓reduceIte, b_co_twiceBehind_51]
    rw [e]
    exact H
  | succ j ih =>
    intro n hn hfn
    have hn' : n < nn w := by omega
    have hn16 : n < 16 := by omega
    have hz := wi_0 hw hn16
    have e2 : g 3 n = nI (fd w n 0) := (tc_so hc hn16).trans hz.1
    have hi := ih (n + 1) (by omega) (by omega)
    have eB : bset (fun m => decide (f < m ∧ fd w m 0 = 1 ∧ 1 < abf w f m (am w f))) (n + 1) = bset (fun m => decide (f < m ∧ fd w m 0 = 1 ∧ 1 < abf w f m (am w f))) n ||| (if decide (f < n ∧ fd w n 0 = 1 ∧ 1 < abf w f n (am w f)) = true then 2 ^ n else 0) := rfl
    rw [eB] at hi
    have hab := abf_l (w := w) (f := f) (m := n) (n := am w f)
    have ha3 := am_le hw (n := f) (by omega)
    rw [b_co_twiceBehind_7]
    simp -implicitDefEqProofs (disch := first | assumption | omega) only [szS_0, szS_i, szS_r, szS_l, x_cons, x_goto, ob_some, kl_i, kl_r, kl_l, kl_n, push_n, push_s, pop_0, pop_i, pop_r, Int.reduceToNat, List.length_cons, List.length_nil, Nat.reduceAdd, Nat.reduceLeDiff, Nat.zero_add, true_and, nI_n0, nat_le, Nat.add_zero, i_1, rt_co_twiceBehind, x_al1, x_call, x_getf, x_goto, x_iadd, x_iaload, x_icge, x_icle, x_icne, x_il2, x_il3, x_il4, x_inc4, x_ior, x_iret, x_is3, x_is4, x_ishl, x_ldc, fd_2_0, sf_2_0, fd_2_1, fd_2_2, fd_2_3, fd_2_4, ld_3, sd_3, ln_3, e1, e2, nI_ltE, hn', ↓reduceIte, nI_eqE]
    by_cases hs : fd w n 0 = 1
    · rw [if_pos hs]
      try simp -implicitDefEqProofs (disch := first | assumption | omega) only [szS_0, szS_i, szS_r, szS_l, x_cons, x_goto, ob_some, kl_i, kl_r, kl_l, kl_n, push_n, push_s, pop_0, pop_i, pop_r, Int.reduceToNat, List.length_cons, List.length_nil, Nat.reduceAdd, Nat.reduceLeDiff, Nat.zero_add, true_and, nI_n0, nat_le, Nat.add_zero, i_1, rt_co_twiceBehind, x_al1, x_call, x_getf, x_goto, x_iadd, x_iaload, x_icge, x_icle, x_icne, x_il2, x_il3, x_il4, x_inc4, x_ior, x_iret, x_is3, x_is4, x_ishl, x_ldc]
      rw [s_armsBefore (t := 1) (by decide) hw hc (by omega) hn16]
      simp -implicitDefEqProofs (disch := first | assumption | omega) only [szS_0, szS_i, szS_r, szS_l, x_cons, x_goto, ob_some, kl_i, kl_r, kl_l, kl_n, push_n, push_s, pop_0, pop_i, pop_r, Int.reduceToNat, List.length_cons, List.length_nil, Nat.reduceAdd, Nat.reduceLeDiff, Nat.zero_add, true_and, nI_n0, nat_le, Nat.add_zero, i_1, rt_co_twiceBehind, x_al1, x_call, x_getf, x_goto, x_iadd, x_iaload, x_icge, x_icle, x_icne, x_il2, x_il3, x_il4, x_inc4, x_ior, x_iret, x_is3, x_is4, x_ishl, x_ldc, nI_ltE]
      by_cases h1 : 1 < abf w f n (am w f)
      · rw [if_pos (decide_eq_true ⟨hfn, hs, h1⟩)] at hi
        rw [if_pos h1]
        try simp -implicitDefEqProofs (disch := first | assumption | omega) only [szS_0, szS_i, szS_r, szS_l, x_cons, x_goto, ob_some, kl_i, kl_r, kl_l, kl_n, push_n, push_s, pop_0, pop_i, pop_r, Int.reduceToNat, List.length_cons, List.length_nil, Nat.reduceAdd, Nat.reduceLeDiff, Nat.zero_add, true_and, nI_n0, nat_le, Nat.add_zero, i_1, rt_co_twiceBehind, x_al1, x_call, x_getf, x_goto, x_iadd, x_iaload, x_icge, x_icle, x_icne, x_il2, x_il3, x_il4, x_inc4, x_ior, x_iret, x_is3, x_is4, x_ishl, x_ldc, nI_shl1, nI_or, b_co_twiceBehind_45, nI_add]
        exact hi
      · rw [if_neg (fun h => h1 (of_decide_eq_true h).2.2), Nat.or_zero] at hi
        rw [if_neg h1]
        try simp -implicitDefEqProofs (disch := first | assumption | omega) only [b_co_twiceBehind_45, szS_0, szS_i, szS_r, szS_l, x_cons, x_goto, ob_some, kl_i, kl_r, kl_l, kl_n, push_n, push_s, pop_0, pop_i, pop_r, Int.reduceToNat, List.length_cons, List.length_nil, Nat.reduceAdd, Nat.reduceLeDiff, Nat.zero_add, true_and, nI_n0, nat_le, Nat.add_zero, i_1, rt_co_twiceBehind, x_al1, x_call, x_getf, x_goto, x_iadd, x_iaload, x_icge, x_icle, x_icne, x_il2, x_il3, x_il4, x_inc4, x_ior, x_iret, x_is3, x_is4, x_ishl, x_ldc, nI_add]
        exact hi
    · rw [if_neg (fun h => hs (of_decide_eq_true h).2.1), Nat.or_zero] at hi
      rw [if_neg hs]
      try simp -implicitDefEqProofs (disch := first | assumption | omega) only [b_co_twiceBehind_45, szS_0, szS_i, szS_r, szS_l, x_cons, x_goto, ob_some, kl_i, kl_r, kl_l, kl_n, push_n, push_s, pop_0, pop_i, pop_r, Int.reduceToNat, List.length_cons, List.length_nil, Nat.reduceAdd, Nat.reduceLeDiff, Nat.zero_add, true_and, nI_n0, nat_le, Nat.add_zero, i_1, rt_co_twiceBehind, x_al1, x_call, x_getf, x_goto, x_iadd, x_iaload, x_icge, x_icle, x_icne, x_il2, x_il3, x_il4, x_inc4, x_ior, x_iret, x_is3, x_is4, x_ishl, x_ldc, nI_add]
      exact hi
theorem s_vtwice (hw : WI w) (hc : Tc 1 w g) {f : Int32} (H : P (some (.int (twA w f))) (E g q)) : callC (ev (d + 4)) vr_twice [.ref 0, .int f] (E g q) P := by
  refine in_vr_twice rfl ?_
  rw [b_vr_twice_0]
  simp -implicitDefEqProofs (disch := first | assumption | omega) only [szS_0, szS_i, szS_r, szS_l, x_cons, x_goto, ob_some, kl_i, kl_r, kl_l, kl_n, push_n, push_s, pop_0, pop_i, pop_r, Int.reduceToNat, List.length_cons, List.length_nil, Nat.reduceAdd, Nat.reduceLeDiff, Nat.zero_add, true_and, nI_n0, nat_le, Nat.add_zero, rt_vr_twice, x_al0, x_call, x_getf, x_goto, x_ifeq, x_il1, x_iret, x_m1, fd_0_0, fd_0_1, fd_0_2, fd_0_3, fd_0_4, fd_0_5, fd_0_6, fd_0_7, fd_0_8, fd_0_9, sf_0_9, fd_1_0, fd_1_1, fd_1_2, fd_1_3, fd_1_4]
  rw [s_cFork (t := 1) (by decide) hw hc]
  simp -implicitDefEqProofs (disch := first | assumption | omega) only [szS_0, szS_i, szS_r, szS_l, x_cons, x_goto, ob_some, kl_i, kl_r, kl_l, kl_n, push_n, push_s, pop_0, pop_i, pop_r, Int.reduceToNat, List.length_cons, List.length_nil, Nat.reduceAdd, Nat.reduceLeDiff, Nat.zero_add, true_and, nI_n0, nat_le, Nat.add_zero, rt_vr_twice, x_al0, x_call, x_getf, x_goto, x_ifeq, x_il1, x_iret, x_m1, bI_0]
  unfold twA at H
  cases h1 : forkB w f
  · rw [h1, if_neg Bool.false_ne_true] at H
    simp -implicitDefEqProofs (disch := first | assumption | omega) only [↓reduceIte, b_vr_twice_32, b_vr_twice_33, szS_0, szS_i, szS_r, szS_l, x_cons, x_goto, ob_some, kl_i, kl_r, kl_l, kl_n, push_n, push_s, pop_0, pop_i, pop_r, Int.reduceToNat, List.length_cons, List.length_nil, Nat.reduceAdd, Nat.reduceLeDiff, Nat.zero_add, true_and, nI_n0, nat_le, Nat.add_zero, rt_vr_twice, x_al0, x_call, x_getf, x_goto, x_ifeq, x_il1, x_iret, x_m1]
    exact H
  · obtain ⟨f', hf, rfl, hs⟩ := forkB_ex hw h1
    have h0 := wi_n hw
    rw [h1, if_pos rfl, ix_nI (by omega)] at H
    simp -implicitDefEqProofs (disch := first | assumption | omega) only [Bool.true_eq_false, ↓reduceIte, szS_0, szS_i, szS_r, szS_l, x_cons, x_goto, ob_some, kl_i, kl_r, kl_l, kl_n, push_n, push_s, pop_0, pop_i, pop_r, Int.reduceToNat, List.length_cons, List.length_nil, Nat.reduceAdd, Nat.reduceLeDiff, Nat.zero_add, true_and, nI_n0, nat_le, Nat.add_zero, rt_vr_twice, x_al0, x_call, x_getf, x_goto, x_ifeq, x_il1, x_iret, x_m1, fd_0_0, fd_0_1, fd_0_2, fd_0_3, fd_0_4, fd_0_5, fd_0_6, fd_0_7, fd_0_8, fd_0_9, sf_0_9, fd_1_0, fd_1_1, fd_1_2, fd_1_3, fd_1_4]
    refine in_co_twiceBehind rfl ?_
    rw [b_co_twiceBehind_0]
    have eB : bset (fun m => decide (f' < m ∧ fd w m 0 = 1 ∧ 1 < abf w f' m (am w f'))) (f' + 1) = 0 := bset_f _ fun a ha => decide_eq_false fun h => by omega
    simp -implicitDefEqProofs (disch := first | assumption | omega) only [szS_0, szS_i, szS_r, szS_l, x_cons, x_goto, ob_some, kl_i, kl_r, kl_l, kl_n, push_n, push_s, pop_0, pop_i, pop_r, Int.reduceToNat, List.length_cons, List.length_nil, Nat.reduceAdd, Nat.reduceLeDiff, Nat.zero_add, true_and, nI_n0, nat_le, Nat.add_zero, i_1, rt_co_twiceBehind, x_al1, x_call, x_getf, x_goto, x_iadd, x_iaload, x_icge, x_icle, x_icne, x_il2, x_il3, x_il4, x_inc4, x_ior, x_iret, x_is3, x_is4, x_ishl, x_ldc, nI_add]
    have lp := tb_lp (d := d) (q := q) (P := fun r h => wp (ev (d + 3)) P vr_twice 33 [some (.ref 0), some (.int (nI f'))] (pushR r []) h) hw hc hf (by
      simp -implicitDefEqProofs (disch := first | assumption | omega) only [b_vr_twice_33, szS_0, szS_i, szS_r, szS_l, x_cons, x_goto, ob_some, kl_i, kl_r, kl_l, kl_n, push_n, push_s, pop_0, pop_i, pop_r, Int.reduceToNat, List.length_cons, List.length_nil, Nat.reduceAdd, Nat.reduceLeDiff, Nat.zero_add, true_and, nI_n0, nat_le, Nat.add_zero, rt_vr_twice, x_al0, x_call, x_getf, x_goto, x_ifeq, x_il1, x_iret, x_m1]
      exact H) (nn w - (f' + 1)) (f' + 1) (by omega) (by omega)
    rw [eB] at lp
    exact lp
end CZ
