/-! the reference's ways -/
/-- the row with way v open -/
def oR (w : Nat → Int32) (v : Nat) (r : Nat → Int32) : Prop := (∀ k, (∀ m, m < 16 → k ≠ 10 + 20 * m + 5) → r k = w k) ∧ WI r ∧ ∀ n, n < nn w → fd w n 0 = 0 → fd r n 5 = opV w v n
theorem oR_w {w : Nat → Int32} {r : Nat → Int32} (h : ∀ k, (∀ m, m < 16 → k ≠ 10 + 20 * m + 5) → r k = w k) : wtr w r :=
  ⟨⟨h 0 fun m _ => by omega, fun n f hn hf => h _ fun m _ => by omega⟩, h 7 fun m _ => by omega, fun n hn => ⟨fd_c (h _ fun m _ => by omega), fd_c (h _ fun m _ => by omega), fd_c (h _ fun m _ => by omega)⟩⟩
/-- what has come of the first v ways -/
def mS (w : Nat → Int32) (s v : Nat) (g : Nat → Nat → Int32) : Prop :=
  g 196 39 = nI s ∧ g 196 40 = nI (moM w s v) ∧ g 196 41 = nI (cnt (wyP w s) v) ∧ (cnt (wyP w s) v ≠ 0 → ∀ k, k < nn w → fd w k 0 = 0 → g 217 k = nI (opV w (fsV (wyP w s) v) k))
theorem mS_n {w : Nat → Int32} {s v : Nat} (h : wyP w s v = false) : cnt (wyP w s) (v + 1) = cnt (wyP w s) v ∧ fsV (wyP w s) (v + 1) = fsV (wyP w s) v := by
  refine ⟨by rw [cnt_s, h]; rfl, ?_⟩
  show (if (wyP w s v && _) = true then _ else _) = _
  rw [h, Bool.false_and, if_neg Bool.false_ne_true]
theorem mS_y {w : Nat → Int32} {s v : Nat} (h : wyP w s v = true) : cnt (wyP w s) (v + 1) = cnt (wyP w s) v + 1 ∧ fsV (wyP w s) (v + 1) = if cnt (wyP w s) v = 0 then v else fsV (wyP w s) v := by
  refine ⟨by rw [cnt_s, h]; rfl, ?_⟩
  show (if (wyP w s v && decide (cnt (wyP w s) v = 0)) = true then v else fsV (wyP w s) v) = _
  rw [h, Bool.true_and]
  by_cases e : cnt (wyP w s) v = 0
  · rw [decide_eq_true e, if_pos rfl, if_pos e]
  · rw [decide_eq_false e, if_neg Bool.false_ne_true, if_neg e]
section MW2
variable {d : Nat} {g : Nat → Nat → Int32} {q : Nat → Nat → Int64} {P : QT} {w : Nat → Int32}
theorem ol_c {f n : Int32} {o4 o5 : Option Value} (H : ∀ r o, (∀ k, k < 596 → r k = g 197 k) → wp (ev d) P mo_opensAll 98 [some (.ref 196), some (.int f), some (.int n), o, o4, o5] [] (E (upw g 200 r) q)) : ∀ (j k : Nat) (r : Nat → Int32), k + j = 596 → (∀ i, i < k → r i = g 197 i) →
    wp (ev d) P mo_opensAll 73 [some (.ref 196), some (.int f), some (.int n), some (.int (nI k)), o4, o5] [] (E (upw g 200 r) q) := by
  intro j
  induction j with
  | zero =>
    intro k r hk hr
    have hk : k = 596 := hk
    subst hk
    rw [b_mo_opensAll_73]
    simp -implicitDefEqProofs (disch := first | assumption | omega) only [szS_0, szS_i, szS_r, szS_l, x_cons, x_goto, ob_some, kl_i, kl_r, kl_l, kl_n, push_n, push_s, pop_0, pop_i, pop_r, Int.reduceToNat, List.length_cons, List.length_nil, Nat.reduceAdd, Nat.reduceLeDiff, Nat.zero_add, true_and, nI_n0, nat_le, Nat.add_zero, i_1, rt_mo_opensAll, x_al0, x_call, x_dupi, x_dupr, x_getf, x_goto, x_iadd, x_iaload, x_iand, x_iastore, x_iceq, x_icge, x_icne, x_ifne, x_il1, x_il2, x_il3, x_il4, x_il5, x_inc2, x_inc3, x_inc5, x_ior, x_is2, x_is3, x_is4, x_is5, x_ishl, x_ishr, x_ldc, x_putf, x_vret, nI_ltE, Nat.lt_irrefl, ↓reduceIte]
    exact H r _ hr
  | succ j ih =>
    intro k r hk hr
    have hk' : k < 596 := by omega
    rw [b_mo_opensAll_73]
    simp -implicitDefEqProofs (disch := first | assumption | omega) only [szS_0, szS_i, szS_r, szS_l, x_cons, x_goto, ob_some, kl_i, kl_r, kl_l, kl_n, push_n, push_s, pop_0, pop_i, pop_r, Int.reduceToNat, List.length_cons, List.length_nil, Nat.reduceAdd, Nat.reduceLeDiff, Nat.zero_add, true_and, nI_n0, nat_le, Nat.add_zero, i_1, rt_mo_opensAll, x_al0, x_call, x_dupi, x_dupr, x_getf, x_goto, x_iadd, x_iaload, x_iand, x_iastore, x_iceq, x_icge, x_icne, x_ifne, x_il1, x_il2, x_il3, x_il4, x_il5, x_inc2, x_inc3, x_inc5, x_ior, x_is2, x_is3, x_is4, x_is5, x_ishl, x_ishr, x_ldc, x_putf, x_vret, nI_ltE, hk', ↓reduceIte, fd_196_0, fd_196_1, fd_196_2, fd_196_3, fd_196_4, sf_196_4, fd_196_5, sf_196_5, fd_196_6, fd_196_7, fd_196_8, fd_196_9, fd_196_10, fd_196_11, fd_196_12, sf_196_12, fd_196_13, sf_196_13, fd_196_14, sf_196_14, fd_196_15, sf_196_15, fd_196_16, sf_196_16, fd_196_17, sf_196_17, fd_196_18, sf_196_18, fd_196_19, sf_196_19, fd_196_20, sf_196_20, fd_196_21, sf_196_21, fd_196_22, sf_196_22, fd_196_23, sf_196_23, fd_196_24, sf_196_24, fd_196_25, sf_196_25, fd_196_26, sf_196_26, fd_196_27, fd_196_28, fd_196_29, fd_196_30, sf_196_30, fd_196_31, fd_196_32, fd_196_33, fd_196_34, fd_196_35, fd_196_36, fd_196_37, sf_196_37, fd_196_38, fd_196_39, sf_196_39, fd_196_40, sf_196_40, fd_196_41, sf_196_41, fd_196_42, fd_196_43, fd_196_44, ld_197, sd_197, ln_197, ld_200, sd_200, ln_200, upw_o, pu_w, nI_add]
    refine ih (k + 1) _ (by omega) fun i hi => ?_
    by_cases e : i = k
    · rw [e, pu_s]
    · rw [pu_n e]
      exact hr i (by omega)
theorem ol_t (hw : WI w) {r : Nat → Int32} {s v : Nat} (hs : s < 65536) (hst : ∀ i, s.testBit i = true → i < nn w ∧ fd w i 0 = 1) (hr : oR w v r) (hg : g 197 = flR r (vN w 6)) (h39 : g 196 39 = nI s) {f n : Int32} (H : wp (ev (d + 3)) P mo_opensAll 201 [some (.ref 196), some (.int f), some (.int n), some (.int (nI (gotV w s v (nn w)))), some (.int (nI (wtS w (opV w v) (vN w 6) (nn w)))), some (.int (nI (nn w)))] [] (E g q)) : ∀ (j t : Nat), t + j = nn w →
    wp (ev (d + 3)) P mo_opensAll 117 [some (.ref 196), some (.int f), some (.int n), some (.int (nI (gotV w s v t))), some (.int (nI (wtS w (opV w v) (vN w 6) t))), some (.int (nI t))] [] (E g q) := by
  have hN := wi_n hw
  have hwt := oR_w hr.1
  have h6 := fl6 hw
  have hwf := flR_wi hr.2.1 h6
  have hst2 := flR_stc hr.2.1 (fl := vN w 6)
  have hnr : nn r = nn w := stc_nn hwt.1
  have e0 : g 197 0 = nI (nn w) := by rw [hg, hst2.1, hwt.1.1]; exact hN.1
  have ho : ∀ n, n < nn w → fd w n 0 = 0 → fd r n 5 = opV w v n := hr.2.2
  intro j
  induction j with
  | zero =>
    intro t ht
    have ht : t = nn w := ht
    rw [ht, b_mo_opensAll_117]
    simp -implicitDefEqProofs (disch := first | assumption | omega) only [szS_0, szS_i, szS_r, szS_l, x_cons, x_goto, ob_some, kl_i, kl_r, kl_l, kl_n, push_n, push_s, pop_0, pop_i, pop_r, Int.reduceToNat, List.length_cons, List.length_nil, Nat.reduceAdd, Nat.reduceLeDiff, Nat.zero_add, true_and, nI_n0, nat_le, Nat.add_zero, i_1, rt_mo_opensAll, x_al0, x_call, x_dupi, x_dupr, x_getf, x_goto, x_iadd, x_iaload, x_iand, x_iastore, x_iceq, x_icge, x_icne, x_ifne, x_il1, x_il2, x_il3, x_il4, x_il5, x_inc2, x_inc3, x_inc5, x_ior, x_is2, x_is3, x_is4, x_is5, x_ishl, x_ishr, x_ldc, x_putf, x_vret, fd_196_0, fd_196_1, fd_196_2, fd_196_3, fd_196_4, sf_196_4, fd_196_5, sf_196_5, fd_196_6, fd_196_7, fd_196_8, fd_196_9, fd_196_10, fd_196_11, fd_196_12, sf_196_12, fd_196_13, sf_196_13, fd_196_14, sf_196_14, fd_196_15, sf_196_15, fd_196_16, sf_196_16, fd_196_17, sf_196_17, fd_196_18, sf_196_18, fd_196_19, sf_196_19, fd_196_20, sf_196_20, fd_196_21, sf_196_21, fd_196_22, sf_196_22, fd_196_23, sf_196_23, fd_196_24, sf_196_24, fd_196_25, sf_196_25, fd_196_26, sf_196_26, fd_196_27, fd_196_28, fd_196_29, fd_196_30, sf_196_30, fd_196_31, fd_196_32, fd_196_33, fd_196_34, fd_196_35, fd_196_36, fd_196_37, sf_196_37, fd_196_38, fd_196_39, sf_196_39, fd_196_40, sf_196_40, fd_196_41, sf_196_41, fd_196_42, fd_196_43, fd_196_44, ld_197, sd_197, ln_197, e0, nI_ltE, Nat.lt_irrefl, ↓reduceIte]
    exact H
  | succ j ih =>
    intro t ht
    have ht' : t < nn w := by omega
    have ht16 : t < 16 := by omega
    have hi := ih (t + 1) (by omega)
    have eg : gotV w s v (t + 1) = gotV w s v t + (if s.testBit t = true then (if fd w t 11 < cmA w (opV w v) (vN w 6) t then fd w t 11 else cmA w (opV w v) (vN w 6) t) else 0) := rfl
    rw [eg, wtS_s] at hi
    have eT : townB (g 197) (nI t) = decide (fd w t 0 = 1) := by
      rw [hg, townB_nI hwf (by omega), stc_nn hst2, hnr, stc_fd hst2 ht16 (by decide), stc_fd hwt.1 ht16 (by decide), decide_eq_true ht', Bool.true_and]
    rw [b_mo_opensAll_117]
    simp -implicitDefEqProofs (disch := first | assumption | omega) only [szS_0, szS_i, szS_r, szS_l, x_cons, x_goto, ob_some, kl_i, kl_r, kl_l, kl_n, push_n, push_s, pop_0, pop_i, pop_r, Int.reduceToNat, List.length_cons, List.length_nil, Nat.reduceAdd, Nat.reduceLeDiff, Nat.zero_add, true_and, nI_n0, nat_le, Nat.add_zero, i_1, rt_mo_opensAll, x_al0, x_call, x_dupi, x_dupr, x_getf, x_goto, x_iadd, x_iaload, x_iand, x_iastore, x_iceq, x_icge, x_icne, x_ifne, x_il1, x_il2, x_il3, x_il4, x_il5, x_inc2, x_inc3, x_inc5, x_ior, x_is2, x_is3, x_is4, x_is5, x_ishl, x_ishr, x_ldc, x_putf, x_vret, fd_196_0, fd_196_1, fd_196_2, fd_196_3, fd_196_4, sf_196_4, fd_196_5, sf_196_5, fd_196_6, fd_196_7, fd_196_8, fd_196_9, fd_196_10, fd_196_11, fd_196_12, sf_196_12, fd_196_13, sf_196_13, fd_196_14, sf_196_14, fd_196_15, sf_196_15, fd_196_16, sf_196_16, fd_196_17, sf_196_17, fd_196_18, sf_196_18, fd_196_19, sf_196_19, fd_196_20, sf_196_20, fd_196_21, sf_196_21, fd_196_22, sf_196_22, fd_196_23, sf_196_23, fd_196_24, sf_196_24, fd_196_25, sf_196_25, fd_196_26, sf_196_26, fd_196_27, fd_196_28, fd_196_29, fd_196_30, sf_196_30, fd_196_31, fd_196_32, fd_196_33, fd_196_34, fd_196_35, fd_196_36, fd_196_37, sf_196_37, fd_196_38, fd_196_39, sf_196_39, fd_196_40, sf_196_40, fd_196_41, sf_196_41, fd_196_42, fd_196_43, fd_196_44, ld_197, sd_197, ln_197, e0, nI_ltE, ht', ↓reduceIte]
    rw [s_isTown (by rw [hg]; exact hwf), eT]
    simp -implicitDefEqProofs (disch := first | assumption | omega) only [szS_0, szS_i, szS_r, szS_l, x_cons, x_goto, ob_some, kl_i, kl_r, kl_l, kl_n, push_n, push_s, pop_0, pop_i, pop_r, Int.reduceToNat, List.length_cons, List.length_nil, Nat.reduceAdd, Nat.reduceLeDiff, Nat.zero_add, true_and, nI_n0, nat_le, Nat.add_zero, i_1, rt_mo_opensAll, x_al0, x_call, x_dupi, x_dupr, x_getf, x_goto, x_iadd, x_iaload, x_iand, x_iastore, x_iceq, x_icge, x_icne, x_ifne, x_il1, x_il2, x_il3, x_il4, x_il5, x_inc2, x_inc3, x_inc5, x_ior, x_is2, x_is3, x_is4, x_is5, x_ishl, x_ishr, x_ldc, x_putf, x_vret, bI_0]
    by_cases h1 : fd w t 0 = 1
    · have hrs : fd r t 0 = 1 := by rw [stc_fd hwt.1 ht16 (by decide)]; exact h1
      have hfw := flR_w hr.2.1 (fl := vN w 6) (n := t) (by rw [hnr]; exact ht') hrs
      have ecA : cmA r (fun n => fd r n 5) (vN w 6) t = cmA w (opV w v) (vN w 6) t := cmA_c hw hwt ho (by omega)
      have ewP : wetP r (cmA r (fun n => fd r n 5) (vN w 6) t) t = wetP w (cmA w (opV w v) (vN w 6) t) t := by
        unfold wetP
        rw [ecA, (hwt.2.2 t ht16).1, (hwt.2.2 t ht16).2.2]
      rw [ecA] at hfw
      rw [ecA] at ewP
      rw [ewP] at hfw
      have e17 : g 197 (10 + 20 * t + 17) = nI (if wetP w (cmA w (opV w v) (vN w 6) t) t = true then 1 else 0) := by rw [hg]; exact hfw.1
      have e12 : g 197 (10 + 20 * t + 12) = nI (cmA w (opV w v) (vN w 6) t) := by rw [hg]; exact hfw.2
      have hcl := cm_le hw (opV_O hw v) (fl := vN w 6) ht16
      have hy := (wi_y hr.2.1 ht16).2.1
      have e11 : g 197 (10 + 20 * t + 11) = nI (fd w t 11) := by
        have : flR r (vN w 6) (10 + 20 * t + 11) = r (10 + 20 * t + 11) := by
          unfold flR
          rw [cmw_o (by omega)]
          exact flN_o (by omega) _ fun m _ => by omega
        rw [hg, this, hy.1, (hwt.2.2 t ht16).1]
      have h11 : fd w t 11 ≤ 999 := (wi_y hw ht16).2.1.2
      rw [decide_eq_true h1, Bool.true_and] at hi
      have wetgo : ∀ x, x = gotV w s v t + (if s.testBit t = true then (if fd w t 11 < cmA w (opV w v) (vN w 6) t then fd w t 11 else cmA w (opV w v) (vN w 6) t) else 0) → ∀ y, nI (gotV w s v t) + y = nI x → wp (ev (d + 3)) P mo_opensAll 177 [some (.ref 196), some (.int f), some (.int n), some (.int (nI (gotV w s v t))), some (.int (nI (wtS w (opV w v) (vN w 6) t))), some (.int (nI t))] [.int y, .int (nI (gotV w s v t))] (E g q) := by
        intro x hx y hy
        rw [← hx] at hi
        have hmul : ∀ c : Bool, (if c = true then 1 else 0) * 2 ^ t = (if c = true then 2 ^ t else 0) := fun c => by
          cases c
          · exact Nat.zero_mul _
          · exact Nat.one_mul _
        have hsh : nI (if wetP w (cmA w (opV w v) (vN w 6) t) t = true then 1 else 0) <<< (nI t &&& 31) = nI (if wetP w (cmA w (opV w v) (vN w 6) t) t = true then 2 ^ t else 0) := by
          have hp : (2 : Nat) ^ t < 2 ^ 16 := Nat.pow_lt_pow_right (by decide) ht16
          have h16 : (2 : Nat) ^ 16 = 65536 := rfl
          rw [nI_shl (by omega) (by rw [hmul]; split <;> omega), hmul]
        rw [b_mo_opensAll_177]
        simp -implicitDefEqProofs (disch := first | assumption | omega) only [szS_0, szS_i, szS_r, szS_l, x_cons, x_goto, ob_some, kl_i, kl_r, kl_l, kl_n, push_n, push_s, pop_0, pop_i, pop_r, Int.reduceToNat, List.length_cons, List.length_nil, Nat.reduceAdd, Nat.reduceLeDiff, Nat.zero_add, true_and, nI_n0, nat_le, Nat.add_zero, i_1, rt_mo_opensAll, x_al0, x_call, x_dupi, x_dupr, x_getf, x_goto, x_iadd, x_iaload, x_iand, x_iastore, x_iceq, x_icge, x_icne, x_ifne, x_il1, x_il2, x_il3, x_il4, x_il5, x_inc2, x_inc3, x_inc5, x_ior, x_is2, x_is3, x_is4, x_is5, x_ishl, x_ishr, x_ldc, x_putf, x_vret, hy, s_own, e17, hsh, nI_or, b_mo_opensAll_195, nI_add]
        exact hi
      rw [decide_eq_true h1]
      simp -implicitDefEqProofs (disch := first | assumption | omega) only [Bool.true_eq_false, ↓reduceIte, b_mo_opensAll_140, szS_0, szS_i, szS_r, szS_l, x_cons, x_goto, ob_some, kl_i, kl_r, kl_l, kl_n, push_n, push_s, pop_0, pop_i, pop_r, Int.reduceToNat, List.length_cons, List.length_nil, Nat.reduceAdd, Nat.reduceLeDiff, Nat.zero_add, true_and, nI_n0, nat_le, Nat.add_zero, i_1, rt_mo_opensAll, x_al0, x_call, x_dupi, x_dupr, x_getf, x_goto, x_iadd, x_iaload, x_iand, x_iastore, x_iceq, x_icge, x_icne, x_ifne, x_il1, x_il2, x_il3, x_il4, x_il5, x_inc2, x_inc3, x_inc5, x_ior, x_is2, x_is3, x_is4, x_is5, x_ishl, x_ishr, x_ldc, x_putf, x_vret, fd_196_0, fd_196_1, fd_196_2, fd_196_3, fd_196_4, sf_196_4, fd_196_5, sf_196_5, fd_196_6, fd_196_7, fd_196_8, fd_196_9, fd_196_10, fd_196_11, fd_196_12, sf_196_12, fd_196_13, sf_196_13, fd_196_14, sf_196_14, fd_196_15, sf_196_15, fd_196_16, sf_196_16, fd_196_17, sf_196_17, fd_196_18, sf_196_18, fd_196_19, sf_196_19, fd_196_20, sf_196_20, fd_196_21, sf_196_21, fd_196_22, sf_196_22, fd_196_23, sf_196_23, fd_196_24, sf_196_24, fd_196_25, sf_196_25, fd_196_26, sf_196_26, fd_196_27, fd_196_28, fd_196_29, fd_196_30, sf_196_30, fd_196_31, fd_196_32, fd_196_33, fd_196_34, fd_196_35, fd_196_36, fd_196_37, sf_196_37, fd_196_38, fd_196_39, sf_196_39, fd_196_40, sf_196_40, fd_196_41, sf_196_41, fd_196_42, fd_196_43, fd_196_44, h39, nI_bt, tbI_1]
      by_cases hb : s.testBit t = true
      · rw [if_pos hb]
        try simp -implicitDefEqProofs (disch := first | assumption | omega) only [szS_0, szS_i, szS_r, szS_l, x_cons, x_goto, ob_some, kl_i, kl_r, kl_l, kl_n, push_n, push_s, pop_0, pop_i, pop_r, Int.reduceToNat, List.length_cons, List.length_nil, Nat.reduceAdd, Nat.reduceLeDiff, Nat.zero_add, true_and, nI_n0, nat_le, Nat.add_zero, i_1, rt_mo_opensAll, x_al0, x_call, x_dupi, x_dupr, x_getf, x_goto, x_iadd, x_iaload, x_iand, x_iastore, x_iceq, x_icge, x_icne, x_ifne, x_il1, x_il2, x_il3, x_il4, x_il5, x_inc2, x_inc3, x_inc5, x_ior, x_is2, x_is3, x_is4, x_is5, x_ishl, x_ishr, x_ldc, x_putf, x_vret, s_own, e12, e11, s_lesser]
        refine wetgo _ rfl _ ?_
        rw [if_pos hb]
        simp only [nI_ltE (a := cmA w (opV w v) (vN w 6) t) (b := fd w t 11) (by omega) (by omega), nI_ite]
        rw [nI_add, ← min_s]
      · rw [if_neg hb]
        try simp -implicitDefEqProofs (disch := first | assumption | omega) only [b_mo_opensAll_176, szS_0, szS_i, szS_r, szS_l, x_cons, x_goto, ob_some, kl_i, kl_r, kl_l, kl_n, push_n, push_s, pop_0, pop_i, pop_r, Int.reduceToNat, List.length_cons, List.length_nil, Nat.reduceAdd, Nat.reduceLeDiff, Nat.zero_add, true_and, nI_n0, nat_le, Nat.add_zero, i_1, rt_mo_opensAll, x_al0, x_call, x_dupi, x_dupr, x_getf, x_goto, x_iadd, x_iaload, x_iand, x_iastore, x_iceq, x_icge, x_icne, x_ifne, x_il1, x_il2, x_il3, x_il4, x_il5, x_inc2, x_inc3, x_inc5, x_ior, x_is2, x_is3, x_is4, x_is5, x_ishl, x_ishr, x_ldc, x_putf, x_vret]
        refine wetgo _ rfl _ ?_
        rw [if_neg hb, nI_add]
    · have hb : s.testBit t = false := by
        cases hb : s.testBit t
        · rfl
        · exact absurd (hst t hb).2 h1
      rw [decide_eq_false h1, Bool.false_and, if_neg Bool.false_ne_true, Nat.or_zero, hb, if_neg Bool.false_ne_true, Nat.add_zero] at hi
      rw [decide_eq_false h1]
      simp -implicitDefEqProofs (disch := first | assumption | omega) only [↓reduceIte, szS_0, szS_i, szS_r, szS_l, x_cons, x_goto, ob_some, kl_i, kl_r, kl_l, kl_n, push_n, push_s, pop_0, pop_i, pop_r, Int.reduceToNat, List.length_cons, List.length_nil, Nat.reduceAdd, Nat.reduceLeDiff, Nat.zero_add, true_and, nI_n0, nat_le, Nat.add_zero, i_1, rt_mo_opensAll, x_al0, x_call, x_dupi, x_dupr, x_getf, x_goto, x_iadd, x_iaload, x_iand, x_iastore, x_iceq, x_icge, x_icne, x_ifne, x_il1, x_il2, x_il3, x_il4, x_il5, x_inc2, x_inc3, x_inc5, x_ior, x_is2, x_is3, x_is4, x_is5, x_ishl, x_ishr, x_ldc, x_putf, x_vret, b_mo_opensAll_195, nI_add]
      exact hi
theorem ol_f {g0 : Nat → Nat → Int32} {r : Nat → Int32} {N : Nat} (hN : N ≤ 16) (h7 : g0 197 = r) (e0 : r 0 = nI N) {f n v3 v4 : Int32} (H : ∀ r2, (∀ k, k < N → r2 k = r (10 + 20 * k + 5)) → wp (ev (d + 1)) P mo_opensAll 268 [some (.ref 196), some (.int f), some (.int n), some (.int v3), some (.int v4), some (.int (nI N))] [] (E (upw g0 217 r2) q)) : ∀ (j k : Nat) (r2 : Nat → Int32), k + j = N → (∀ i, i < k → r2 i = r (10 + 20 * i + 5)) →
    wp (ev (d + 1)) P mo_opensAll 237 [some (.ref 196), some (.int f), some (.int n), some (.int v3), some (.int v4), some (.int (nI k))] [] (E (upw g0 217 r2) q) := by
  intro j
  induction j with
  | zero =>
    intro k r2 hk hr
    have hk : k = N := hk
    subst hk
    rw [b_mo_opensAll_237]
    simp -implicitDefEqProofs (disch := first | assumption | omega) only [szS_0, szS_i, szS_r, szS_l, x_cons, x_goto, ob_some, kl_i, kl_r, kl_l, kl_n, push_n, push_s, pop_0, pop_i, pop_r, Int.reduceToNat, List.length_cons, List.length_nil, Nat.reduceAdd, Nat.reduceLeDiff, Nat.zero_add, true_and, nI_n0, nat_le, Nat.add_zero, i_1, rt_mo_opensAll, x_al0, x_call, x_dupi, x_dupr, x_getf, x_goto, x_iadd, x_iaload, x_iand, x_iastore, x_iceq, x_icge, x_icne, x_ifne, x_il1, x_il2, x_il3, x_il4, x_il5, x_inc2, x_inc3, x_inc5, x_ior, x_is2, x_is3, x_is4, x_is5, x_ishl, x_ishr, x_ldc, x_putf, x_vret, fd_196_0, fd_196_1, fd_196_2, fd_196_3, fd_196_4, sf_196_4, fd_196_5, sf_196_5, fd_196_6, fd_196_7, fd_196_8, fd_196_9, fd_196_10, fd_196_11, fd_196_12, sf_196_12, fd_196_13, sf_196_13, fd_196_14, sf_196_14, fd_196_15, sf_196_15, fd_196_16, sf_196_16, fd_196_17, sf_196_17, fd_196_18, sf_196_18, fd_196_19, sf_196_19, fd_196_20, sf_196_20, fd_196_21, sf_196_21, fd_196_22, sf_196_22, fd_196_23, sf_196_23, fd_196_24, sf_196_24, fd_196_25, sf_196_25, fd_196_26, sf_196_26, fd_196_27, fd_196_28, fd_196_29, fd_196_30, sf_196_30, fd_196_31, fd_196_32, fd_196_33, fd_196_34, fd_196_35, fd_196_36, fd_196_37, sf_196_37, fd_196_38, fd_196_39, sf_196_39, fd_196_40, sf_196_40, fd_196_41, sf_196_41, fd_196_42, fd_196_43, fd_196_44, ld_197, sd_197, ln_197, upw_o, h7, e0, nI_ltE, Nat.lt_irrefl, ↓reduceIte]
    exact H r2 hr
  | succ j ih =>
    intro k r2 hk hr
    have hk' : k < N := by omega
    rw [b_mo_opensAll_237]
    simp -implicitDefEqProofs (disch := first | assumption | omega) only [szS_0, szS_i, szS_r, szS_l, x_cons, x_goto, ob_some, kl_i, kl_r, kl_l, kl_n, push_n, push_s, pop_0, pop_i, pop_r, Int.reduceToNat, List.length_cons, List.length_nil, Nat.reduceAdd, Nat.reduceLeDiff, Nat.zero_add, true_and, nI_n0, nat_le, Nat.add_zero, i_1, rt_mo_opensAll, x_al0, x_call, x_dupi, x_dupr, x_getf, x_goto, x_iadd, x_iaload, x_iand, x_iastore, x_iceq, x_icge, x_icne, x_ifne, x_il1, x_il2, x_il3, x_il4, x_il5, x_inc2, x_inc3, x_inc5, x_ior, x_is2, x_is3, x_is4, x_is5, x_ishl, x_ishr, x_ldc, x_putf, x_vret, fd_196_0, fd_196_1, fd_196_2, fd_196_3, fd_196_4, sf_196_4, fd_196_5, sf_196_5, fd_196_6, fd_196_7, fd_196_8, fd_196_9, fd_196_10, fd_196_11, fd_196_12, sf_196_12, fd_196_13, sf_196_13, fd_196_14, sf_196_14, fd_196_15, sf_196_15, fd_196_16, sf_196_16, fd_196_17, sf_196_17, fd_196_18, sf_196_18, fd_196_19, sf_196_19, fd_196_20, sf_196_20, fd_196_21, sf_196_21, fd_196_22, sf_196_22, fd_196_23, sf_196_23, fd_196_24, sf_196_24, fd_196_25, sf_196_25, fd_196_26, sf_196_26, fd_196_27, fd_196_28, fd_196_29, fd_196_30, sf_196_30, fd_196_31, fd_196_32, fd_196_33, fd_196_34, fd_196_35, fd_196_36, fd_196_37, sf_196_37, fd_196_38, fd_196_39, sf_196_39, fd_196_40, sf_196_40, fd_196_41, sf_196_41, fd_196_42, fd_196_43, fd_196_44, ld_197, sd_197, ln_197, ld_217, sd_217, ln_217, upw_o, h7, e0, nI_ltE, hk', ↓reduceIte, s_own, pu_w, nI_add]
    refine ih (k + 1) _ (by omega) fun i hi => ?_
    by_cases e : i = k
    · rw [e, pu_s]
    · rw [pu_n e]
      exact hr i (by omega)
/-- a whole way is looked at -/
theorem oa_leaf (hw : WI w) {r : Nat → Int32} {s v : Nat} (hs : s < 65536) (hst : ∀ i, s.testBit i = true → i < nn w ∧ fd w i 0 = 1) (hv : v ≤ 2187) (hr : oR w v r) (h7 : g 197 = r) (hm : mS w s v g) {f n : Int32} {o3 o4 o5 : Option Value} (H : ∀ g', FR [200, 208, 197, 217] [40, 41] g g' → g' 197 = r → mS w s (v + 1) g' → P none (E g' q)) :
    wp (ev (d + 5)) P mo_opensAll 71 [some (.ref 196), some (.int f), some (.int n), o3, o4, o5] [] (E g q) := by
  have hN := wi_n hw
  have hwt := oR_w hr.1
  have h6 := wi_6 hw
  have e6 : r 6 = nI (vN w 6) := by rw [hr.1 6 fun m _ => by omega]; exact h6.1
  have er0 : r 0 = nI (nn w) := by rw [hwt.1.1]; exact hN.1
  obtain ⟨m1, m2, m3, m4⟩ := hm
  have hml := moM_l hw (s := s) v
  have hgl := gotV_l hw (s := s) (v := v) (nn w) hN.2.1
  have hwl := wtS_l (w := w) (op := opV w v) (fl := vN w 6) hN.2.1
  have hcl := cnt_le (p := wyP w s) v
  rw [b_mo_opensAll_71]
  simp -implicitDefEqProofs (disch := first | assumption | omega) only [szS_0, szS_i, szS_r, szS_l, x_cons, x_goto, ob_some, kl_i, kl_r, kl_l, kl_n, push_n, push_s, pop_0, pop_i, pop_r, Int.reduceToNat, List.length_cons, List.length_nil, Nat.reduceAdd, Nat.reduceLeDiff, Nat.zero_add, true_and, nI_n0, nat_le, Nat.add_zero, i_1, rt_mo_opensAll, x_al0, x_call, x_dupi, x_dupr, x_getf, x_goto, x_iadd, x_iaload, x_iand, x_iastore, x_iceq, x_icge, x_icne, x_ifne, x_il1, x_il2, x_il3, x_il4, x_il5, x_inc2, x_inc3, x_inc5, x_ior, x_is2, x_is3, x_is4, x_is5, x_ishl, x_ishr, x_ldc, x_putf, x_vret]
  rw [show E g q = E (upw g 200 (g 200)) q by rw [upw_g]]
  refine ol_c (fun r2 o hr2 => ?_) 596 0 _ rfl fun k hk => absurd hk (Nat.not_lt_zero k)
  have e1 : upw g 200 r2 197 = r := by rw [upw_o (by decide)]; exact h7
  rw [b_mo_opensAll_98]
  simp -implicitDefEqProofs (disch := first | assumption | omega) only [szS_0, szS_i, szS_r, szS_l, x_cons, x_goto, ob_some, kl_i, kl_r, kl_l, kl_n, push_n, push_s, pop_0, pop_i, pop_r, Int.reduceToNat, List.length_cons, List.length_nil, Nat.reduceAdd, Nat.reduceLeDiff, Nat.zero_add, true_and, nI_n0, nat_le, Nat.add_zero, i_1, rt_mo_opensAll, x_al0, x_call, x_dupi, x_dupr, x_getf, x_goto, x_iadd, x_iaload, x_iand, x_iastore, x_iceq, x_icge, x_icne, x_ifne, x_il1, x_il2, x_il3, x_il4, x_il5, x_inc2, x_inc3, x_inc5, x_ior, x_is2, x_is3, x_is4, x_is5, x_ishl, x_ishr, x_ldc, x_putf, x_vret, fd_196_0, fd_196_1, fd_196_2, fd_196_3, fd_196_4, sf_196_4, fd_196_5, sf_196_5, fd_196_6, fd_196_7, fd_196_8, fd_196_9, fd_196_10, fd_196_11, fd_196_12, sf_196_12, fd_196_13, sf_196_13, fd_196_14, sf_196_14, fd_196_15, sf_196_15, fd_196_16, sf_196_16, fd_196_17, sf_196_17, fd_196_18, sf_196_18, fd_196_19, sf_196_19, fd_196_20, sf_196_20, fd_196_21, sf_196_21, fd_196_22, sf_196_22, fd_196_23, sf_196_23, fd_196_24, sf_196_24, fd_196_25, sf_196_25, fd_196_26, sf_196_26, fd_196_27, fd_196_28, fd_196_29, fd_196_30, sf_196_30, fd_196_31, fd_196_32, fd_196_33, fd_196_34, fd_196_35, fd_196_36, fd_196_37, sf_196_37, fd_196_38, fd_196_39, sf_196_39, fd_196_40, sf_196_40, fd_196_41, sf_196_41, fd_196_42, fd_196_43, fd_196_44, ld_197, sd_197, ln_197, e1, e6]
  refine s_flows (by rw [e1]; exact hr.2.1) (fl6 hw) fun r3 => ?_
  rw [e1]
  simp -implicitDefEqProofs (disch := first | assumption | omega) only [szS_0, szS_i, szS_r, szS_l, x_cons, x_goto, ob_some, kl_i, kl_r, kl_l, kl_n, push_n, push_s, pop_0, pop_i, pop_r, Int.reduceToNat, List.length_cons, List.length_nil, Nat.reduceAdd, Nat.reduceLeDiff, Nat.zero_add, true_and, nI_n0, nat_le, Nat.add_zero, i_1, rt_mo_opensAll, x_al0, x_call, x_dupi, x_dupr, x_getf, x_goto, x_iadd, x_iaload, x_iand, x_iastore, x_iceq, x_icge, x_icne, x_ifne, x_il1, x_il2, x_il3, x_il4, x_il5, x_inc2, x_inc3, x_inc5, x_ior, x_is2, x_is3, x_is4, x_is5, x_ishl, x_ishr, x_ldc, x_putf, x_vret]
  have eo : ∀ b, b ≠ 200 → b ≠ 208 → b ≠ 197 → upw (upw (upw g 200 r2) 208 r3) 197 (flR r (vN w 6)) b = g b := fun b b1 b2 b3 => by rw [upw_o b3, upw_o b2, upw_o b1]
  refine ol_t hw hs hst hr upw_s (by rw [eo 196 (by decide) (by decide) (by decide)]; exact m1) ?_ (nn w) 0 (Nat.zero_add _)
  rw [b_mo_opensAll_201]
  simp -implicitDefEqProofs (disch := first | assumption | omega) only [szS_0, szS_i, szS_r, szS_l, x_cons, x_goto, ob_some, kl_i, kl_r, kl_l, kl_n, push_n, push_s, pop_0, pop_i, pop_r, Int.reduceToNat, List.length_cons, List.length_nil, Nat.reduceAdd, Nat.reduceLeDiff, Nat.zero_add, true_and, nI_n0, nat_le, Nat.add_zero, i_1, rt_mo_opensAll, x_al0, x_call, x_dupi, x_dupr, x_getf, x_goto, x_iadd, x_iaload, x_iand, x_iastore, x_iceq, x_icge, x_icne, x_ifne, x_il1, x_il2, x_il3, x_il4, x_il5, x_inc2, x_inc3, x_inc5, x_ior, x_is2, x_is3, x_is4, x_is5, x_ishl, x_ishr, x_ldc, x_putf, x_vret]
  rw [s_putsBack (w := r) (fun k hk => by rw [upw_o (by decide), upw_o (by decide), upw_s, hr2 k hk, h7]) (fun k hk => by rw [upw_s]; exact flR_o hr.2.1 (by omega) (by omega) (by omega))]
  have e2 : ∀ b, b ≠ 200 → b ≠ 208 → b ≠ 197 → upw (upw (upw (upw g 200 r2) 208 r3) 197 (flR r (vN w 6))) 197 r b = g b := fun b b1 b2 b3 => by rw [upw_o b3]; exact eo b b1 b2 b3
  have e7 : upw (upw (upw (upw g 200 r2) 208 r3) 197 (flR r (vN w 6))) 197 r 197 = r := upw_s
  have fr1 : FR [200, 208, 197, 217] [40, 41] g (upw (upw (upw (upw g 200 r2) 208 r3) 197 (flR r (vN w 6))) 197 r) := FR_w rfl (FR_w rfl (FR_w rfl (FR_w rfl FR_r)))
  generalize upw (upw (upw (upw g 200 r2) 208 r3) 197 (flR r (vN w 6))) 197 r = G at e2 e7 fr1 ⊢
  have k196 := e2 196 (by decide) (by decide) (by decide)
  have k217 := e2 217 (by decide) (by decide) (by decide)
  have emo : moM w s (v + 1) = if moM w s v < gotV w s v (nn w) then gotV w s v (nn w) else moM w s v := rfl
  rw [mx_s] at emo
  have g40 : G 196 40 = nI (moM w s v) := by rw [k196]; exact m2
  have g39 : G 196 39 = nI s := by rw [k196]; exact m1
  have g41 : G 196 41 = nI (cnt (wyP w s) v) := by rw [k196]; exact m3
  simp -implicitDefEqProofs (disch := first | assumption | omega) only [szS_0, szS_i, szS_r, szS_l, x_cons, x_goto, ob_some, kl_i, kl_r, kl_l, kl_n, push_n, push_s, pop_0, pop_i, pop_r, Int.reduceToNat, List.length_cons, List.length_nil, Nat.reduceAdd, Nat.reduceLeDiff, Nat.zero_add, true_and, nI_n0, nat_le, Nat.add_zero, i_1, rt_mo_opensAll, x_al0, x_call, x_dupi, x_dupr, x_getf, x_goto, x_iadd, x_iaload, x_iand, x_iastore, x_iceq, x_icge, x_icne, x_ifne, x_il1, x_il2, x_il3, x_il4, x_il5, x_inc2, x_inc3, x_inc5, x_ior, x_is2, x_is3, x_is4, x_is5, x_ishl, x_ishr, x_ldc, x_putf, x_vret, fd_196_0, fd_196_1, fd_196_2, fd_196_3, fd_196_4, sf_196_4, fd_196_5, sf_196_5, fd_196_6, fd_196_7, fd_196_8, fd_196_9, fd_196_10, fd_196_11, fd_196_12, sf_196_12, fd_196_13, sf_196_13, fd_196_14, sf_196_14, fd_196_15, sf_196_15, fd_196_16, sf_196_16, fd_196_17, sf_196_17, fd_196_18, sf_196_18, fd_196_19, sf_196_19, fd_196_20, sf_196_20, fd_196_21, sf_196_21, fd_196_22, sf_196_22, fd_196_23, sf_196_23, fd_196_24, sf_196_24, fd_196_25, sf_196_25, fd_196_26, sf_196_26, fd_196_27, fd_196_28, fd_196_29, fd_196_30, sf_196_30, fd_196_31, fd_196_32, fd_196_33, fd_196_34, fd_196_35, fd_196_36, fd_196_37, sf_196_37, fd_196_38, fd_196_39, sf_196_39, fd_196_40, sf_196_40, fd_196_41, sf_196_41, fd_196_42, fd_196_43, fd_196_44, g40, s_greater, nI_ltE, nI_ite, ← emo, pu_g, upw_s, pu_n, g39, nI_eqE]
  by_cases hp : wtS w (opV w v) (vN w 6) (nn w) = s
  · have hy : wyP w s v = true := decide_eq_true hp
    obtain ⟨y1, y2⟩ := mS_y hy
    rw [if_pos hp, b_mo_opensAll_227]
    simp -implicitDefEqProofs (disch := first | assumption | omega) only [szS_0, szS_i, szS_r, szS_l, x_cons, x_goto, ob_some, kl_i, kl_r, kl_l, kl_n, push_n, push_s, pop_0, pop_i, pop_r, Int.reduceToNat, List.length_cons, List.length_nil, Nat.reduceAdd, Nat.reduceLeDiff, Nat.zero_add, true_and, nI_n0, nat_le, Nat.add_zero, i_1, rt_mo_opensAll, x_al0, x_call, x_dupi, x_dupr, x_getf, x_goto, x_iadd, x_iaload, x_iand, x_iastore, x_iceq, x_icge, x_icne, x_ifne, x_il1, x_il2, x_il3, x_il4, x_il5, x_inc2, x_inc3, x_inc5, x_ior, x_is2, x_is3, x_is4, x_is5, x_ishl, x_ishr, x_ldc, x_putf, x_vret, fd_196_0, fd_196_1, fd_196_2, fd_196_3, fd_196_4, sf_196_4, fd_196_5, sf_196_5, fd_196_6, fd_196_7, fd_196_8, fd_196_9, fd_196_10, fd_196_11, fd_196_12, sf_196_12, fd_196_13, sf_196_13, fd_196_14, sf_196_14, fd_196_15, sf_196_15, fd_196_16, sf_196_16, fd_196_17, sf_196_17, fd_196_18, sf_196_18, fd_196_19, sf_196_19, fd_196_20, sf_196_20, fd_196_21, sf_196_21, fd_196_22, sf_196_22, fd_196_23, sf_196_23, fd_196_24, sf_196_24, fd_196_25, sf_196_25, fd_196_26, sf_196_26, fd_196_27, fd_196_28, fd_196_29, fd_196_30, sf_196_30, fd_196_31, fd_196_32, fd_196_33, fd_196_34, fd_196_35, fd_196_36, fd_196_37, sf_196_37, fd_196_38, fd_196_39, sf_196_39, fd_196_40, sf_196_40, fd_196_41, sf_196_41, fd_196_42, fd_196_43, fd_196_44, upw_s, pu_n, g41, nI_eqE]
    have last : ∀ G2 o, FR [200, 208, 197, 217] [40, 41] g G2 → G2 197 = r → G2 196 39 = nI s → G2 196 40 = nI (moM w s (v + 1)) → G2 196 41 = nI (cnt (wyP w s) v) → (∀ k, k < nn w → fd w k 0 = 0 → G2 217 k = nI (opV w (fsV (wyP w s) (v + 1)) k)) → wp (ev (d + 4)) P mo_opensAll 268 [some (.ref 196), some (.int f), some (.int n), some (.int (nI (gotV w s v (nn w)))), some (.int (nI (wtS w (opV w v) (vN w 6) (nn w)))), o] [] (E G2 q) → True := fun _ _ _ _ _ _ _ _ _ => trivial
    have fin : ∀ G2 o v3 v4, FR [200, 208, 197, 217] [40, 41] g G2 → G2 197 = r → G2 196 39 = nI s → G2 196 40 = nI (moM w s (v + 1)) → G2 196 41 = nI (cnt (wyP w s) v) → (∀ k, k < nn w → fd w k 0 = 0 → G2 217 k = nI (opV w (fsV (wyP w s) (v + 1)) k)) → wp (ev (d + 5)) P mo_opensAll 268 [some (.ref 196), some (.int f), some (.int n), some (.int v3), some (.int v4), o] [] (E G2 q) := by
      intro G2 o v3 v4 f2 c7 c39 c40 c41 c217
      rw [b_mo_opensAll_268]
      simp -implicitDefEqProofs (disch := first | assumption | omega) only [szS_0, szS_i, szS_r, szS_l, x_cons, x_goto, ob_some, kl_i, kl_r, kl_l, kl_n, push_n, push_s, pop_0, pop_i, pop_r, Int.reduceToNat, List.length_cons, List.length_nil, Nat.reduceAdd, Nat.reduceLeDiff, Nat.zero_add, true_and, nI_n0, nat_le, Nat.add_zero, i_1, rt_mo_opensAll, x_al0, x_call, x_dupi, x_dupr, x_getf, x_goto, x_iadd, x_iaload, x_iand, x_iastore, x_iceq, x_icge, x_icne, x_ifne, x_il1, x_il2, x_il3, x_il4, x_il5, x_inc2, x_inc3, x_inc5, x_ior, x_is2, x_is3, x_is4, x_is5, x_ishl, x_ishr, x_ldc, x_putf, x_vret, fd_196_0, fd_196_1, fd_196_2, fd_196_3, fd_196_4, sf_196_4, fd_196_5, sf_196_5, fd_196_6, fd_196_7, fd_196_8, fd_196_9, fd_196_10, fd_196_11, fd_196_12, sf_196_12, fd_196_13, sf_196_13, fd_196_14, sf_196_14, fd_196_15, sf_196_15, fd_196_16, sf_196_16, fd_196_17, sf_196_17, fd_196_18, sf_196_18, fd_196_19, sf_196_19, fd_196_20, sf_196_20, fd_196_21, sf_196_21, fd_196_22, sf_196_22, fd_196_23, sf_196_23, fd_196_24, sf_196_24, fd_196_25, sf_196_25, fd_196_26, sf_196_26, fd_196_27, fd_196_28, fd_196_29, fd_196_30, sf_196_30, fd_196_31, fd_196_32, fd_196_33, fd_196_34, fd_196_35, fd_196_36, fd_196_37, sf_196_37, fd_196_38, fd_196_39, sf_196_39, fd_196_40, sf_196_40, fd_196_41, sf_196_41, fd_196_42, fd_196_43, fd_196_44, c41, nI_add, pu_g, upw_s, upw_w, pu_s]
      refine H _ (FR_p rfl f2 f2) (by rw [upw_o (by decide)]; exact c7) ⟨by rw [upw_s, pu_n (by decide)]; exact c39, by rw [upw_s, pu_n (by decide)]; exact c40, by rw [upw_s, pu_s, y1], fun _ k hk hfk => by rw [upw_o (by decide)]; exact c217 k hk hfk⟩
    have f2 : FR [200, 208, 197, 217] [40, 41] g (upw G 196 (pu (G 196) 40 (nI (moM w s (v + 1))))) := FR_p rfl fr1 fr1
    by_cases hz : cnt (wyP w s) v = 0
    · rw [if_pos hz] at y2
      rw [if_pos hz]
      try simp -implicitDefEqProofs (disch := first | assumption | omega) only [szS_0, szS_i, szS_r, szS_l, x_cons, x_goto, ob_some, kl_i, kl_r, kl_l, kl_n, push_n, push_s, pop_0, pop_i, pop_r, Int.reduceToNat, List.length_cons, List.length_nil, Nat.reduceAdd, Nat.reduceLeDiff, Nat.zero_add, true_and, nI_n0, nat_le, Nat.add_zero, i_1, rt_mo_opensAll, x_al0, x_call, x_dupi, x_dupr, x_getf, x_goto, x_iadd, x_iaload, x_iand, x_iastore, x_iceq, x_icge, x_icne, x_ifne, x_il1, x_il2, x_il3, x_il4, x_il5, x_inc2, x_inc3, x_inc5, x_ior, x_is2, x_is3, x_is4, x_is5, x_ishl, x_ishr, x_ldc, x_putf, x_vret]
      have hG : upw G 196 (pu (G 196) 40 (nI (moM w s (v + 1)))) = upw (upw G 196 (pu (G 196) 40 (nI (moM w s (v + 1))))) 217 (upw G 196 (pu (G 196) 40 (nI (moM w s (v + 1)))) 217) := upw_g.symm
      rw [hG]
      refine ol_f (r := r) (N := nn w) hN.2.1 (by rw [upw_o (by decide)]; exact e7) er0 (fun r4 hr4 => ?_) (nn w) 0 _ (Nat.zero_add _) fun i hi => absurd hi (Nat.not_lt_zero i)
      refine fin _ _ _ _ (FR_w rfl f2) (by rw [upw_o (by decide), upw_o (by decide)]; exact e7) (by rw [upw_o (by decide), upw_s, pu_n (by decide)]; exact g39) (by rw [upw_o (by decide), upw_s, pu_s]) (by rw [upw_o (by decide), upw_s, pu_n (by decide)]; exact g41) fun k hk hfk => ?_
      rw [upw_s, hr4 k hk, y2, (wi_x hr.2.1 (n := k) (by omega)).1.1, hr.2.2 k hk hfk]
    · rw [if_neg hz] at y2
      rw [if_neg hz]
      refine fin _ _ _ _ f2 (by rw [upw_o (by decide)]; exact e7) (by rw [upw_s, pu_n (by decide)]; exact g39) (by rw [upw_s, pu_s]) (by rw [upw_s, pu_n (by decide)]; exact g41) fun k hk hfk => ?_
      rw [upw_o (by decide), k217, y2]
      exact m4 hz k hk hfk
  · have hy : wyP w s v = false := decide_eq_false hp
    obtain ⟨y1, y2⟩ := mS_n hy
    rw [if_neg hp]
    try simp -implicitDefEqProofs (disch := first | assumption | omega) only [szS_0, szS_i, szS_r, szS_l, x_cons, x_goto, ob_some, kl_i, kl_r, kl_l, kl_n, push_n, push_s, pop_0, pop_i, pop_r, Int.reduceToNat, List.length_cons, List.length_nil, Nat.reduceAdd, Nat.reduceLeDiff, Nat.zero_add, true_and, nI_n0, nat_le, Nat.add_zero, i_1, rt_mo_opensAll, x_al0, x_call, x_dupi, x_dupr, x_getf, x_goto, x_iadd, x_iaload, x_iand, x_iastore, x_iceq, x_icge, x_icne, x_ifne, x_il1, x_il2, x_il3, x_il4, x_il5, x_inc2, x_inc3, x_inc5, x_ior, x_is2, x_is3, x_is4, x_is5, x_ishl, x_ishr, x_ldc, x_putf, x_vret]
    refine H _ (FR_p rfl fr1 fr1) (by rw [upw_o (by decide)]; exact e7) ⟨by rw [upw_s, pu_n (by decide)]; exact g39, by rw [upw_s, pu_s], by rw [upw_s, pu_n (by decide), y1]; exact g41, fun hz k hk hfk => ?_⟩
    rw [y1] at hz
    rw [upw_o (by decide), k217, y2]
    exact m4 hz k hk hfk
end MW2
/-- the row on the way: what is open below n is that of all ways of the block -/
def rI (w : Nat → Int32) (v0 n X : Nat) (r : Nat → Int32) : Prop := (∀ k, (∀ m, m < 16 → k ≠ 10 + 20 * m + 5) → r k = w k) ∧ WI r ∧ ∀ m, m < n → m < nn w → fd w m 0 = 0 → ∀ v, v0 ≤ v → v < v0 + X → fd r m 5 = opV w v m
section MW3
variable {g : Nat → Nat → Int32} {q : Nat → Nat → Int64} {w : Nat → Int32}
theorem oa_rec (hw : WI w) {s : Nat} (hs : s < 65536) (hst : ∀ i, s.testBit i = true → i < nn w ∧ fd w i 0 = 1) (hN7 : PWd w (nn w) ≤ 2187) : ∀ (j n d K v0 : Nat) (P : QT) (r : Nat → Int32) (g : Nat → Nat → Int32) (f : Int32), n + j = nn w → v0 = K * PWd w j → v0 + PWd w j ≤ PWd w (nn w) → rI w v0 n (PWd w j) r → g 197 = r → mS w s v0 g →
    (∀ g' r', FR [200, 208, 197, 217] [40, 41] g g' → g' 197 = r' → (∀ k, (∀ m, m < 16 → k ≠ 10 + 20 * m + 5) → r' k = w k) → WI r' → (∀ m, m < n → r' (10 + 20 * m + 5) = r (10 + 20 * m + 5)) → mS w s (v0 + PWd w j) g' → P none (E g' q)) →
    wp (ev (d + j + 5)) P mo_opensAll 2 [some (.ref 196), some (.int f), some (.int (nI n)), none, none, none] [] (E g q) := by
  have hN := wi_n hw
  intro j
  induction j with
  | zero =>
    intro n d K v0 P r g f hn hK hv hr h7 hm H
    have hn : n = nn w := hn
    have e0 : g 197 0 = nI (nn w) := by rw [h7, hr.1 0 fun m _ => by omega]; exact hN.1
    have hv1 : v0 + 1 ≤ PWd w (nn w) := hv
    subst hn
    rw [b_mo_opensAll_2]
    simp -implicitDefEqProofs (disch := first | assumption | omega) only [szS_0, szS_i, szS_r, szS_l, x_cons, x_goto, ob_some, kl_i, kl_r, kl_l, kl_n, push_n, push_s, pop_0, pop_i, pop_r, Int.reduceToNat, List.length_cons, List.length_nil, Nat.reduceAdd, Nat.reduceLeDiff, Nat.zero_add, true_and, nI_n0, nat_le, Nat.add_zero, i_1, rt_mo_opensAll, x_al0, x_call, x_dupi, x_dupr, x_getf, x_goto, x_iadd, x_iaload, x_iand, x_iastore, x_iceq, x_icge, x_icne, x_ifne, x_il1, x_il2, x_il3, x_il4, x_il5, x_inc2, x_inc3, x_inc5, x_ior, x_is2, x_is3, x_is4, x_is5, x_ishl, x_ishr, x_ldc, x_putf, x_vret, fd_196_0, fd_196_1, fd_196_2, fd_196_3, fd_196_4, sf_196_4, fd_196_5, sf_196_5, fd_196_6, fd_196_7, fd_196_8, fd_196_9, fd_196_10, fd_196_11, fd_196_12, sf_196_12, fd_196_13, sf_196_13, fd_196_14, sf_196_14, fd_196_15, sf_196_15, fd_196_16, sf_196_16, fd_196_17, sf_196_17, fd_196_18, sf_196_18, fd_196_19, sf_196_19, fd_196_20, sf_196_20, fd_196_21, sf_196_21, fd_196_22, sf_196_22, fd_196_23, sf_196_23, fd_196_24, sf_196_24, fd_196_25, sf_196_25, fd_196_26, sf_196_26, fd_196_27, fd_196_28, fd_196_29, fd_196_30, sf_196_30, fd_196_31, fd_196_32, fd_196_33, fd_196_34, fd_196_35, fd_196_36, fd_196_37, sf_196_37, fd_196_38, fd_196_39, sf_196_39, fd_196_40, sf_196_40, fd_196_41, sf_196_41, fd_196_42, fd_196_43, fd_196_44, ld_197, sd_197, ln_197, e0, nI_ltE, Nat.lt_irrefl, ↓reduceIte, b_mo_opensAll_26]
    exact oa_leaf (d := d + 0) hw hs hst (by omega) ⟨hr.1, hr.2.1, fun m hm hfm => hr.2.2 m hm hm hfm v0 (Nat.le_refl _) (Nat.lt_succ_self _)⟩ h7 hm fun g1 f1 k1 m1 => H g1 r f1 k1 hr.1 hr.2.1 (fun _ _ => rfl) m1
  | succ j ih =>
    intro n d K v0 P r g f hn hK hv hr h7 hm H
    have hn' : n < nn w := by omega
    have hn16 : n < 16 := by omega
    have e0 : g 197 0 = nI (nn w) := by rw [h7, hr.1 0 fun m _ => by omega]; exact hN.1
    have hwt := oR_w hr.1
    have hpw := pw_s hn'
    rw [show nn w - n = j + 1 by omega, show nn w - (n + 1) = j by omega] at hpw
    have eF : forkB (g 197) (nI n) = decide (fd w n 0 = 0) := by
      rw [h7, forkB_nI hr.2.1 (by omega), stc_nn hwt.1, stc_fd hwt.1 hn16 (by decide), decide_eq_true hn', Bool.true_and]
    rw [b_mo_opensAll_2]
    simp -implicitDefEqProofs (disch := first | assumption | omega) only [szS_0, szS_i, szS_r, szS_l, x_cons, x_goto, ob_some, kl_i, kl_r, kl_l, kl_n, push_n, push_s, pop_0, pop_i, pop_r, Int.reduceToNat, List.length_cons, List.length_nil, Nat.reduceAdd, Nat.reduceLeDiff, Nat.zero_add, true_and, nI_n0, nat_le, Nat.add_zero, i_1, rt_mo_opensAll, x_al0, x_call, x_dupi, x_dupr, x_getf, x_goto, x_iadd, x_iaload, x_iand, x_iastore, x_iceq, x_icge, x_icne, x_ifne, x_il1, x_il2, x_il3, x_il4, x_il5, x_inc2, x_inc3, x_inc5, x_ior, x_is2, x_is3, x_is4, x_is5, x_ishl, x_ishr, x_ldc, x_putf, x_vret, fd_196_0, fd_196_1, fd_196_2, fd_196_3, fd_196_4, sf_196_4, fd_196_5, sf_196_5, fd_196_6, fd_196_7, fd_196_8, fd_196_9, fd_196_10, fd_196_11, fd_196_12, sf_196_12, fd_196_13, sf_196_13, fd_196_14, sf_196_14, fd_196_15, sf_196_15, fd_196_16, sf_196_16, fd_196_17, sf_196_17, fd_196_18, sf_196_18, fd_196_19, sf_196_19, fd_196_20, sf_196_20, fd_196_21, sf_196_21, fd_196_22, sf_196_22, fd_196_23, sf_196_23, fd_196_24, sf_196_24, fd_196_25, sf_196_25, fd_196_26, sf_196_26, fd_196_27, fd_196_28, fd_196_29, fd_196_30, sf_196_30, fd_196_31, fd_196_32, fd_196_33, fd_196_34, fd_196_35, fd_196_36, fd_196_37, sf_196_37, fd_196_38, fd_196_39, sf_196_39, fd_196_40, sf_196_40, fd_196_41, sf_196_41, fd_196_42, fd_196_43, fd_196_44, ld_197, sd_197, ln_197, e0, nI_ltE, hn', ↓reduceIte]
    rw [s_isFork (by rw [h7]; exact hr.2.1), eF]
    simp -implicitDefEqProofs (disch := first | assumption | omega) only [szS_0, szS_i, szS_r, szS_l, x_cons, x_goto, ob_some, kl_i, kl_r, kl_l, kl_n, push_n, push_s, pop_0, pop_i, pop_r, Int.reduceToNat, List.length_cons, List.length_nil, Nat.reduceAdd, Nat.reduceLeDiff, Nat.zero_add, true_and, nI_n0, nat_le, Nat.add_zero, i_1, rt_mo_opensAll, x_al0, x_call, x_dupi, x_dupr, x_getf, x_goto, x_iadd, x_iaload, x_iand, x_iastore, x_iceq, x_icge, x_icne, x_ifne, x_il1, x_il2, x_il3, x_il4, x_il5, x_inc2, x_inc3, x_inc5, x_ior, x_is2, x_is3, x_is4, x_is5, x_ishl, x_ishr, x_ldc, x_putf, x_vret, bI_0]
    by_cases h0 : fd w n 0 = 0
    · rw [if_pos h0] at hpw
      rw [decide_eq_true h0]
      simp -implicitDefEqProofs (disch := first | assumption | omega) only [Bool.true_eq_false, ↓reduceIte, b_mo_opensAll_26, szS_0, szS_i, szS_r, szS_l, x_cons, x_goto, ob_some, kl_i, kl_r, kl_l, kl_n, push_n, push_s, pop_0, pop_i, pop_r, Int.reduceToNat, List.length_cons, List.length_nil, Nat.reduceAdd, Nat.reduceLeDiff, Nat.zero_add, true_and, nI_n0, nat_le, Nat.add_zero, i_1, rt_mo_opensAll, x_al0, x_call, x_dupi, x_dupr, x_getf, x_goto, x_iadd, x_iaload, x_iand, x_iastore, x_iceq, x_icge, x_icne, x_ifne, x_il1, x_il2, x_il3, x_il4, x_il5, x_inc2, x_inc3, x_inc5, x_ior, x_is2, x_is3, x_is4, x_is5, x_ishl, x_ishr, x_ldc, x_putf, x_vret, fd_196_0, fd_196_1, fd_196_2, fd_196_3, fd_196_4, sf_196_4, fd_196_5, sf_196_5, fd_196_6, fd_196_7, fd_196_8, fd_196_9, fd_196_10, fd_196_11, fd_196_12, sf_196_12, fd_196_13, sf_196_13, fd_196_14, sf_196_14, fd_196_15, sf_196_15, fd_196_16, sf_196_16, fd_196_17, sf_196_17, fd_196_18, sf_196_18, fd_196_19, sf_196_19, fd_196_20, sf_196_20, fd_196_21, sf_196_21, fd_196_22, sf_196_22, fd_196_23, sf_196_23, fd_196_24, sf_196_24, fd_196_25, sf_196_25, fd_196_26, sf_196_26, fd_196_27, fd_196_28, fd_196_29, fd_196_30, sf_196_30, fd_196_31, fd_196_32, fd_196_33, fd_196_34, fd_196_35, fd_196_36, fd_196_37, sf_196_37, fd_196_38, fd_196_39, sf_196_39, fd_196_40, sf_196_40, fd_196_41, sf_196_41, fd_196_42, fd_196_43, fd_196_44, ld_197, sd_197, ln_197, e0, nI_ltE, hn']
      have ha3 := am_le hw hn16
      have ham := wi_1 hw hn16
      have arm : ∀ (i a : Nat) (r : Nat → Int32) (g1 : Nat → Nat → Int32) (v3 : Int32), a + i = am w n → v3 = nI a → FR [200, 208, 197, 217] [40, 41] g g1 → (∀ k, (∀ m, m < 16 → k ≠ 10 + 20 * m + 5) → r k = w k) → WI r → (∀ m, m < n → m < nn w → fd w m 0 = 0 → ∀ v, v0 ≤ v → v < v0 + PWd w (j + 1) → fd r m 5 = opV w v m) → g1 197 = r → mS w s (v0 + a * PWd w j) g1 →
          (∀ g' r', FR [200, 208, 197, 217] [40, 41] g g' → g' 197 = r' → (∀ k, (∀ m, m < 16 → k ≠ 10 + 20 * m + 5) → r' k = w k) → WI r' → (∀ m, m < n → r' (10 + 20 * m + 5) = r (10 + 20 * m + 5)) → mS w s (v0 + PWd w (j + 1)) g' → P none (E g' q)) →
          wp (ev (d + (j + 1) + 5)) P mo_opensAll 38 [some (.ref 196), some (.int f), some (.int (nI n)), some (.int v3), none, none] [] (E g1 q) := by
        intro i
        induction i with
        | zero =>
          intro a r g1 v3 ha hv3 f1 hr1 hr2 hr3 h71 hm1 H1
          have ha : a = am w n := ha
          subst ha hv3
          have e1 : g1 197 (10 + 20 * n + 1) = nI (am w n) := by rw [h71, hr1 _ fun m _ => by omega]; exact ham.1
          rw [b_mo_opensAll_38]
          simp -implicitDefEqProofs (disch := first | assumption | omega) only [szS_0, szS_i, szS_r, szS_l, x_cons, x_goto, ob_some, kl_i, kl_r, kl_l, kl_n, push_n, push_s, pop_0, pop_i, pop_r, Int.reduceToNat, List.length_cons, List.length_nil, Nat.reduceAdd, Nat.reduceLeDiff, Nat.zero_add, true_and, nI_n0, nat_le, Nat.add_zero, i_1, rt_mo_opensAll, x_al0, x_call, x_dupi, x_dupr, x_getf, x_goto, x_iadd, x_iaload, x_iand, x_iastore, x_iceq, x_icge, x_icne, x_ifne, x_il1, x_il2, x_il3, x_il4, x_il5, x_inc2, x_inc3, x_inc5, x_ior, x_is2, x_is3, x_is4, x_is5, x_ishl, x_ishr, x_ldc, x_putf, x_vret, s_own, e1, nI_ltE, Nat.lt_irrefl, ↓reduceIte, b_mo_opensAll_70]
          rw [← hpw] at hm1
          exact H1 g1 r f1 h71 hr1 hr2 (fun _ _ => rfl) hm1
        | succ i ihi =>
          intro a r g1 v3 ha hv3 f1 hr1 hr2 hr3 h71 hm1 H1
          have ha' : a < am w n := by omega
          subst hv3
          have e1 : g1 197 (10 + 20 * n + 1) = nI (am w n) := by rw [h71, hr1 _ fun m _ => by omega]; exact ham.1
          have hwt1 := oR_w hr1
          have hnr : nn r = nn w := stc_nn hwt1.1
          have hr1w : WI (pu r (10 + 20 * n + 5) (nI (2 ^ a))) := WI_5 hr2 (by rw [hnr]; exact hn') (by rw [stc_fd hwt1.1 hn16 (by decide)]; exact h0) (Nat.two_pow_pos a) (by rw [stc_am hwt1.1 hn16]; exact Nat.pow_lt_pow_right (by decide) ha')
          have hp8 : (2 : Nat) ^ a ≤ 2 ^ 3 := Nat.pow_le_pow_right (by decide) (by omega)
          have hmul1 : a * PWd w j + PWd w j = (a + 1) * PWd w j := by rw [Nat.add_mul, Nat.one_mul]
          have hmul2 : (a + 1) * PWd w j ≤ am w n * PWd w j := Nat.mul_le_mul_right _ (by omega)
          have hr' : ∀ k, (∀ m, m < 16 → k ≠ 10 + 20 * m + 5) → pu r (10 + 20 * n + 5) (nI (2 ^ a)) k = w k := fun k hk => by rw [pu_n (hk n hn16)]; exact hr1 k hk
          rw [b_mo_opensAll_38]
          simp -implicitDefEqProofs (disch := first | assumption | omega) only [szS_0, szS_i, szS_r, szS_l, x_cons, x_goto, ob_some, kl_i, kl_r, kl_l, kl_n, push_n, push_s, pop_0, pop_i, pop_r, Int.reduceToNat, List.length_cons, List.length_nil, Nat.reduceAdd, Nat.reduceLeDiff, Nat.zero_add, true_and, nI_n0, nat_le, Nat.add_zero, i_1, rt_mo_opensAll, x_al0, x_call, x_dupi, x_dupr, x_getf, x_goto, x_iadd, x_iaload, x_iand, x_iastore, x_iceq, x_icge, x_icne, x_ifne, x_il1, x_il2, x_il3, x_il4, x_il5, x_inc2, x_inc3, x_inc5, x_ior, x_is2, x_is3, x_is4, x_is5, x_ishl, x_ishr, x_ldc, x_putf, x_vret, s_own, e1, nI_ltE, ha', ↓reduceIte, nI_shl1, s_gives, pu_g, h71, nI_add]
          refine in_mo_opensAll rfl ?_
          rw [b_mo_opensAll_0]
          simp -implicitDefEqProofs (disch := first | assumption | omega) only [szS_0, szS_i, szS_r, szS_l, x_cons, x_goto, ob_some, kl_i, kl_r, kl_l, kl_n, push_n, push_s, pop_0, pop_i, pop_r, Int.reduceToNat, List.length_cons, List.length_nil, Nat.reduceAdd, Nat.reduceLeDiff, Nat.zero_add, true_and, nI_n0, nat_le, Nat.add_zero, i_1, rt_mo_opensAll, x_al0, x_call, x_dupi, x_dupr, x_getf, x_goto, x_iadd, x_iaload, x_iand, x_iastore, x_iceq, x_icge, x_icne, x_ifne, x_il1, x_il2, x_il3, x_il4, x_il5, x_inc2, x_inc3, x_inc5, x_ior, x_is2, x_is3, x_is4, x_is5, x_ishl, x_ishr, x_ldc, x_putf, x_vret]
          rw [show d + (j + 1) + 4 = d + j + 5 by omega]
          refine ih (n + 1) d (K * am w n + a) (v0 + a * PWd w j) _ (pu r (10 + 20 * n + 5) (nI (2 ^ a))) _ _ (by omega) (by rw [hK, hpw, Nat.add_mul, Nat.mul_assoc]) (by omega) ⟨hr', hr1w, fun m hm hm2 hfm v hv1 hv2 => ?_⟩ upw_s ?_ fun g2 r2 f2 k2 q2 w2 c2 m2 => ?_
          · by_cases e : m = n
            · rw [e, fd_pu_s (by omega)]
              have := pw_dg hw (v0 := v0) (K := K) (a := a) (v := v) hn' h0 (by rw [show nn w - n = j + 1 by omega]; exact hK) ha' (by rw [show nn w - (n + 1) = j by omega]; exact hv1) (by rw [show nn w - (n + 1) = j by omega]; exact hv2)
              unfold opV
              rw [this]
            · rw [fd_pu_n (by omega)]
              exact hr3 m (by omega) hm2 hfm v (by omega) (by rw [hpw]; omega)
          · obtain ⟨m1, m2, m3, m4⟩ := hm1
            exact ⟨by rw [upw_o (by decide)]; exact m1, by rw [upw_o (by decide)]; exact m2, by rw [upw_o (by decide)]; exact m3, fun hz k hk hfk => by rw [upw_o (by decide)]; exact m4 hz k hk hfk⟩
          · simp -implicitDefEqProofs (disch := first | assumption | omega) only [szS_0, szS_i, szS_r, szS_l, x_cons, x_goto, ob_some, kl_i, kl_r, kl_l, kl_n, push_n, push_s, pop_0, pop_i, pop_r, Int.reduceToNat, List.length_cons, List.length_nil, Nat.reduceAdd, Nat.reduceLeDiff, Nat.zero_add, true_and, nI_n0, nat_le, Nat.add_zero, i_1, rt_mo_opensAll, x_al0, x_call, x_dupi, x_dupr, x_getf, x_goto, x_iadd, x_iaload, x_iand, x_iastore, x_iceq, x_icge, x_icne, x_ifne, x_il1, x_il2, x_il3, x_il4, x_il5, x_inc2, x_inc3, x_inc5, x_ior, x_is2, x_is3, x_is4, x_is5, x_ishl, x_ishr, x_ldc, x_putf, x_vret, nI_add]
            have hsame : ∀ m, m < n → r2 (10 + 20 * m + 5) = r (10 + 20 * m + 5) := fun m hm => by rw [c2 m (by omega), pu_n (by omega)]
            refine ihi (a + 1) r2 g2 _ (by omega) rfl (FR_t f1 (FR_t (FR_w rfl FR_r) f2)) q2 w2 (fun m hm hm2 hfm v hv1 hv2 => ?_) k2 ?_ fun g3 r3 f3 k3 q3 w3 c3 m3 => H1 g3 r3 f3 k3 q3 w3 (fun m hm => by rw [c3 m hm, hsame m hm]) m3
            · have : fd r2 m 5 = fd r m 5 := fd_c (hsame m hm)
              rw [this]
              exact hr3 m hm hm2 hfm v hv1 hv2
            · rw [Nat.add_assoc, hmul1] at m2
              exact m2
      refine arm (am w n) 0 r g _ (Nat.zero_add _) rfl FR_r hr.1 hr.2.1 (fun m hm hm2 hfm v hv1 hv2 => hr.2.2 m hm hm2 hfm v hv1 hv2) h7 (by rw [Nat.zero_mul]; exact hm) H
    · rw [if_neg h0, Nat.one_mul] at hpw
      rw [decide_eq_false h0]
      simp -implicitDefEqProofs (disch := first | assumption | omega) only [↓reduceIte, szS_0, szS_i, szS_r, szS_l, x_cons, x_goto, ob_some, kl_i, kl_r, kl_l, kl_n, push_n, push_s, pop_0, pop_i, pop_r, Int.reduceToNat, List.length_cons, List.length_nil, Nat.reduceAdd, Nat.reduceLeDiff, Nat.zero_add, true_and, nI_n0, nat_le, Nat.add_zero, i_1, rt_mo_opensAll, x_al0, x_call, x_dupi, x_dupr, x_getf, x_goto, x_iadd, x_iaload, x_iand, x_iastore, x_iceq, x_icge, x_icne, x_ifne, x_il1, x_il2, x_il3, x_il4, x_il5, x_inc2, x_inc3, x_inc5, x_ior, x_is2, x_is3, x_is4, x_is5, x_ishl, x_ishr, x_ldc, x_putf, x_vret, nI_add]
      rw [show d + (j + 1) + 5 = (d + 1) + j + 5 by omega]
      rw [hpw] at hK hv hr H
      refine ih (n + 1) (d + 1) K v0 P r g f (by omega) hK hv ⟨hr.1, hr.2.1, fun m hm hm2 hfm => ?_⟩ h7 hm fun g1 r1 f1 k1 q1 w1 c1 m1 => H g1 r1 f1 k1 q1 w1 (fun m hm => c1 m (by omega)) m1
      by_cases e : m = n
      · rw [e] at hfm
        exact absurd hfm h0
      · exact hr.2.2 m (by omega) hm2 hfm
end MW3
section MW4
variable {d : Nat} {g : Nat → Nat → Int32} {q : Nat → Nat → Int64} {P : QT}
theorem fm_lp (hw : WI (g 197)) (H : P (some (.int (nI (cnt (forkD (g 197)) (nn (g 197)))))) (E g q)) : ∀ (j n : Nat), n + j = nn (g 197) →
    wp (ev (d + 3)) P mo_forkMany 4 [some (.ref 196), some (.int (nI (cnt (forkD (g 197)) n))), some (.int (nI n))] [] (E g q) := by
  have hN := wi_n hw
  intro j
  induction j with
  | zero =>
    intro n hn
    have hn : n = nn (g 197) := hn
    rw [hn, b_mo_forkMany_4]
    simp -implicitDefEqProofs (disch := first | assumption | omega) only [szS_0, szS_i, szS_r, szS_l, x_cons, x_goto, ob_some, kl_i, kl_r, kl_l, kl_n, push_n, push_s, pop_0, pop_i, pop_r, Int.reduceToNat, List.length_cons, List.length_nil, Nat.reduceAdd, Nat.reduceLeDiff, Nat.zero_add, true_and, nI_n0, nat_le, Nat.add_zero, i_1, rt_mo_forkMany, x_al0, x_call, x_getf, x_goto, x_iadd, x_iaload, x_icge, x_ifeq, x_il1, x_il2, x_inc2, x_iret, x_is1, x_is2, x_ldc, fd_196_0, fd_196_1, fd_196_2, fd_196_3, fd_196_4, sf_196_4, fd_196_5, sf_196_5, fd_196_6, fd_196_7, fd_196_8, fd_196_9, fd_196_10, fd_196_11, fd_196_12, sf_196_12, fd_196_13, sf_196_13, fd_196_14, sf_196_14, fd_196_15, sf_196_15, fd_196_16, sf_196_16, fd_196_17, sf_196_17, fd_196_18, sf_196_18, fd_196_19, sf_196_19, fd_196_20, sf_196_20, fd_196_21, sf_196_21, fd_196_22, sf_196_22, fd_196_23, sf_196_23, fd_196_24, sf_196_24, fd_196_25, sf_196_25, fd_196_26, sf_196_26, fd_196_27, fd_196_28, fd_196_29, fd_196_30, sf_196_30, fd_196_31, fd_196_32, fd_196_33, fd_196_34, fd_196_35, fd_196_36, fd_196_37, sf_196_37, fd_196_38, fd_196_39, sf_196_39, fd_196_40, sf_196_40, fd_196_41, sf_196_41, fd_196_42, fd_196_43, fd_196_44, ld_197, sd_197, ln_197, hN.1, nI_ltE, Nat.lt_irrefl, ↓reduceIte, b_mo_forkMany_36]
    exact H
  | succ j ih =>
    intro n hn
    have hn' : n < nn (g 197) := by omega
    have hi := ih (n + 1) (by omega)
    rw [cnt_s] at hi
    rw [b_mo_forkMany_4]
    simp -implicitDefEqProofs (disch := first | assumption | omega) only [szS_0, szS_i, szS_r, szS_l, x_cons, x_goto, ob_some, kl_i, kl_r, kl_l, kl_n, push_n, push_s, pop_0, pop_i, pop_r, Int.reduceToNat, List.length_cons, List.length_nil, Nat.reduceAdd, Nat.reduceLeDiff, Nat.zero_add, true_and, nI_n0, nat_le, Nat.add_zero, i_1, rt_mo_forkMany, x_al0, x_call, x_getf, x_goto, x_iadd, x_iaload, x_icge, x_ifeq, x_il1, x_il2, x_inc2, x_iret, x_is1, x_is2, x_ldc, fd_196_0, fd_196_1, fd_196_2, fd_196_3, fd_196_4, sf_196_4, fd_196_5, sf_196_5, fd_196_6, fd_196_7, fd_196_8, fd_196_9, fd_196_10, fd_196_11, fd_196_12, sf_196_12, fd_196_13, sf_196_13, fd_196_14, sf_196_14, fd_196_15, sf_196_15, fd_196_16, sf_196_16, fd_196_17, sf_196_17, fd_196_18, sf_196_18, fd_196_19, sf_196_19, fd_196_20, sf_196_20, fd_196_21, sf_196_21, fd_196_22, sf_196_22, fd_196_23, sf_196_23, fd_196_24, sf_196_24, fd_196_25, sf_196_25, fd_196_26, sf_196_26, fd_196_27, fd_196_28, fd_196_29, fd_196_30, sf_196_30, fd_196_31, fd_196_32, fd_196_33, fd_196_34, fd_196_35, fd_196_36, fd_196_37, sf_196_37, fd_196_38, fd_196_39, sf_196_39, fd_196_40, sf_196_40, fd_196_41, sf_196_41, fd_196_42, fd_196_43, fd_196_44, ld_197, sd_197, ln_197, hN.1, nI_ltE, hn', ↓reduceIte]
    rw [s_isFork hw, forkB_nI hw (by omega), decide_eq_true hn', Bool.true_and]
    simp -implicitDefEqProofs (disch := first | assumption | omega) only [szS_0, szS_i, szS_r, szS_l, x_cons, x_goto, ob_some, kl_i, kl_r, kl_l, kl_n, push_n, push_s, pop_0, pop_i, pop_r, Int.reduceToNat, List.length_cons, List.length_nil, Nat.reduceAdd, Nat.reduceLeDiff, Nat.zero_add, true_and, nI_n0, nat_le, Nat.add_zero, i_1, rt_mo_forkMany, x_al0, x_call, x_getf, x_goto, x_iadd, x_iaload, x_icge, x_ifeq, x_il1, x_il2, x_inc2, x_iret, x_is1, x_is2, x_ldc, bI_0]
    by_cases h0 : fd (g 197) n 0 = 0
    · rw [show forkD (g 197) n = true from decide_eq_true h0, if_pos rfl] at hi
      rw [decide_eq_true h0]
      simp -implicitDefEqProofs (disch := first | assumption | omega) only [Bool.true_eq_false, ↓reduceIte, szS_0, szS_i, szS_r, szS_l, x_cons, x_goto, ob_some, kl_i, kl_r, kl_l, kl_n, push_n, push_s, pop_0, pop_i, pop_r, Int.reduceToNat, List.length_cons, List.length_nil, Nat.reduceAdd, Nat.reduceLeDiff, Nat.zero_add, true_and, nI_n0, nat_le, Nat.add_zero, i_1, rt_mo_forkMany, x_al0, x_call, x_getf, x_goto, x_iadd, x_iaload, x_icge, x_ifeq, x_il1, x_il2, x_inc2, x_iret, x_is1, x_is2, x_ldc, b_mo_forkMany_28, nI_add]
      exact hi
    · rw [show forkD (g 197) n = false from decide_eq_false h0, if_neg Bool.false_ne_true] at hi
      rw [decide_eq_false h0]
      simp -implicitDefEqProofs (disch := first | assumption | omega) only [↓reduceIte, b_mo_forkMany_27, b_mo_forkMany_28, szS_0, szS_i, szS_r, szS_l, x_cons, x_goto, ob_some, kl_i, kl_r, kl_l, kl_n, push_n, push_s, pop_0, pop_i, pop_r, Int.reduceToNat, List.length_cons, List.length_nil, Nat.reduceAdd, Nat.reduceLeDiff, Nat.zero_add, true_and, nI_n0, nat_le, Nat.add_zero, i_1, rt_mo_forkMany, x_al0, x_call, x_getf, x_goto, x_iadd, x_iaload, x_icge, x_ifeq, x_il1, x_il2, x_inc2, x_iret, x_is1, x_is2, x_ldc, nI_add]
      exact hi
theorem s_forkMany (hw : WI (g 197)) : callC (ev (d + 4)) mo_forkMany [.ref 196] (E g q) P = P (some (.int (nI (cnt (forkD (g 197)) (nn (g 197)))))) (E g q) := by
  refine call_eq (in_mo_forkMany rfl ?_)
  rw [b_mo_forkMany_0]
  simp -implicitDefEqProofs (disch := first | assumption | omega) only [szS_0, szS_i, szS_r, szS_l, x_cons, x_goto, ob_some, kl_i, kl_r, kl_l, kl_n, push_n, push_s, pop_0, pop_i, pop_r, Int.reduceToNat, List.length_cons, List.length_nil, Nat.reduceAdd, Nat.reduceLeDiff, Nat.zero_add, true_and, nI_n0, nat_le, Nat.add_zero, i_1, rt_mo_forkMany, x_al0, x_call, x_getf, x_goto, x_iadd, x_iaload, x_icge, x_ifeq, x_il1, x_il2, x_inc2, x_iret, x_is1, x_is2, x_ldc]
  exact fm_lp hw ⟨rfl, rfl⟩ (nn (g 197)) 0 (Nat.zero_add _)
theorem ko_lp {g0 : Nat → Nat → Int32} {w : Nat → Int32} (hw : WI w) (h7 : g0 197 = w) (H : ∀ r, (∀ k, k < nn w → r k = w (10 + 20 * k + 5)) → P none (E (upw g0 216 r) q)) : ∀ (j k : Nat) (r : Nat → Int32), k + j = nn w → (∀ i, i < k → r i = w (10 + 20 * i + 5)) →
    wp (ev (d + 1)) P mo_keepsOpens 2 [some (.ref 196), some (.int (nI k))] [] (E (upw g0 216 r) q) := by
  have hN := wi_n hw
  intro j
  induction j with
  | zero =>
    intro k r hk hr
    have hk : k = nn w := hk
    subst hk
    rw [b_mo_keepsOpens_2]
    simp -implicitDefEqProofs (disch := first | assumption | omega) only [szS_0, szS_i, szS_r, szS_l, x_cons, x_goto, ob_some, kl_i, kl_r, kl_l, kl_n, push_n, push_s, pop_0, pop_i, pop_r, Int.reduceToNat, List.length_cons, List.length_nil, Nat.reduceAdd, Nat.reduceLeDiff, Nat.zero_add, true_and, nI_n0, nat_le, Nat.add_zero, i_1, rt_mo_keepsOpens, x_al0, x_call, x_getf, x_goto, x_iaload, x_iastore, x_icge, x_il1, x_inc1, x_is1, x_ldc, x_vret, fd_196_0, fd_196_1, fd_196_2, fd_196_3, fd_196_4, sf_196_4, fd_196_5, sf_196_5, fd_196_6, fd_196_7, fd_196_8, fd_196_9, fd_196_10, fd_196_11, fd_196_12, sf_196_12, fd_196_13, sf_196_13, fd_196_14, sf_196_14, fd_196_15, sf_196_15, fd_196_16, sf_196_16, fd_196_17, sf_196_17, fd_196_18, sf_196_18, fd_196_19, sf_196_19, fd_196_20, sf_196_20, fd_196_21, sf_196_21, fd_196_22, sf_196_22, fd_196_23, sf_196_23, fd_196_24, sf_196_24, fd_196_25, sf_196_25, fd_196_26, sf_196_26, fd_196_27, fd_196_28, fd_196_29, fd_196_30, sf_196_30, fd_196_31, fd_196_32, fd_196_33, fd_196_34, fd_196_35, fd_196_36, fd_196_37, sf_196_37, fd_196_38, fd_196_39, sf_196_39, fd_196_40, sf_196_40, fd_196_41, sf_196_41, fd_196_42, fd_196_43, fd_196_44, ld_197, sd_197, ln_197, upw_o, h7, hN.1, nI_ltE, Nat.lt_irrefl, ↓reduceIte, b_mo_keepsOpens_30]
    exact H r hr
  | succ j ih =>
    intro k r hk hr
    have hk' : k < nn w := by omega
    rw [b_mo_keepsOpens_2]
    simp -implicitDefEqProofs (disch := first | assumption | omega) only [szS_0, szS_i, szS_r, szS_l, x_cons, x_goto, ob_some, kl_i, kl_r, kl_l, kl_n, push_n, push_s, pop_0, pop_i, pop_r, Int.reduceToNat, List.length_cons, List.length_nil, Nat.reduceAdd, Nat.reduceLeDiff, Nat.zero_add, true_and, nI_n0, nat_le, Nat.add_zero, i_1, rt_mo_keepsOpens, x_al0, x_call, x_getf, x_goto, x_iaload, x_iastore, x_icge, x_il1, x_inc1, x_is1, x_ldc, x_vret, fd_196_0, fd_196_1, fd_196_2, fd_196_3, fd_196_4, sf_196_4, fd_196_5, sf_196_5, fd_196_6, fd_196_7, fd_196_8, fd_196_9, fd_196_10, fd_196_11, fd_196_12, sf_196_12, fd_196_13, sf_196_13, fd_196_14, sf_196_14, fd_196_15, sf_196_15, fd_196_16, sf_196_16, fd_196_17, sf_196_17, fd_196_18, sf_196_18, fd_196_19, sf_196_19, fd_196_20, sf_196_20, fd_196_21, sf_196_21, fd_196_22, sf_196_22, fd_196_23, sf_196_23, fd_196_24, sf_196_24, fd_196_25, sf_196_25, fd_196_26, sf_196_26, fd_196_27, fd_196_28, fd_196_29, fd_196_30, sf_196_30, fd_196_31, fd_196_32, fd_196_33, fd_196_34, fd_196_35, fd_196_36, fd_196_37, sf_196_37, fd_196_38, fd_196_39, sf_196_39, fd_196_40, sf_196_40, fd_196_41, sf_196_41, fd_196_42, fd_196_43, fd_196_44, ld_197, sd_197, ln_197, ld_216, sd_216, ln_216, upw_o, h7, hN.1, nI_ltE, hk', ↓reduceIte, s_own, pu_w, nI_add]
    refine ih (k + 1) _ (by omega) fun i hi => ?_
    by_cases e : i = k
    · rw [e, pu_s]
    · rw [pu_n e]
      exact hr i (by omega)
theorem s_keepsOpens (hw : WI (g 197)) (H : ∀ r, (∀ k, k < nn (g 197) → r k = g 197 (10 + 20 * k + 5)) → P none (E (upw g 216 r) q)) : callC (ev (d + 2)) mo_keepsOpens [.ref 196] (E g q) P := by
  refine in_mo_keepsOpens rfl ?_
  rw [b_mo_keepsOpens_0]
  simp -implicitDefEqProofs (disch := first | assumption | omega) only [szS_0, szS_i, szS_r, szS_l, x_cons, x_goto, ob_some, kl_i, kl_r, kl_l, kl_n, push_n, push_s, pop_0, pop_i, pop_r, Int.reduceToNat, List.length_cons, List.length_nil, Nat.reduceAdd, Nat.reduceLeDiff, Nat.zero_add, true_and, nI_n0, nat_le, Nat.add_zero, i_1, rt_mo_keepsOpens, x_al0, x_call, x_getf, x_goto, x_iaload, x_iastore, x_icge, x_il1, x_inc1, x_is1, x_ldc, x_vret]
  rw [show E g q = E (upw g 216 (g 216)) q by rw [upw_g]]
  exact ko_lp hw rfl H (nn (g 197)) 0 _ (Nat.zero_add _) fun i hi => absurd hi (Nat.not_lt_zero i)
theorem po_lp2 {g0 : Nat → Nat → Int32} {w : Nat → Int32} (hw : WI w) (h216 : ∀ k, k < nn w → g0 216 k = w (10 + 20 * k + 5)) (H : ∀ r, (∀ k, (∀ m, m < nn w → k ≠ 10 + 20 * m + 5) → r k = g0 197 k) → (∀ m, m < nn w → r (10 + 20 * m + 5) = w (10 + 20 * m + 5)) → P none (E (upw g0 197 r) q)) (e0 : g0 197 0 = w 0) : ∀ (j k : Nat) (r : Nat → Int32), k + j = nn w → (∀ i, (∀ m, m < nn w → i ≠ 10 + 20 * m + 5) → r i = g0 197 i) → (∀ m, m < k → r (10 + 20 * m + 5) = w (10 + 20 * m + 5)) →
    wp (ev (d + 1)) P mo_putsOpens 2 [some (.ref 196), some (.int (nI k))] [] (E (upw g0 197 r) q) := by
  have hN := wi_n hw
  intro j
  induction j with
  | zero =>
    intro k r hk hr h2
    have hk : k = nn w := hk
    subst hk
    have e1 : r 0 = nI (nn w) := by rw [hr 0 fun m _ => by omega, e0]; exact hN.1
    rw [b_mo_putsOpens_2]
    simp -implicitDefEqProofs (disch := first | assumption | omega) only [szS_0, szS_i, szS_r, szS_l, x_cons, x_goto, ob_some, kl_i, kl_r, kl_l, kl_n, push_n, push_s, pop_0, pop_i, pop_r, Int.reduceToNat, List.length_cons, List.length_nil, Nat.reduceAdd, Nat.reduceLeDiff, Nat.zero_add, true_and, nI_n0, nat_le, Nat.add_zero, i_1, rt_mo_putsOpens, x_al0, x_call, x_getf, x_goto, x_iaload, x_icge, x_il1, x_inc1, x_is1, x_ldc, x_vret, fd_196_0, fd_196_1, fd_196_2, fd_196_3, fd_196_4, sf_196_4, fd_196_5, sf_196_5, fd_196_6, fd_196_7, fd_196_8, fd_196_9, fd_196_10, fd_196_11, fd_196_12, sf_196_12, fd_196_13, sf_196_13, fd_196_14, sf_196_14, fd_196_15, sf_196_15, fd_196_16, sf_196_16, fd_196_17, sf_196_17, fd_196_18, sf_196_18, fd_196_19, sf_196_19, fd_196_20, sf_196_20, fd_196_21, sf_196_21, fd_196_22, sf_196_22, fd_196_23, sf_196_23, fd_196_24, sf_196_24, fd_196_25, sf_196_25, fd_196_26, sf_196_26, fd_196_27, fd_196_28, fd_196_29, fd_196_30, sf_196_30, fd_196_31, fd_196_32, fd_196_33, fd_196_34, fd_196_35, fd_196_36, fd_196_37, sf_196_37, fd_196_38, fd_196_39, sf_196_39, fd_196_40, sf_196_40, fd_196_41, sf_196_41, fd_196_42, fd_196_43, fd_196_44, ld_197, sd_197, ln_197, upw_s, e1, nI_ltE, Nat.lt_irrefl, ↓reduceIte, b_mo_putsOpens_30]
    exact H r hr h2
  | succ j ih =>
    intro k r hk hr h2
    have hk' : k < nn w := by omega
    have e1 : r 0 = nI (nn w) := by rw [hr 0 fun m _ => by omega, e0]; exact hN.1
    have e2 := h216 k hk'
    rw [b_mo_putsOpens_2]
    simp -implicitDefEqProofs (disch := first | assumption | omega) only [szS_0, szS_i, szS_r, szS_l, x_cons, x_goto, ob_some, kl_i, kl_r, kl_l, kl_n, push_n, push_s, pop_0, pop_i, pop_r, Int.reduceToNat, List.length_cons, List.length_nil, Nat.reduceAdd, Nat.reduceLeDiff, Nat.zero_add, true_and, nI_n0, nat_le, Nat.add_zero, i_1, rt_mo_putsOpens, x_al0, x_call, x_getf, x_goto, x_iaload, x_icge, x_il1, x_inc1, x_is1, x_ldc, x_vret, fd_196_0, fd_196_1, fd_196_2, fd_196_3, fd_196_4, sf_196_4, fd_196_5, sf_196_5, fd_196_6, fd_196_7, fd_196_8, fd_196_9, fd_196_10, fd_196_11, fd_196_12, sf_196_12, fd_196_13, sf_196_13, fd_196_14, sf_196_14, fd_196_15, sf_196_15, fd_196_16, sf_196_16, fd_196_17, sf_196_17, fd_196_18, sf_196_18, fd_196_19, sf_196_19, fd_196_20, sf_196_20, fd_196_21, sf_196_21, fd_196_22, sf_196_22, fd_196_23, sf_196_23, fd_196_24, sf_196_24, fd_196_25, sf_196_25, fd_196_26, sf_196_26, fd_196_27, fd_196_28, fd_196_29, fd_196_30, sf_196_30, fd_196_31, fd_196_32, fd_196_33, fd_196_34, fd_196_35, fd_196_36, fd_196_37, sf_196_37, fd_196_38, fd_196_39, sf_196_39, fd_196_40, sf_196_40, fd_196_41, sf_196_41, fd_196_42, fd_196_43, fd_196_44, ld_197, sd_197, ln_197, ld_216, sd_216, ln_216, upw_s, upw_o, e1, nI_ltE, hk', ↓reduceIte, e2, s_gives, pu_w, nI_add]
    refine ih (k + 1) _ (by omega) (fun i hi => by rw [pu_n (hi k hk')]; exact hr i hi) fun m hm => ?_
    by_cases e : m = k
    · rw [e, pu_s]
    · rw [pu_n (by omega)]
      exact h2 m (by omega)
/-- what is open is put back -/
theorem s_putsOpens {w : Nat → Int32} (hw : WI w) (h216 : ∀ k, k < nn w → g 216 k = w (10 + 20 * k + 5)) (h1 : ∀ k, (∀ m, m < nn w → k ≠ 10 + 20 * m + 5) → g 197 k = w k) : callC (ev (d + 2)) mo_putsOpens [.ref 196] (E g q) P = P none (E (upw g 197 w) q) := by
  refine call_eq (in_mo_putsOpens rfl ?_)
  rw [b_mo_putsOpens_0]
  simp -implicitDefEqProofs (disch := first | assumption | omega) only [szS_0, szS_i, szS_r, szS_l, x_cons, x_goto, ob_some, kl_i, kl_r, kl_l, kl_n, push_n, push_s, pop_0, pop_i, pop_r, Int.reduceToNat, List.length_cons, List.length_nil, Nat.reduceAdd, Nat.reduceLeDiff, Nat.zero_add, true_and, nI_n0, nat_le, Nat.add_zero, i_1, rt_mo_putsOpens, x_al0, x_call, x_getf, x_goto, x_iaload, x_icge, x_il1, x_inc1, x_is1, x_ldc, x_vret]
  rw [show (fun r1 h1 => r1 = none ∧ h1 = E (upw g 197 w) q) = (fun (r1 : Option Value) (h1 : Hp) => r1 = none ∧ h1 = E (upw g 197 w) q) from rfl]
  have st : wp (ev (d + 1)) (fun r1 h1 => r1 = none ∧ h1 = E (upw g 197 w) q) mo_putsOpens 2 [some (.ref 196), some (.int (nI 0))] [] (E (upw g 197 (g 197)) q) :=
    po_lp2 hw h216 (fun r hr h2 => ⟨rfl, by
      have : r = w := by
        funext k
        by_cases e : ∃ m, m < nn w ∧ k = 10 + 20 * m + 5
        · obtain ⟨m, hm, rfl⟩ := e
          exact h2 m hm
        · have hk : ∀ m, m < nn w → k ≠ 10 + 20 * m + 5 := fun m hm e2 => e ⟨m, hm, e2⟩
          rw [hr k hk, h1 k hk]
      rw [this]⟩) (h1 0 fun m _ => by omega) (nn w) 0 _ (Nat.zero_add _) (fun _ _ => rfl) fun m hm => absurd hm (Nat.not_lt_zero m)
  rw [upw_g] at st
  exact st
/-- all ways for a set -/
theorem s_opensFor0 (hw : WI (g 197)) {s : Int32} (h : cwB (g 197) s = false) : callC (ev (d + 24)) mo_opensFor [.ref 196, .int s] (E g q) P = P (some (.int (nI 0))) (E g q) := by
  refine call_eq (in_mo_opensFor rfl ?_)
  have hcl := cnt_le (p := forkD (g 197)) (nn (g 197))
  have hN := wi_n hw
  have no : wp (ev (d + 23)) (fun r1 h1 => r1 = some (.int (nI 0)) ∧ h1 = E g q) mo_opensFor 24 [some (.ref 196), some (.int s)] [] (E g q) := by
    rw [b_mo_opensFor_24]
    simp -implicitDefEqProofs (disch := first | assumption | omega) only [szS_0, szS_i, szS_r, szS_l, x_cons, x_goto, ob_some, kl_i, kl_r, kl_l, kl_n, push_n, push_s, pop_0, pop_i, pop_r, Int.reduceToNat, List.length_cons, List.length_nil, Nat.reduceAdd, Nat.reduceLeDiff, Nat.zero_add, true_and, nI_n0, nat_le, Nat.add_zero, rt_mo_opensFor_0, rt_mo_opensFor_1, rt_mo_opensFor_b, x_al0, x_call, x_iand, x_icle, x_iflt, x_ifne, x_il1, x_iret, x_ixor, x_ldc, x_m1, x_putf]
    all_goals first | rfl | exact ⟨rfl, rfl⟩ | exact ⟨rfl, trivial⟩ | exact ⟨trivial, rfl⟩ | trivial
  rw [b_mo_opensFor_0]
  simp -implicitDefEqProofs (disch := first | assumption | omega) only [szS_0, szS_i, szS_r, szS_l, x_cons, x_goto, ob_some, kl_i, kl_r, kl_l, kl_n, push_n, push_s, pop_0, pop_i, pop_r, Int.reduceToNat, List.length_cons, List.length_nil, Nat.reduceAdd, Nat.reduceLeDiff, Nat.zero_add, true_and, nI_n0, nat_le, Nat.add_zero, rt_mo_opensFor_0, rt_mo_opensFor_1, rt_mo_opensFor_b, x_al0, x_call, x_iand, x_icle, x_iflt, x_ifne, x_il1, x_iret, x_ixor, x_ldc, x_m1, x_putf]
  by_cases h1 : s < nI 0
  · rw [if_pos h1]
    exact no
  · rw [if_neg h1]
    try simp -implicitDefEqProofs (disch := first | assumption | omega) only [szS_0, szS_i, szS_r, szS_l, x_cons, x_goto, ob_some, kl_i, kl_r, kl_l, kl_n, push_n, push_s, pop_0, pop_i, pop_r, Int.reduceToNat, List.length_cons, List.length_nil, Nat.reduceAdd, Nat.reduceLeDiff, Nat.zero_add, true_and, nI_n0, nat_le, Nat.add_zero, rt_mo_opensFor_0, rt_mo_opensFor_1, rt_mo_opensFor_b, x_al0, x_call, x_iand, x_icle, x_iflt, x_ifne, x_il1, x_iret, x_ixor, x_ldc, x_m1, x_putf]
    rw [s_towns hw]
    simp -implicitDefEqProofs (disch := first | assumption | omega) only [szS_0, szS_i, szS_r, szS_l, x_cons, x_goto, ob_some, kl_i, kl_r, kl_l, kl_n, push_n, push_s, pop_0, pop_i, pop_r, Int.reduceToNat, List.length_cons, List.length_nil, Nat.reduceAdd, Nat.reduceLeDiff, Nat.zero_add, true_and, nI_n0, nat_le, Nat.add_zero, rt_mo_opensFor_0, rt_mo_opensFor_1, rt_mo_opensFor_b, x_al0, x_call, x_iand, x_icle, x_iflt, x_ifne, x_il1, x_iret, x_ixor, x_ldc, x_m1, x_putf]
    by_cases h2 : s &&& (nI (tws (g 197) (nn (g 197))) ^^^ -1) = nI 0
    · rw [if_pos h2]
      try simp -implicitDefEqProofs (disch := first | assumption | omega) only [szS_0, szS_i, szS_r, szS_l, x_cons, x_goto, ob_some, kl_i, kl_r, kl_l, kl_n, push_n, push_s, pop_0, pop_i, pop_r, Int.reduceToNat, List.length_cons, List.length_nil, Nat.reduceAdd, Nat.reduceLeDiff, Nat.zero_add, true_and, nI_n0, nat_le, Nat.add_zero, rt_mo_opensFor_0, rt_mo_opensFor_1, rt_mo_opensFor_b, x_al0, x_call, x_iand, x_icle, x_iflt, x_ifne, x_il1, x_iret, x_ixor, x_ldc, x_m1, x_putf]
      rw [s_forkMany hw]
      simp -implicitDefEqProofs (disch := first | assumption | omega) only [szS_0, szS_i, szS_r, szS_l, x_cons, x_goto, ob_some, kl_i, kl_r, kl_l, kl_n, push_n, push_s, pop_0, pop_i, pop_r, Int.reduceToNat, List.length_cons, List.length_nil, Nat.reduceAdd, Nat.reduceLeDiff, Nat.zero_add, true_and, nI_n0, nat_le, Nat.add_zero, rt_mo_opensFor_0, rt_mo_opensFor_1, rt_mo_opensFor_b, x_al0, x_call, x_iand, x_icle, x_iflt, x_ifne, x_il1, x_iret, x_ixor, x_ldc, x_m1, x_putf, nI_ltE]
      by_cases h3 : 7 < cnt (forkD (g 197)) (nn (g 197))
      · rw [if_pos h3]
        exact no
      · exfalso
        unfold cwB at h
        rw [decide_eq_true h2, decide_eq_true (p := cnt (forkD (g 197)) (nn (g 197)) ≤ 7) (by omega)] at h
        cases h
    · rw [if_neg h2]
      exact no
theorem s_opensFor (hw : WI (g 197)) {s : Nat} (hs : s < 65536) (h : cwB (g 197) (nI s) = true) (hst : ∀ i, s.testBit i = true → i < nn (g 197) ∧ fd (g 197) i 0 = 1) (hN7 : PWd (g 197) (nn (g 197)) ≤ 2187) (H : ∀ g', FR [200, 208, 197, 216, 217] [39, 40, 41] g g' → g' 197 = g 197 → mS (g 197) s (PWd (g 197) (nn (g 197))) g' → P (some (.int (nI 1))) (E g' q)) : callC (ev (d + 24)) mo_opensFor [.ref 196, .int (nI s)] (E g q) P := by
  refine in_mo_opensFor rfl ?_
  have hcl := cnt_le (p := forkD (g 197)) (nn (g 197))
  have hN := wi_n hw
  unfold cwB at h
  rw [Bool.and_eq_true] at h
  have h2 := of_decide_eq_true h.1
  have h3 := of_decide_eq_true h.2
  have l1 : ¬ s < 0 := by omega
  have l2 : ¬ 7 < cnt (forkD (g 197)) (nn (g 197)) := by omega
  rw [b_mo_opensFor_0]
  simp -implicitDefEqProofs (disch := first | assumption | omega) only [szS_0, szS_i, szS_r, szS_l, x_cons, x_goto, ob_some, kl_i, kl_r, kl_l, kl_n, push_n, push_s, pop_0, pop_i, pop_r, Int.reduceToNat, List.length_cons, List.length_nil, Nat.reduceAdd, Nat.reduceLeDiff, Nat.zero_add, true_and, nI_n0, nat_le, Nat.add_zero, rt_mo_opensFor_0, rt_mo_opensFor_1, rt_mo_opensFor_b, x_al0, x_call, x_iand, x_icle, x_iflt, x_ifne, x_il1, x_iret, x_ixor, x_ldc, x_m1, x_putf, nI_ltE, l1, ↓reduceIte]
  rw [s_towns hw]
  simp -implicitDefEqProofs (disch := first | assumption | omega) only [szS_0, szS_i, szS_r, szS_l, x_cons, x_goto, ob_some, kl_i, kl_r, kl_l, kl_n, push_n, push_s, pop_0, pop_i, pop_r, Int.reduceToNat, List.length_cons, List.length_nil, Nat.reduceAdd, Nat.reduceLeDiff, Nat.zero_add, true_and, nI_n0, nat_le, Nat.add_zero, rt_mo_opensFor_0, rt_mo_opensFor_1, rt_mo_opensFor_b, x_al0, x_call, x_iand, x_icle, x_iflt, x_ifne, x_il1, x_iret, x_ixor, x_ldc, x_m1, x_putf, h2, ↓reduceIte]
  rw [s_forkMany hw]
  simp -implicitDefEqProofs (disch := first | assumption | omega) only [szS_0, szS_i, szS_r, szS_l, x_cons, x_goto, ob_some, kl_i, kl_r, kl_l, kl_n, push_n, push_s, pop_0, pop_i, pop_r, Int.reduceToNat, List.length_cons, List.length_nil, Nat.reduceAdd, Nat.reduceLeDiff, Nat.zero_add, true_and, nI_n0, nat_le, Nat.add_zero, rt_mo_opensFor_0, rt_mo_opensFor_1, rt_mo_opensFor_b, x_al0, x_call, x_iand, x_icle, x_iflt, x_ifne, x_il1, x_iret, x_ixor, x_ldc, x_m1, x_putf, nI_ltE, l2, ↓reduceIte, b_mo_opensFor_26, fd_196_0, fd_196_1, fd_196_2, fd_196_3, fd_196_4, sf_196_4, fd_196_5, sf_196_5, fd_196_6, fd_196_7, fd_196_8, fd_196_9, fd_196_10, fd_196_11, fd_196_12, sf_196_12, fd_196_13, sf_196_13, fd_196_14, sf_196_14, fd_196_15, sf_196_15, fd_196_16, sf_196_16, fd_196_17, sf_196_17, fd_196_18, sf_196_18, fd_196_19, sf_196_19, fd_196_20, sf_196_20, fd_196_21, sf_196_21, fd_196_22, sf_196_22, fd_196_23, sf_196_23, fd_196_24, sf_196_24, fd_196_25, sf_196_25, fd_196_26, sf_196_26, fd_196_27, fd_196_28, fd_196_29, fd_196_30, sf_196_30, fd_196_31, fd_196_32, fd_196_33, fd_196_34, fd_196_35, fd_196_36, fd_196_37, sf_196_37, fd_196_38, fd_196_39, sf_196_39, fd_196_40, sf_196_40, fd_196_41, sf_196_41, fd_196_42, fd_196_43, fd_196_44, pu_g, pu_w, upw_s, upw_w]
  obtain ⟨w, hwe⟩ : ∃ w, w = g 197 := ⟨_, rfl⟩
  have fr0 : FR [200, 208, 197, 216, 217] [39, 40, 41] g (upw g 196 (pu (pu (pu (g 196) 39 (nI s)) 40 (nI 0)) 41 (nI 0))) := ⟨fun a ha _ => upw_o ha, fun k hk => by
    rw [upw_s, pu_n fun e => hk (by rw [e]; decide), pu_n fun e => hk (by rw [e]; decide), pu_n fun e => hk (by rw [e]; decide)]⟩
  have k196 : upw g 196 (pu (pu (pu (g 196) 39 (nI s)) 40 (nI 0)) 41 (nI 0)) 196 = pu (pu (pu (g 196) 39 (nI s)) 40 (nI 0)) 41 (nI 0) := upw_s
  have k197 : upw g 196 (pu (pu (pu (g 196) 39 (nI s)) 40 (nI 0)) 41 (nI 0)) 197 = w := by rw [upw_o (by decide), hwe]
  generalize upw g 196 (pu (pu (pu (g 196) 39 (nI s)) 40 (nI 0)) 41 (nI 0)) = G at fr0 k196 k197 ⊢
  rw [← hwe] at hw hst hN7 H hN hcl
  refine s_keepsOpens (by rw [k197]; exact hw) fun r hr => ?_
  rw [k197] at hr
  simp -implicitDefEqProofs (disch := first | assumption | omega) only [szS_0, szS_i, szS_r, szS_l, x_cons, x_goto, ob_some, kl_i, kl_r, kl_l, kl_n, push_n, push_s, pop_0, pop_i, pop_r, Int.reduceToNat, List.length_cons, List.length_nil, Nat.reduceAdd, Nat.reduceLeDiff, Nat.zero_add, true_and, nI_n0, nat_le, Nat.add_zero, rt_mo_opensFor_0, rt_mo_opensFor_1, rt_mo_opensFor_b, x_al0, x_call, x_iand, x_icle, x_iflt, x_ifne, x_il1, x_iret, x_ixor, x_ldc, x_m1, x_putf]
  refine in_mo_opensAll rfl ?_
  rw [b_mo_opensAll_0]
  simp -implicitDefEqProofs (disch := first | assumption | omega) only [szS_0, szS_i, szS_r, szS_l, x_cons, x_goto, ob_some, kl_i, kl_r, kl_l, kl_n, push_n, push_s, pop_0, pop_i, pop_r, Int.reduceToNat, List.length_cons, List.length_nil, Nat.reduceAdd, Nat.reduceLeDiff, Nat.zero_add, true_and, nI_n0, nat_le, Nat.add_zero, i_1, rt_mo_opensAll, x_al0, x_call, x_dupi, x_dupr, x_getf, x_goto, x_iadd, x_iaload, x_iand, x_iastore, x_iceq, x_icge, x_icne, x_ifne, x_il1, x_il2, x_il3, x_il4, x_il5, x_inc2, x_inc3, x_inc5, x_ior, x_is2, x_is3, x_is4, x_is5, x_ishl, x_ishr, x_ldc, x_putf, x_vret]
  have hOR : rI w 0 0 (PWd w (nn w)) w := ⟨fun _ _ => rfl, hw, fun m hm => absurd hm (Nat.not_lt_zero m)⟩
  rw [show d + 22 = (d + (17 - nn w)) + nn w + 5 by omega]
  refine oa_rec hw hs hst hN7 (nn w) 0 (d + (17 - nn w)) 0 0 _ w (upw G 216 r) _ (Nat.zero_add _) (Nat.zero_mul _).symm (by omega) hOR (by rw [upw_o (by decide)]; exact k197) ⟨by rw [upw_o (by decide), k196, pu_n (by decide), pu_n (by decide), pu_s], by rw [upw_o (by decide), k196, pu_n (by decide), pu_s]; rfl, by rw [upw_o (by decide), k196, pu_s]; rfl, fun hz => absurd rfl hz⟩ fun g1 r1 f1 k1 q1 w1 c1 m1 => ?_
  simp -implicitDefEqProofs (disch := first | assumption | omega) only [szS_0, szS_i, szS_r, szS_l, x_cons, x_goto, ob_some, kl_i, kl_r, kl_l, kl_n, push_n, push_s, pop_0, pop_i, pop_r, Int.reduceToNat, List.length_cons, List.length_nil, Nat.reduceAdd, Nat.reduceLeDiff, Nat.zero_add, true_and, nI_n0, nat_le, Nat.add_zero, rt_mo_opensFor_0, rt_mo_opensFor_1, rt_mo_opensFor_b, x_al0, x_call, x_iand, x_icle, x_iflt, x_ifne, x_il1, x_iret, x_ixor, x_ldc, x_m1, x_putf]
  rw [s_putsOpens (w := w) hw (fun k hk => by rw [FR_a f1 (a := 216) rfl, upw_s]; exact hr k hk) fun k hk => ?_]
  · simp -implicitDefEqProofs (disch := first | assumption | omega) only [szS_0, szS_i, szS_r, szS_l, x_cons, x_goto, ob_some, kl_i, kl_r, kl_l, kl_n, push_n, push_s, pop_0, pop_i, pop_r, Int.reduceToNat, List.length_cons, List.length_nil, Nat.reduceAdd, Nat.reduceLeDiff, Nat.zero_add, true_and, nI_n0, nat_le, Nat.add_zero, rt_mo_opensFor_0, rt_mo_opensFor_1, rt_mo_opensFor_b, x_al0, x_call, x_iand, x_icle, x_iflt, x_ifne, x_il1, x_iret, x_ixor, x_ldc, x_m1, x_putf]
    rw [Nat.zero_add] at m1
    obtain ⟨a1, a2, a3, a4⟩ := m1
    exact H _ (FR_w rfl (FR_t fr0 (FR_t (FR_w rfl FR_r) (FR_m rfl rfl f1)))) upw_s ⟨by rw [upw_o (by decide)]; exact a1, by rw [upw_o (by decide)]; exact a2, by rw [upw_o (by decide)]; exact a3, fun hz k hk hfk => by rw [upw_o (by decide)]; exact a4 hz k hk hfk⟩
  · by_cases e : ∃ m, m < 16 ∧ k = 10 + 20 * m + 5
    · obtain ⟨m, hm, rfl⟩ := e
      have hmn : nn w ≤ m := Nat.le_of_not_lt fun h => hk m h rfl
      have e1 : fd r1 m 5 = 0 := by
        have hnr : nn r1 = nn w := stc_nn (oR_w q1).1
        exact ((wi_f w1 hm).2.2.2.2.1 (by rw [hnr]; exact hmn)).2.2
      have e2 : fd w m 5 = 0 := ((wi_f hw hm).2.2.2.2.1 hmn).2.2
      rw [k1, (wi_x w1 hm).1.1, (wi_x hw hm).1.1, e1, e2]
    · rw [k1]
      exact q1 k fun m hm e2 => e ⟨m, hm, e2⟩
theorem cwB_ex2 {w : Nat → Int32} {s : Int32} (hw : WI w) (h : cwB w s = true) : ∃ s', s' < 65536 ∧ s = nI s' ∧ (∀ i, s'.testBit i = true → i < nn w ∧ fd w i 0 = 1) ∧ PWd w (nn w) ≤ 2187 := cwB_ex hw h
theorem s_mmost (hw : WI (g 197)) {s : Int32} (H : ∀ g', FR [200, 208, 197, 216, 217] [39, 40, 41] g g' → g' 197 = g 197 → P (some (.int (moA (g 197) s))) (E g' q)) : callC (ev (d + 25)) mo_most [.ref 196, .int s] (E g q) P := by
  refine in_mo_most rfl ?_
  unfold moA at H
  have n10 : (nI 1 = nI 0) = False := eq_false (by decide)
  rw [b_mo_most_0]
  simp -implicitDefEqProofs (disch := first | assumption | omega) only [szS_0, szS_i, szS_r, szS_l, x_cons, x_goto, ob_some, kl_i, kl_r, kl_l, kl_n, push_n, push_s, pop_0, pop_i, pop_r, Int.reduceToNat, List.length_cons, List.length_nil, Nat.reduceAdd, Nat.reduceLeDiff, Nat.zero_add, true_and, nI_n0, nat_le, Nat.add_zero, rt_mo_most, x_al0, x_call, x_getf, x_goto, x_ifeq, x_il1, x_iret, x_m1]
  cases h1 : cwB (g 197) s
  · rw [h1, if_neg Bool.false_ne_true] at H
    rw [s_opensFor0 hw h1]
    simp -implicitDefEqProofs (disch := first | assumption | omega) only [szS_0, szS_i, szS_r, szS_l, x_cons, x_goto, ob_some, kl_i, kl_r, kl_l, kl_n, push_n, push_s, pop_0, pop_i, pop_r, Int.reduceToNat, List.length_cons, List.length_nil, Nat.reduceAdd, Nat.reduceLeDiff, Nat.zero_add, true_and, nI_n0, nat_le, Nat.add_zero, rt_mo_most, x_al0, x_call, x_getf, x_goto, x_ifeq, x_il1, x_iret, x_m1, ↓reduceIte, b_mo_most_15, b_mo_most_16]
    exact H g FR_r rfl
  · obtain ⟨s', hs, rfl, hst, hp⟩ := cwB_ex2 hw h1
    rw [h1, if_pos rfl, ix_nI (by omega)] at H
    refine s_opensFor hw hs h1 hst hp fun g1 f1 k1 m1 => ?_
    simp -implicitDefEqProofs (disch := first | assumption | omega) only [szS_0, szS_i, szS_r, szS_l, x_cons, x_goto, ob_some, kl_i, kl_r, kl_l, kl_n, push_n, push_s, pop_0, pop_i, pop_r, Int.reduceToNat, List.length_cons, List.length_nil, Nat.reduceAdd, Nat.reduceLeDiff, Nat.zero_add, true_and, nI_n0, nat_le, Nat.add_zero, rt_mo_most, x_al0, x_call, x_getf, x_goto, x_ifeq, x_il1, x_iret, x_m1, n10, ↓reduceIte, fd_196_0, fd_196_1, fd_196_2, fd_196_3, fd_196_4, sf_196_4, fd_196_5, sf_196_5, fd_196_6, fd_196_7, fd_196_8, fd_196_9, fd_196_10, fd_196_11, fd_196_12, sf_196_12, fd_196_13, sf_196_13, fd_196_14, sf_196_14, fd_196_15, sf_196_15, fd_196_16, sf_196_16, fd_196_17, sf_196_17, fd_196_18, sf_196_18, fd_196_19, sf_196_19, fd_196_20, sf_196_20, fd_196_21, sf_196_21, fd_196_22, sf_196_22, fd_196_23, sf_196_23, fd_196_24, sf_196_24, fd_196_25, sf_196_25, fd_196_26, sf_196_26, fd_196_27, fd_196_28, fd_196_29, fd_196_30, sf_196_30, fd_196_31, fd_196_32, fd_196_33, fd_196_34, fd_196_35, fd_196_36, fd_196_37, sf_196_37, fd_196_38, fd_196_39, sf_196_39, fd_196_40, sf_196_40, fd_196_41, sf_196_41, fd_196_42, fd_196_43, fd_196_44, m1.2.1, b_mo_most_16]
    exact H g1 f1 k1
theorem s_mmud (hw : WI (g 197)) {s k : Int32} (H : ∀ g', FR [200, 208, 197, 216, 217] [39, 40, 41] g g' → g' 197 = g 197 → P (some (.int (muA (g 197) s k))) (E g' q)) : callC (ev (d + 25)) mo_mud [.ref 196, .int s, .int k] (E g q) P := by
  refine in_mo_mud rfl ?_
  have hN := wi_n hw
  unfold muA at H
  have n10 : (nI 1 = nI 0) = False := eq_false (by decide)
  have no : (cwB (g 197) s && askB (g 197) k) = false → wp (ev (d + 24)) P mo_mud 34 [some (.ref 196), some (.int s), some (.int k), none] [] (E g q) := by
    intro h
    rw [h, if_neg Bool.false_ne_true] at H
    rw [b_mo_mud_34]
    simp -implicitDefEqProofs (disch := first | assumption | omega) only [szS_0, szS_i, szS_r, szS_l, x_cons, x_goto, ob_some, kl_i, kl_r, kl_l, kl_n, push_n, push_s, pop_0, pop_i, pop_r, Int.reduceToNat, List.length_cons, List.length_nil, Nat.reduceAdd, Nat.reduceLeDiff, Nat.zero_add, true_and, nI_n0, nat_le, Nat.add_zero, rt_mo_mud, x_al0, x_call, x_getf, x_goto, x_iaload, x_icne, x_ifeq, x_ifne, x_il1, x_il2, x_il3, x_iret, x_is3, x_isub, x_ldc, x_m1]
    exact H g FR_r rfl
  have go : askB (g 197) k = true → wp (ev (d + 24)) P mo_mud 26 [some (.ref 196), some (.int s), some (.int k), none] [] (E g q) := by
    intro h
    rw [b_mo_mud_26]
    simp -implicitDefEqProofs (disch := first | assumption | omega) only [szS_0, szS_i, szS_r, szS_l, x_cons, x_goto, ob_some, kl_i, kl_r, kl_l, kl_n, push_n, push_s, pop_0, pop_i, pop_r, Int.reduceToNat, List.length_cons, List.length_nil, Nat.reduceAdd, Nat.reduceLeDiff, Nat.zero_add, true_and, nI_n0, nat_le, Nat.add_zero, rt_mo_mud, x_al0, x_call, x_getf, x_goto, x_iaload, x_icne, x_ifeq, x_ifne, x_il1, x_il2, x_il3, x_iret, x_is3, x_isub, x_ldc, x_m1]
    cases h1 : cwB (g 197) s
    · rw [s_opensFor0 hw h1]
      simp -implicitDefEqProofs (disch := first | assumption | omega) only [szS_0, szS_i, szS_r, szS_l, x_cons, x_goto, ob_some, kl_i, kl_r, kl_l, kl_n, push_n, push_s, pop_0, pop_i, pop_r, Int.reduceToNat, List.length_cons, List.length_nil, Nat.reduceAdd, Nat.reduceLeDiff, Nat.zero_add, true_and, nI_n0, nat_le, Nat.add_zero, rt_mo_mud, x_al0, x_call, x_getf, x_goto, x_iaload, x_icne, x_ifeq, x_ifne, x_il1, x_il2, x_il3, x_iret, x_is3, x_isub, x_ldc, x_m1, ↓reduceIte]
      exact no (by rw [h1, Bool.false_and])
    · obtain ⟨s', hs, rfl, hst, hp⟩ := cwB_ex2 hw h1
      rw [h1, h, Bool.true_and, if_pos rfl, ix_nI (by omega)] at H
      refine s_opensFor hw hs h1 hst hp fun g1 f1 k1 m1 => ?_
      have hcl := cnt_le (p := wyP (g 197) s') (PWd (g 197) (nn (g 197)))
      have HH := H g1 f1 k1
      simp -implicitDefEqProofs (disch := first | assumption | omega) only [szS_0, szS_i, szS_r, szS_l, x_cons, x_goto, ob_some, kl_i, kl_r, kl_l, kl_n, push_n, push_s, pop_0, pop_i, pop_r, Int.reduceToNat, List.length_cons, List.length_nil, Nat.reduceAdd, Nat.reduceLeDiff, Nat.zero_add, true_and, nI_n0, nat_le, Nat.add_zero, rt_mo_mud, x_al0, x_call, x_getf, x_goto, x_iaload, x_icne, x_ifeq, x_ifne, x_il1, x_il2, x_il3, x_iret, x_is3, x_isub, x_ldc, x_m1, n10, ↓reduceIte, b_mo_mud_36]
      by_cases k0 : k = nI 0
      · rw [if_pos k0] at HH
        simp -implicitDefEqProofs (disch := first | assumption | omega) only [k0, ↓reduceIte, szS_0, szS_i, szS_r, szS_l, x_cons, x_goto, ob_some, kl_i, kl_r, kl_l, kl_n, push_n, push_s, pop_0, pop_i, pop_r, Int.reduceToNat, List.length_cons, List.length_nil, Nat.reduceAdd, Nat.reduceLeDiff, Nat.zero_add, true_and, nI_n0, nat_le, Nat.add_zero, rt_mo_mud, x_al0, x_call, x_getf, x_goto, x_iaload, x_icne, x_ifeq, x_ifne, x_il1, x_il2, x_il3, x_iret, x_is3, x_isub, x_ldc, x_m1, fd_196_0, fd_196_1, fd_196_2, fd_196_3, fd_196_4, sf_196_4, fd_196_5, sf_196_5, fd_196_6, fd_196_7, fd_196_8, fd_196_9, fd_196_10, fd_196_11, fd_196_12, sf_196_12, fd_196_13, sf_196_13, fd_196_14, sf_196_14, fd_196_15, sf_196_15, fd_196_16, sf_196_16, fd_196_17, sf_196_17, fd_196_18, sf_196_18, fd_196_19, sf_196_19, fd_196_20, sf_196_20, fd_196_21, sf_196_21, fd_196_22, sf_196_22, fd_196_23, sf_196_23, fd_196_24, sf_196_24, fd_196_25, sf_196_25, fd_196_26, sf_196_26, fd_196_27, fd_196_28, fd_196_29, fd_196_30, sf_196_30, fd_196_31, fd_196_32, fd_196_33, fd_196_34, fd_196_35, fd_196_36, fd_196_37, sf_196_37, fd_196_38, fd_196_39, sf_196_39, fd_196_40, sf_196_40, fd_196_41, sf_196_41, fd_196_42, fd_196_43, fd_196_44, m1.2.2.1]
        exact HH
      · rw [if_neg k0] at HH
        obtain ⟨f, hf, hfs, rfl⟩ := askB_ex hw h k0
        rw [ix_nI (by omega), Nat.add_sub_cancel_left] at HH
        unfold fsA at HH
        simp -implicitDefEqProofs (disch := first | assumption | omega) only [k0, ↓reduceIte, b_mo_mud_45, szS_0, szS_i, szS_r, szS_l, x_cons, x_goto, ob_some, kl_i, kl_r, kl_l, kl_n, push_n, push_s, pop_0, pop_i, pop_r, Int.reduceToNat, List.length_cons, List.length_nil, Nat.reduceAdd, Nat.reduceLeDiff, Nat.zero_add, true_and, nI_n0, nat_le, Nat.add_zero, rt_mo_mud, x_al0, x_call, x_getf, x_goto, x_iaload, x_icne, x_ifeq, x_ifne, x_il1, x_il2, x_il3, x_iret, x_is3, x_isub, x_ldc, x_m1, fd_196_0, fd_196_1, fd_196_2, fd_196_3, fd_196_4, sf_196_4, fd_196_5, sf_196_5, fd_196_6, fd_196_7, fd_196_8, fd_196_9, fd_196_10, fd_196_11, fd_196_12, sf_196_12, fd_196_13, sf_196_13, fd_196_14, sf_196_14, fd_196_15, sf_196_15, fd_196_16, sf_196_16, fd_196_17, sf_196_17, fd_196_18, sf_196_18, fd_196_19, sf_196_19, fd_196_20, sf_196_20, fd_196_21, sf_196_21, fd_196_22, sf_196_22, fd_196_23, sf_196_23, fd_196_24, sf_196_24, fd_196_25, sf_196_25, fd_196_26, sf_196_26, fd_196_27, fd_196_28, fd_196_29, fd_196_30, sf_196_30, fd_196_31, fd_196_32, fd_196_33, fd_196_34, fd_196_35, fd_196_36, fd_196_37, sf_196_37, fd_196_38, fd_196_39, sf_196_39, fd_196_40, sf_196_40, fd_196_41, sf_196_41, fd_196_42, fd_196_43, fd_196_44, m1.2.2.1, nI_eqE]
        by_cases hz : cnt (wyP (g 197) s') (PWd (g 197) (nn (g 197))) = 0
        · rw [if_pos hz] at HH
          rw [if_pos hz]
          try simp -implicitDefEqProofs (disch := first | assumption | omega) only [szS_0, szS_i, szS_r, szS_l, x_cons, x_goto, ob_some, kl_i, kl_r, kl_l, kl_n, push_n, push_s, pop_0, pop_i, pop_r, Int.reduceToNat, List.length_cons, List.length_nil, Nat.reduceAdd, Nat.reduceLeDiff, Nat.zero_add, true_and, nI_n0, nat_le, Nat.add_zero, rt_mo_mud, x_al0, x_call, x_getf, x_goto, x_iaload, x_icne, x_ifeq, x_ifne, x_il1, x_il2, x_il3, x_iret, x_is3, x_isub, x_ldc, x_m1, b_mo_mud_65, b_mo_mud_93, ↓reduceIte]
          exact HH
        · rw [if_neg hz] at HH
          rw [if_neg hz]
          have e := m1.2.2.2 hz f hf hfs
          have hmd := (opV_o hw (v := fsV (wyP (g 197) s') (PWd (g 197) (nn (g 197)))) hf hfs).2.2
          have ha3 := am_le hw (n := f) (by omega)
          simp -implicitDefEqProofs (disch := first | assumption | omega) only [b_mo_mud_56, b_mo_mud_65, szS_0, szS_i, szS_r, szS_l, x_cons, x_goto, ob_some, kl_i, kl_r, kl_l, kl_n, push_n, push_s, pop_0, pop_i, pop_r, Int.reduceToNat, List.length_cons, List.length_nil, Nat.reduceAdd, Nat.reduceLeDiff, Nat.zero_add, true_and, nI_n0, nat_le, Nat.add_zero, rt_mo_mud, x_al0, x_call, x_getf, x_goto, x_iaload, x_icne, x_ifeq, x_ifne, x_il1, x_il2, x_il3, x_iret, x_is3, x_isub, x_ldc, x_m1, fd_196_0, fd_196_1, fd_196_2, fd_196_3, fd_196_4, sf_196_4, fd_196_5, sf_196_5, fd_196_6, fd_196_7, fd_196_8, fd_196_9, fd_196_10, fd_196_11, fd_196_12, sf_196_12, fd_196_13, sf_196_13, fd_196_14, sf_196_14, fd_196_15, sf_196_15, fd_196_16, sf_196_16, fd_196_17, sf_196_17, fd_196_18, sf_196_18, fd_196_19, sf_196_19, fd_196_20, sf_196_20, fd_196_21, sf_196_21, fd_196_22, sf_196_22, fd_196_23, sf_196_23, fd_196_24, sf_196_24, fd_196_25, sf_196_25, fd_196_26, sf_196_26, fd_196_27, fd_196_28, fd_196_29, fd_196_30, sf_196_30, fd_196_31, fd_196_32, fd_196_33, fd_196_34, fd_196_35, fd_196_36, fd_196_37, sf_196_37, fd_196_38, fd_196_39, sf_196_39, fd_196_40, sf_196_40, fd_196_41, sf_196_41, fd_196_42, fd_196_43, fd_196_44, ld_217, sd_217, ln_217, nI_sub, Nat.add_sub_cancel_left, e]
          unfold opV
          generalize fsV (wyP (g 197) s') (PWd (g 197) (nn (g 197))) / PWd (g 197) (nn (g 197) - (f + 1)) % am (g 197) f = a at HH hmd ⊢
          have n20 : (nI 2 = nI 0) = False := eq_false (by decide)
          have n21 : (nI 2 = nI 1) = False := eq_false (by decide)
          have n40 : (nI 4 = nI 0) = False := eq_false (by decide)
          have n41 : (nI 4 = nI 1) = False := eq_false (by decide)
          have n42 : (nI 4 = nI 2) = False := eq_false (by decide)
          have : a = 0 ∨ a = 1 ∨ a = 2 := by omega
          rcases this with rfl | rfl | rfl
          · show ite (nI 1 = nI 0) _ _
            simp -implicitDefEqProofs (disch := first | assumption | omega) only [n10, ↓reduceIte, b_mo_mud_74, b_mo_mud_93, szS_0, szS_i, szS_r, szS_l, x_cons, x_goto, ob_some, kl_i, kl_r, kl_l, kl_n, push_n, push_s, pop_0, pop_i, pop_r, Int.reduceToNat, List.length_cons, List.length_nil, Nat.reduceAdd, Nat.reduceLeDiff, Nat.zero_add, true_and, nI_n0, nat_le, Nat.add_zero, rt_mo_mud, x_al0, x_call, x_getf, x_goto, x_iaload, x_icne, x_ifeq, x_ifne, x_il1, x_il2, x_il3, x_iret, x_is3, x_isub, x_ldc, x_m1]
            exact HH
          · show ite (nI 2 = nI 0) _ _
            simp -implicitDefEqProofs (disch := first | assumption | omega) only [n20, n21, ↓reduceIte, b_mo_mud_74, b_mo_mud_83, b_mo_mud_93, szS_0, szS_i, szS_r, szS_l, x_cons, x_goto, ob_some, kl_i, kl_r, kl_l, kl_n, push_n, push_s, pop_0, pop_i, pop_r, Int.reduceToNat, List.length_cons, List.length_nil, Nat.reduceAdd, Nat.reduceLeDiff, Nat.zero_add, true_and, nI_n0, nat_le, Nat.add_zero, rt_mo_mud, x_al0, x_call, x_getf, x_goto, x_iaload, x_icne, x_ifeq, x_ifne, x_il1, x_il2, x_il3, x_iret, x_is3, x_isub, x_ldc, x_m1]
            exact HH
          · show ite (nI 4 = nI 0) _ _
            simp -implicitDefEqProofs (disch := first | assumption | omega) only [n40, n41, n42, ↓reduceIte, b_mo_mud_74, b_mo_mud_83, b_mo_mud_92, b_mo_mud_93, szS_0, szS_i, szS_r, szS_l, x_cons, x_goto, ob_some, kl_i, kl_r, kl_l, kl_n, push_n, push_s, pop_0, pop_i, pop_r, Int.reduceToNat, List.length_cons, List.length_nil, Nat.reduceAdd, Nat.reduceLeDiff, Nat.zero_add, true_and, nI_n0, nat_le, Nat.add_zero, rt_mo_mud, x_al0, x_call, x_getf, x_goto, x_iaload, x_icne, x_ifeq, x_ifne, x_il1, x_il2, x_il3, x_iret, x_is3, x_isub, x_ldc, x_m1]
            exact HH
  rw [b_mo_mud_0]
  simp -implicitDefEqProofs (disch := first | assumption | omega) only [szS_0, szS_i, szS_r, szS_l, x_cons, x_goto, ob_some, kl_i, kl_r, kl_l, kl_n, push_n, push_s, pop_0, pop_i, pop_r, Int.reduceToNat, List.length_cons, List.length_nil, Nat.reduceAdd, Nat.reduceLeDiff, Nat.zero_add, true_and, nI_n0, nat_le, Nat.add_zero, rt_mo_mud, x_al0, x_call, x_getf, x_goto, x_iaload, x_icne, x_ifeq, x_ifne, x_il1, x_il2, x_il3, x_iret, x_is3, x_isub, x_ldc, x_m1]
  by_cases k0 : k = nI 0
  · rw [if_pos k0]
    exact go (by unfold askB; rw [decide_eq_true k0, Bool.true_or])
  · rw [if_neg k0]
    have eB : askB (g 197) k = (decide (nI 10 ≤ k) && forkB (g 197) (k - nI 10)) := by
      unfold askB
      rw [decide_eq_false k0, Bool.false_or]
    try simp -implicitDefEqProofs (disch := first | assumption | omega) only [szS_0, szS_i, szS_r, szS_l, x_cons, x_goto, ob_some, kl_i, kl_r, kl_l, kl_n, push_n, push_s, pop_0, pop_i, pop_r, Int.reduceToNat, List.length_cons, List.length_nil, Nat.reduceAdd, Nat.reduceLeDiff, Nat.zero_add, true_and, nI_n0, nat_le, Nat.add_zero, rt_mo_mud, x_al0, x_call, x_getf, x_goto, x_iaload, x_icne, x_ifeq, x_ifne, x_il1, x_il2, x_il3, x_iret, x_is3, x_isub, x_ldc, x_m1, s_isIn, bI_0]
    by_cases h1 : nI 10 ≤ k ∧ k ≤ nI 25
    · simp only [decide_eq_true h1, Bool.true_eq_false, ↓reduceIte]
      try simp -implicitDefEqProofs (disch := first | assumption | omega) only [szS_0, szS_i, szS_r, szS_l, x_cons, x_goto, ob_some, kl_i, kl_r, kl_l, kl_n, push_n, push_s, pop_0, pop_i, pop_r, Int.reduceToNat, List.length_cons, List.length_nil, Nat.reduceAdd, Nat.reduceLeDiff, Nat.zero_add, true_and, nI_n0, nat_le, Nat.add_zero, rt_mo_mud, x_al0, x_call, x_getf, x_goto, x_iaload, x_icne, x_ifeq, x_ifne, x_il1, x_il2, x_il3, x_iret, x_is3, x_isub, x_ldc, x_m1]
      rw [s_isFork hw]
      simp -implicitDefEqProofs (disch := first | assumption | omega) only [szS_0, szS_i, szS_r, szS_l, x_cons, x_goto, ob_some, kl_i, kl_r, kl_l, kl_n, push_n, push_s, pop_0, pop_i, pop_r, Int.reduceToNat, List.length_cons, List.length_nil, Nat.reduceAdd, Nat.reduceLeDiff, Nat.zero_add, true_and, nI_n0, nat_le, Nat.add_zero, rt_mo_mud, x_al0, x_call, x_getf, x_goto, x_iaload, x_icne, x_ifeq, x_ifne, x_il1, x_il2, x_il3, x_iret, x_is3, x_isub, x_ldc, x_m1, bI_0]
      cases h2 : forkB (g 197) (k - nI 10)
      · simp -implicitDefEqProofs (disch := first | assumption | omega) only [↓reduceIte]
        exact no (by rw [eB, h2, Bool.and_false, Bool.and_false])
      · simp -implicitDefEqProofs (disch := first | assumption | omega) only [Bool.true_eq_false, ↓reduceIte]
        exact go (by rw [eB, h2, decide_eq_true h1.1]; rfl)
    · simp only [decide_eq_false h1, ↓reduceIte]
      refine no ?_
      have : askB (g 197) k = false := by
        cases h3 : askB (g 197) k
        · rfl
        · obtain ⟨f, hf, -, rfl⟩ := askB_ex hw h3 k0
          exact absurd ⟨by rw [nI_leE (by decide) (by omega)]; omega, by rw [nI_leE (by omega) (by decide)]; omega⟩ h1
      rw [this, Bool.and_false]
end MW4
theorem k_most {d L B : Nat} {xs : Nat → Int32} {g : Nat → Nat → Int32} {q : Nat → Nat → Int64} (hW : World B g) (hE : Env L xs g) {s : Int32} : two (d + 25) L xs B vr_most mo_most [.ref 0, .int s] [.ref 196, .int s] g q := by
  refine k_pure hW hE fun w V M pl im R h => ⟨moA w s, fun P hP => s_vmost h.1.1.1 h.2.1.1.1 fun g' f => hP g' q f, fun g1 q1 P h1 hP => ?_⟩
  have e : g1 197 = w := h1.2.2.1.1
  refine s_mmost (by rw [e]; exact h.1.1.1) fun g2 f2 e2 => ?_
  rw [e]
  exact hP g2 q1 (FR_M f2 rfl) (Mc_FR h1.2.2 f2 e2 rfl rfl)
theorem k_mud {d L B : Nat} {xs : Nat → Int32} {g : Nat → Nat → Int32} {q : Nat → Nat → Int64} (hW : World B g) (hE : Env L xs g) {s k : Int32} : two (d + 25) L xs B vr_mud mo_mud [.ref 0, .int s, .int k] [.ref 196, .int s, .int k] g q := by
  refine k_pure hW hE fun w V M pl im R h => ⟨muA w s k, fun P hP => s_vmud h.1.1.1 h.2.1.1.1 fun g' f => hP g' q f, fun g1 q1 P h1 hP => ?_⟩
  have e : g1 197 = w := h1.2.2.1.1
  refine s_mmud (by rw [e]; exact h.1.1.1) fun g2 f2 e2 => ?_
  rw [e]
  exact hP g2 q1 (FR_M f2 rfl) (Mc_FR h1.2.2 f2 e2 rfl rfl)
