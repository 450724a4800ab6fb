/-! the reference's least -/
/-- the row with op open -/
def oQ (w : Nat → Int32) (op : Nat → Nat) (r : Nat → Int32) : Prop := (∀ k, (∀ m, m < nn w → k ≠ 10 + 20 * m + 5) → r k = w k) ∧ WI r ∧ ∀ n, n < nn w → fd w n 0 = 0 → fd r n 5 = op n
theorem oQ_w {w : Nat → Int32} {op : Nat → Nat} {r : Nat → Int32} (hw : WI w) (h : oQ w op r) : wtr w r := by
  have hN := wi_n hw
  exact oR_w fun k hk => h.1 k fun m hm => hk m (by omega)
/-- the cheapest so far, as the reference keeps it -/
def stM (w : Nat → Int32) (g : Nat → Nat → Int32) : CND → Prop
  | none => g 196 37 = -1
  | some p => g 196 37 = nI p.1 ∧ p.1 ≤ 96032000 ∧ ∀ i, i < nn w → g 215 i = nI (p.2 i)
def MWi (w : Nat → Int32) (V : LW) (op bo : Nat → Nat) (st : CND) (r : Nat → Int32) (g : Nat → Nat → Int32) : Prop :=
  g 197 = r ∧ oQ w op r ∧ (∀ i, i < nn w → g 214 i = nI (bo i)) ∧ (∀ f a, f < nn w → fd w f 0 = 0 → a < am w f → g 213 (3 * f + a) = nI (coF V w f a)) ∧ stM w g st
def MWs (d : Nat) (q : Nat → Nat → Int64) (w : Nat → Int32) (V : LW) (t k : Nat) : Prop := ∀ (n s : Nat) (op bo : Nat → Nat) (st : CND) (r : Nat → Int32) (g : Nat → Nat → Int32) (P : QT), 17 ≤ k + n → n < nn w → s ≤ 6002000 * n → (∀ i, n ≤ i → bo i = 0) → MWi w V op bo st r g → (∀ g', FR [200, 208, 197, 214, 215] [37] g g' → MWi w V op bo (opl st (BRs w (coF V w) t k n s op bo)) r g' → P none (E g' q)) →
  callC (ev (d + k + 7)) mo_ways [.ref 196, .int (nI n), .int (nI t), .int (nI s)] (E g q) P
section MLE
variable {d : Nat} {g : Nat → Nat → Int32} {q : Nat → Nat → Int64} {P : QT} {w : Nat → Int32} {V M : LW}
theorem ib_c {n : Int32} (H : ∀ r, (∀ k, k < 596 → r k = g 197 k) → wp (ev d) P mo_isWetBy 27 [some (.ref 196), some (.int n), some (.int (nI 596))] [] (E (upw g 200 r) q)) : ∀ (j k : Nat) (r : Nat → Int32), k + j = 596 → (∀ i, i < k → r i = g 197 i) →
    wp (ev d) P mo_isWetBy 2 [some (.ref 196), some (.int n), some (.int (nI k))] [] (E (upw g 200 r) q) := by
  intro j
  induction j with
  | zero =>
    intro k r hk hr
    have hk : k = 596 := hk
    subst hk
    rw [b_mo_isWetBy_2]
    simp -implicitDefEqProofs (disch := first | assumption | omega) only [szS_0, szS_i, szS_r, szS_l, x_cons, x_goto, ob_some, kl_i, kl_r, kl_l, kl_n, push_n, push_s, pop_0, pop_i, pop_r, Int.reduceToNat, List.length_cons, List.length_nil, Nat.reduceAdd, Nat.reduceLeDiff, Nat.zero_add, true_and, nI_n0, nat_le, Nat.add_zero, i_1, rt_mo_isWetBy_0, rt_mo_isWetBy_1, rt_mo_isWetBy_b, x_al0, x_call, x_getf, x_goto, x_iaload, x_iastore, x_icge, x_il1, x_il2, x_inc2, x_iret, x_is2, x_ldc, nI_ltE, Nat.lt_irrefl, ↓reduceIte]
    exact H r hr
  | succ j ih =>
    intro k r hk hr
    have hk' : k < 596 := by omega
    rw [b_mo_isWetBy_2]
    simp -implicitDefEqProofs (disch := first | assumption | omega) only [szS_0, szS_i, szS_r, szS_l, x_cons, x_goto, ob_some, kl_i, kl_r, kl_l, kl_n, push_n, push_s, pop_0, pop_i, pop_r, Int.reduceToNat, List.length_cons, List.length_nil, Nat.reduceAdd, Nat.reduceLeDiff, Nat.zero_add, true_and, nI_n0, nat_le, Nat.add_zero, i_1, rt_mo_isWetBy_0, rt_mo_isWetBy_1, rt_mo_isWetBy_b, x_al0, x_call, x_getf, x_goto, x_iaload, x_iastore, x_icge, x_il1, x_il2, x_inc2, x_iret, x_is2, x_ldc, nI_ltE, hk', ↓reduceIte, fd_196_0, fd_196_1, fd_196_2, fd_196_3, fd_196_4, sf_196_4, fd_196_5, sf_196_5, fd_196_6, fd_196_7, fd_196_8, fd_196_9, fd_196_10, fd_196_11, fd_196_12, sf_196_12, fd_196_13, sf_196_13, fd_196_14, sf_196_14, fd_196_15, sf_196_15, fd_196_16, sf_196_16, fd_196_17, sf_196_17, fd_196_18, sf_196_18, fd_196_19, sf_196_19, fd_196_20, sf_196_20, fd_196_21, sf_196_21, fd_196_22, sf_196_22, fd_196_23, sf_196_23, fd_196_24, sf_196_24, fd_196_25, sf_196_25, fd_196_26, sf_196_26, fd_196_27, fd_196_28, fd_196_29, fd_196_30, sf_196_30, fd_196_31, fd_196_32, fd_196_33, fd_196_34, fd_196_35, fd_196_36, fd_196_37, sf_196_37, fd_196_38, fd_196_39, sf_196_39, fd_196_40, sf_196_40, fd_196_41, sf_196_41, fd_196_42, fd_196_43, fd_196_44, ld_197, sd_197, ln_197, ld_200, sd_200, ln_200, upw_o, pu_w, nI_add]
    refine ih (k + 1) _ (by omega) fun i hi => ?_
    by_cases e : i = k
    · rw [e, pu_s]
    · rw [pu_n e]
      exact hr i (by omega)
theorem s_isWetBy (hw : WI w) {t : Nat} (ht : t < nn w) (hts : fd w t 0 = 1) {op : Nat → Nat} {r : Nat → Int32} (h7 : g 197 = r) (hr : oQ w op r) (H : ∀ g', FR [200, 208, 197] [] g g' → g' 197 = r → P (some (.int (bI (wetQ w t op)))) (E g' q)) : callC (ev (d + 6)) mo_isWetBy [.ref 196, .int (nI t)] (E g q) P := by
  refine in_mo_isWetBy rfl ?_
  have hN := wi_n hw
  have hwt := oQ_w hw hr
  have e6 : r 6 = nI (vN w 6) := by rw [hr.1 6 fun m _ => by omega]; exact (wi_6 hw).1
  have hnr : nn r = nn w := stc_nn hwt.1
  have hrs : fd r t 0 = 1 := by rw [stc_fd hwt.1 (by omega) (by decide)]; exact hts
  have hfw := (flR_w hr.2.1 (fl := vN w 6) (n := t) (by rw [hnr]; exact ht) hrs).1
  have ecA : cmA r (fun n => fd r n 5) (vN w 6) t = cmA w op (vN w 6) t := cmA_c hw hwt hr.2.2 (by omega)
  have ewP : wetP r (cmA r (fun n => fd r n 5) (vN w 6) t) t = wetQ w t op := by
    unfold wetQ wetP
    rw [ecA, (hwt.2.2 t (by omega)).1, (hwt.2.2 t (by omega)).2.2]
  rw [ewP] at hfw
  rw [b_mo_isWetBy_0]
  simp -implicitDefEqProofs (disch := first | assumption | omega) only [szS_0, szS_i, szS_r, szS_l, x_cons, x_goto, ob_some, kl_i, kl_r, kl_l, kl_n, push_n, push_s, pop_0, pop_i, pop_r, Int.reduceToNat, List.length_cons, List.length_nil, Nat.reduceAdd, Nat.reduceLeDiff, Nat.zero_add, true_and, nI_n0, nat_le, Nat.add_zero, i_1, rt_mo_isWetBy_0, rt_mo_isWetBy_1, rt_mo_isWetBy_b, x_al0, x_call, x_getf, x_goto, x_iaload, x_iastore, x_icge, x_il1, x_il2, x_inc2, x_iret, x_is2, x_ldc]
  rw [show E g q = E (upw g 200 (g 200)) q by rw [upw_g]]
  refine ib_c (fun r2 hr2 => ?_) 596 0 _ rfl fun k hk => absurd hk (Nat.not_lt_zero k)
  have e1 : upw g 200 r2 197 = r := by rw [upw_o (by decide)]; exact h7
  rw [b_mo_isWetBy_27]
  simp -implicitDefEqProofs (disch := first | assumption | omega) only [szS_0, szS_i, szS_r, szS_l, x_cons, x_goto, ob_some, kl_i, kl_r, kl_l, kl_n, push_n, push_s, pop_0, pop_i, pop_r, Int.reduceToNat, List.length_cons, List.length_nil, Nat.reduceAdd, Nat.reduceLeDiff, Nat.zero_add, true_and, nI_n0, nat_le, Nat.add_zero, i_1, rt_mo_isWetBy_0, rt_mo_isWetBy_1, rt_mo_isWetBy_b, x_al0, x_call, x_getf, x_goto, x_iaload, x_iastore, x_icge, x_il1, x_il2, x_inc2, x_iret, x_is2, x_ldc]
  refine in_mo_isWetThen rfl ?_
  rw [b_mo_isWetThen_0]
  simp -implicitDefEqProofs (disch := first | assumption | omega) only [szS_0, szS_i, szS_r, szS_l, x_cons, x_goto, ob_some, kl_i, kl_r, kl_l, kl_n, push_n, push_s, pop_0, pop_i, pop_r, Int.reduceToNat, List.length_cons, List.length_nil, Nat.reduceAdd, Nat.reduceLeDiff, Nat.zero_add, true_and, nI_n0, nat_le, Nat.add_zero, rt_mo_isWetThen_0, rt_mo_isWetThen_1, rt_mo_isWetThen_b, x_al0, x_call, x_getf, x_goto, x_iaload, x_icne, x_il1, x_iret, x_ldc, fd_196_0, fd_196_1, fd_196_2, fd_196_3, fd_196_4, sf_196_4, fd_196_5, sf_196_5, fd_196_6, fd_196_7, fd_196_8, fd_196_9, fd_196_10, fd_196_11, fd_196_12, sf_196_12, fd_196_13, sf_196_13, fd_196_14, sf_196_14, fd_196_15, sf_196_15, fd_196_16, sf_196_16, fd_196_17, sf_196_17, fd_196_18, sf_196_18, fd_196_19, sf_196_19, fd_196_20, sf_196_20, fd_196_21, sf_196_21, fd_196_22, sf_196_22, fd_196_23, sf_196_23, fd_196_24, sf_196_24, fd_196_25, sf_196_25, fd_196_26, sf_196_26, fd_196_27, fd_196_28, fd_196_29, fd_196_30, sf_196_30, fd_196_31, fd_196_32, fd_196_33, fd_196_34, fd_196_35, fd_196_36, fd_196_37, sf_196_37, fd_196_38, fd_196_39, sf_196_39, fd_196_40, sf_196_40, fd_196_41, sf_196_41, fd_196_42, fd_196_43, fd_196_44, ld_197, sd_197, ln_197, e1, e6]
  refine s_flows (by rw [e1]; exact hr.2.1) (fl6 hw) fun r3 => ?_
  rw [e1]
  have fin : ∀ b : Bool, b = wetQ w t op → wp (ev (d + 5)) P mo_isWetBy 31 [some (.ref 196), some (.int (nI t)), some (.int (nI 596))] [.int (bI b)] (E (upw (upw (upw g 200 r2) 208 r3) 197 (flR r (vN w 6))) q) → wp (ev (d + 5)) P mo_isWetBy 31 [some (.ref 196), some (.int (nI t)), some (.int (nI 596))] [.int (bI b)] (E (upw (upw (upw g 200 r2) 208 r3) 197 (flR r (vN w 6))) q) := fun _ _ h => h
  have pb : ∀ Q : QT, callC (ev (d + 5)) mo_putsBack [.ref 196] (E (upw (upw (upw g 200 r2) 208 r3) 197 (flR r (vN w 6))) q) Q = Q none (E (upw (upw (upw (upw g 200 r2) 208 r3) 197 (flR r (vN w 6))) 197 r) q) := fun Q =>
    s_putsBack (w := r) (fun k hk => by rw [upw_o (by decide), upw_o (by decide), upw_s, hr2 k hk, h7]) (fun k hk => by rw [upw_s]; exact flR_o hr.2.1 (by omega) (by omega) (by omega))
  have H := H (upw (upw (upw (upw g 200 r2) 208 r3) 197 (flR r (vN w 6))) 197 r) (FR_w rfl (FR_w rfl (FR_w rfl (FR_w rfl FR_r)))) upw_s
  have n01 : (nI 0 = nI 1) = False := eq_false (by decide)
  cases hq : wetQ w t op
  · rw [hq] at H hfw
    rw [if_neg Bool.false_ne_true] at hfw
    simp -implicitDefEqProofs (disch := first | assumption | omega) only [szS_0, szS_i, szS_r, szS_l, x_cons, x_goto, ob_some, kl_i, kl_r, kl_l, kl_n, push_n, push_s, pop_0, pop_i, pop_r, Int.reduceToNat, List.length_cons, List.length_nil, Nat.reduceAdd, Nat.reduceLeDiff, Nat.zero_add, true_and, nI_n0, nat_le, Nat.add_zero, rt_mo_isWetThen_0, rt_mo_isWetThen_1, rt_mo_isWetThen_b, x_al0, x_call, x_getf, x_goto, x_iaload, x_icne, x_il1, x_iret, x_ldc, s_own, upw_s, hfw, n01, ↓reduceIte, b_mo_isWetThen_26, b_mo_isWetThen_27, szS_0, szS_i, szS_r, szS_l, x_cons, x_goto, ob_some, kl_i, kl_r, kl_l, kl_n, push_n, push_s, pop_0, pop_i, pop_r, Int.reduceToNat, List.length_cons, List.length_nil, Nat.reduceAdd, Nat.reduceLeDiff, Nat.zero_add, true_and, nI_n0, nat_le, Nat.add_zero, i_1, rt_mo_isWetBy_0, rt_mo_isWetBy_1, rt_mo_isWetBy_b, x_al0, x_call, x_getf, x_goto, x_iaload, x_iastore, x_icge, x_il1, x_il2, x_inc2, x_iret, x_is2, x_ldc, pb]
    exact H
  · rw [hq] at H hfw
    rw [if_pos rfl] at hfw
    simp -implicitDefEqProofs (disch := first | assumption | omega) only [szS_0, szS_i, szS_r, szS_l, x_cons, x_goto, ob_some, kl_i, kl_r, kl_l, kl_n, push_n, push_s, pop_0, pop_i, pop_r, Int.reduceToNat, List.length_cons, List.length_nil, Nat.reduceAdd, Nat.reduceLeDiff, Nat.zero_add, true_and, nI_n0, nat_le, Nat.add_zero, rt_mo_isWetThen_0, rt_mo_isWetThen_1, rt_mo_isWetThen_b, x_al0, x_call, x_getf, x_goto, x_iaload, x_icne, x_il1, x_iret, x_ldc, s_own, upw_s, hfw, ↓reduceIte, b_mo_isWetThen_27, szS_0, szS_i, szS_r, szS_l, x_cons, x_goto, ob_some, kl_i, kl_r, kl_l, kl_n, push_n, push_s, pop_0, pop_i, pop_r, Int.reduceToNat, List.length_cons, List.length_nil, Nat.reduceAdd, Nat.reduceLeDiff, Nat.zero_add, true_and, nI_n0, nat_le, Nat.add_zero, i_1, rt_mo_isWetBy_0, rt_mo_isWetBy_1, rt_mo_isWetBy_b, x_al0, x_call, x_getf, x_goto, x_iaload, x_iastore, x_icge, x_il1, x_il2, x_inc2, x_iret, x_is2, x_ldc, pb]
    exact H
theorem wy_c {n t s : Int32} {g0 : Nat → Nat → Int32} (H : ∀ r, (∀ k, k < 16 → r k = g0 214 k) → P none (E (upw g0 215 r) q)) : ∀ (j k : Nat) (r : Nat → Int32) (o5 : Option Value), k + j = 16 → (∀ i, i < k → r i = g0 214 i) →
    wp (ev d) P mo_ways 39 [some (.ref 196), some (.int n), some (.int t), some (.int s), some (.int (nI k)), o5] [] (E (upw g0 215 r) q) := by
  intro j
  induction j with
  | zero =>
    intro k r o5 hk hr
    have hk : k = 16 := hk
    subst hk
    rw [b_mo_ways_39]
    simp -implicitDefEqProofs (disch := first | assumption | omega) only [szS_0, szS_i, szS_r, szS_l, x_cons, x_goto, ob_some, kl_i, kl_r, kl_l, kl_n, push_n, push_s, pop_0, pop_i, pop_r, Int.reduceToNat, List.length_cons, List.length_nil, Nat.reduceAdd, Nat.reduceLeDiff, Nat.zero_add, true_and, nI_n0, nat_le, Nat.add_zero, i_1, rt_mo_ways, x_al0, x_call, x_getf, x_goto, x_iadd, x_iaload, x_iastore, x_iceq, x_icge, x_icgt, x_iclt, x_icne, x_ifne, x_il1, x_il2, x_il3, x_il4, x_il5, x_imul, x_inc4, x_inc5, x_is4, x_is5, x_ishl, x_ldc, x_m1, x_putf, x_vret, nI_ltE, Nat.lt_irrefl, ↓reduceIte, b_mo_ways_66]
    exact H r hr
  | succ j ih =>
    intro k r o5 hk hr
    have hk' : k < 16 := by omega
    rw [b_mo_ways_39]
    simp -implicitDefEqProofs (disch := first | assumption | omega) only [szS_0, szS_i, szS_r, szS_l, x_cons, x_goto, ob_some, kl_i, kl_r, kl_l, kl_n, push_n, push_s, pop_0, pop_i, pop_r, Int.reduceToNat, List.length_cons, List.length_nil, Nat.reduceAdd, Nat.reduceLeDiff, Nat.zero_add, true_and, nI_n0, nat_le, Nat.add_zero, i_1, rt_mo_ways, x_al0, x_call, x_getf, x_goto, x_iadd, x_iaload, x_iastore, x_iceq, x_icge, x_icgt, x_iclt, x_icne, x_ifne, x_il1, x_il2, x_il3, x_il4, x_il5, x_imul, x_inc4, x_inc5, x_is4, x_is5, x_ishl, x_ldc, x_m1, x_putf, x_vret, nI_ltE, hk', ↓reduceIte, fd_196_0, fd_196_1, fd_196_2, fd_196_3, fd_196_4, sf_196_4, fd_196_5, sf_196_5, fd_196_6, fd_196_7, fd_196_8, fd_196_9, fd_196_10, fd_196_11, fd_196_12, sf_196_12, fd_196_13, sf_196_13, fd_196_14, sf_196_14, fd_196_15, sf_196_15, fd_196_16, sf_196_16, fd_196_17, sf_196_17, fd_196_18, sf_196_18, fd_196_19, sf_196_19, fd_196_20, sf_196_20, fd_196_21, sf_196_21, fd_196_22, sf_196_22, fd_196_23, sf_196_23, fd_196_24, sf_196_24, fd_196_25, sf_196_25, fd_196_26, sf_196_26, fd_196_27, fd_196_28, fd_196_29, fd_196_30, sf_196_30, fd_196_31, fd_196_32, fd_196_33, fd_196_34, fd_196_35, fd_196_36, fd_196_37, sf_196_37, fd_196_38, fd_196_39, sf_196_39, fd_196_40, sf_196_40, fd_196_41, sf_196_41, fd_196_42, fd_196_43, fd_196_44, ld_214, sd_214, ln_214, ld_215, sd_215, ln_215, upw_o, pu_w, nI_add]
    refine ih (k + 1) _ _ (by omega) fun i hi => ?_
    by_cases e : i = k
    · rw [e, pu_s]
    · rw [pu_n e]
      exact hr i (by omega)
theorem pu_e {r : Nat → Int32} {k : Nat} {v : Int32} (h : v = r k) : pu r k v = r := by
  funext i
  by_cases e : i = k
  · rw [e, pu_s, h]
  · exact pu_n e
theorem stM_f {w : Nat → Int32} {g g' : Nat → Nat → Int32} {st : CND} (h : stM w g st) (e1 : g' 196 37 = g 196 37) (e2 : ∀ i, i < nn w → g' 215 i = g 215 i) : stM w g' st := by
  cases st with
  | none => exact e1.trans h
  | some p => exact ⟨e1.trans h.1, h.2.1, fun i hi => (e2 i hi).trans (h.2.2 i hi)⟩
theorem s_ways (hw : WI w) {t : Nat} (ht : t < nn w) (hst : fd w t 0 = 1) : ∀ k, MWs d q w V t k
  | 0 => fun n s op bo st r g P hk hn hs hb hF H => by
    have hN := wi_n hw
    omega
  | k + 1 => fun n s op bo st r g P hk hn hs hb hF H => by
    refine in_mo_ways rfl ?_
    rw [show d + (k + 1) + 6 = d + k + 7 by omega]
    have hN := wi_n hw
    have hn16 : n < 16 := by omega
    have hF' := hF
    obtain ⟨h7, hr, h4, h3, hst7⟩ := hF
    have hwt := oQ_w hw hr
    have go : (∀ p, st = some p → s < p.1) → wp (ev (d + k + 7)) P mo_ways 17 [some (.ref 196), some (.int (nI n)), some (.int (nI t)), some (.int (nI s)), none, none] [] (E g q) := by
      intro hlt
      rw [b_mo_ways_17]
      simp -implicitDefEqProofs (disch := first | assumption | omega) only [szS_0, szS_i, szS_r, szS_l, x_cons, x_goto, ob_some, kl_i, kl_r, kl_l, kl_n, push_n, push_s, pop_0, pop_i, pop_r, Int.reduceToNat, List.length_cons, List.length_nil, Nat.reduceAdd, Nat.reduceLeDiff, Nat.zero_add, true_and, nI_n0, nat_le, Nat.add_zero, i_1, rt_mo_ways, x_al0, x_call, x_getf, x_goto, x_iadd, x_iaload, x_iastore, x_iceq, x_icge, x_icgt, x_iclt, x_icne, x_ifne, x_il1, x_il2, x_il3, x_il4, x_il5, x_imul, x_inc4, x_inc5, x_is4, x_is5, x_ishl, x_ldc, x_m1, x_putf, x_vret, nI_eqE]
      by_cases hnt : n = t
      · rw [BRs_s, if_pos hnt] at H
        rw [if_pos hnt]
        try simp -implicitDefEqProofs (disch := first | assumption | omega) only [szS_0, szS_i, szS_r, szS_l, x_cons, x_goto, ob_some, kl_i, kl_r, kl_l, kl_n, push_n, push_s, pop_0, pop_i, pop_r, Int.reduceToNat, List.length_cons, List.length_nil, Nat.reduceAdd, Nat.reduceLeDiff, Nat.zero_add, true_and, nI_n0, nat_le, Nat.add_zero, i_1, rt_mo_ways, x_al0, x_call, x_getf, x_goto, x_iadd, x_iaload, x_iastore, x_iceq, x_icge, x_icgt, x_iclt, x_icne, x_ifne, x_il1, x_il2, x_il3, x_il4, x_il5, x_imul, x_inc4, x_inc5, x_is4, x_is5, x_ishl, x_ldc, x_m1, x_putf, x_vret]
        refine s_isWetBy (d := d + k + 1) hw ht hst h7 hr fun g1 f1 k1 => ?_
        simp -implicitDefEqProofs (disch := first | assumption | omega) only [szS_0, szS_i, szS_r, szS_l, x_cons, x_goto, ob_some, kl_i, kl_r, kl_l, kl_n, push_n, push_s, pop_0, pop_i, pop_r, Int.reduceToNat, List.length_cons, List.length_nil, Nat.reduceAdd, Nat.reduceLeDiff, Nat.zero_add, true_and, nI_n0, nat_le, Nat.add_zero, i_1, rt_mo_ways, x_al0, x_call, x_getf, x_goto, x_iadd, x_iaload, x_iastore, x_iceq, x_icge, x_icgt, x_iclt, x_icne, x_ifne, x_il1, x_il2, x_il3, x_il4, x_il5, x_imul, x_inc4, x_inc5, x_is4, x_is5, x_ishl, x_ldc, x_m1, x_putf, x_vret, bI_0]
        have e14 : g1 214 = g 214 := FR_a f1 rfl
        have e13 : g1 213 = g 213 := FR_a f1 rfl
        have e15 : g1 215 = g 215 := FR_a f1 rfl
        have f1' : FR [200, 208, 197, 214, 215] [37] g g1 := FR_m rfl rfl f1
        cases hq : wetQ w t op
        · rw [hq, if_neg Bool.false_ne_true, opl_n] at H
          simp -implicitDefEqProofs (disch := first | assumption | omega) only [↓reduceIte, szS_0, szS_i, szS_r, szS_l, x_cons, x_goto, ob_some, kl_i, kl_r, kl_l, kl_n, push_n, push_s, pop_0, pop_i, pop_r, Int.reduceToNat, List.length_cons, List.length_nil, Nat.reduceAdd, Nat.reduceLeDiff, Nat.zero_add, true_and, nI_n0, nat_le, Nat.add_zero, i_1, rt_mo_ways, x_al0, x_call, x_getf, x_goto, x_iadd, x_iaload, x_iastore, x_iceq, x_icge, x_icgt, x_iclt, x_icne, x_ifne, x_il1, x_il2, x_il3, x_il4, x_il5, x_imul, x_inc4, x_inc5, x_is4, x_is5, x_ishl, x_ldc, x_m1, x_putf, x_vret]
          exact H g1 f1' ⟨k1, hr, by rw [e14]; exact h4, by rw [e13]; exact h3, stM_f hst7 (f1.2 37 (by decide)) fun i _ => by rw [e15]⟩
        · rw [hq, if_pos rfl, opl_l hlt] at H
          simp -implicitDefEqProofs (disch := first | assumption | omega) only [Bool.true_eq_false, ↓reduceIte, b_mo_ways_31, szS_0, szS_i, szS_r, szS_l, x_cons, x_goto, ob_some, kl_i, kl_r, kl_l, kl_n, push_n, push_s, pop_0, pop_i, pop_r, Int.reduceToNat, List.length_cons, List.length_nil, Nat.reduceAdd, Nat.reduceLeDiff, Nat.zero_add, true_and, nI_n0, nat_le, Nat.add_zero, i_1, rt_mo_ways, x_al0, x_call, x_getf, x_goto, x_iadd, x_iaload, x_iastore, x_iceq, x_icge, x_icgt, x_iclt, x_icne, x_ifne, x_il1, x_il2, x_il3, x_il4, x_il5, x_imul, x_inc4, x_inc5, x_is4, x_is5, x_ishl, x_ldc, x_m1, x_putf, x_vret, fd_196_0, fd_196_1, fd_196_2, fd_196_3, fd_196_4, sf_196_4, fd_196_5, sf_196_5, fd_196_6, fd_196_7, fd_196_8, fd_196_9, fd_196_10, fd_196_11, fd_196_12, sf_196_12, fd_196_13, sf_196_13, fd_196_14, sf_196_14, fd_196_15, sf_196_15, fd_196_16, sf_196_16, fd_196_17, sf_196_17, fd_196_18, sf_196_18, fd_196_19, sf_196_19, fd_196_20, sf_196_20, fd_196_21, sf_196_21, fd_196_22, sf_196_22, fd_196_23, sf_196_23, fd_196_24, sf_196_24, fd_196_25, sf_196_25, fd_196_26, sf_196_26, fd_196_27, fd_196_28, fd_196_29, fd_196_30, sf_196_30, fd_196_31, fd_196_32, fd_196_33, fd_196_34, fd_196_35, fd_196_36, fd_196_37, sf_196_37, fd_196_38, fd_196_39, sf_196_39, fd_196_40, sf_196_40, fd_196_41, sf_196_41, fd_196_42, fd_196_43, fd_196_44, pu_g]
          have hG : upw g1 196 (pu (g1 196) 37 (nI s)) = upw (upw g1 196 (pu (g1 196) 37 (nI s))) 215 (upw g1 196 (pu (g1 196) 37 (nI s)) 215) := upw_g.symm
          rw [hG]
          refine wy_c (fun r2 hr2 => ?_) 16 0 _ _ rfl fun i hi => absurd hi (Nat.not_lt_zero i)
          refine H _ (FR_w rfl (FR_p rfl f1' f1')) ⟨by rw [upw_o (by decide), upw_o (by decide)]; exact k1, hr, by rw [upw_o (by decide), upw_o (by decide), e14]; exact h4, by rw [upw_o (by decide), upw_o (by decide), e13]; exact h3, by rw [upw_o (by decide), upw_s, pu_s], by omega, fun i hi => ?_⟩
          rw [upw_s, hr2 i (by omega), upw_o (by decide), e14]
          exact h4 i hi
      · rw [if_neg hnt, b_mo_ways_67]
        have e0 : g 197 (10 + 20 * n) = nI (fd w n 0) := by rw [h7, hr.1 _ fun m _ => by omega]; exact (wi_0 hw hn16).1
        have hf2 := (wi_0 hw hn16).2
        simp -implicitDefEqProofs (disch := first | assumption | omega) only [szS_0, szS_i, szS_r, szS_l, x_cons, x_goto, ob_some, kl_i, kl_r, kl_l, kl_n, push_n, push_s, pop_0, pop_i, pop_r, Int.reduceToNat, List.length_cons, List.length_nil, Nat.reduceAdd, Nat.reduceLeDiff, Nat.zero_add, true_and, nI_n0, nat_le, Nat.add_zero, i_1, rt_mo_ways, x_al0, x_call, x_getf, x_goto, x_iadd, x_iaload, x_iastore, x_iceq, x_icge, x_icgt, x_iclt, x_icne, x_ifne, x_il1, x_il2, x_il3, x_il4, x_il5, x_imul, x_inc4, x_inc5, x_is4, x_is5, x_ishl, x_ldc, x_m1, x_putf, x_vret, nI_ltE]
        have out : (t < n ∨ fd w n 0 = 2) → P none (E g q) := by
          intro h
          rw [BRs_s, if_neg hnt, if_pos h, opl_n] at H
          exact H g FR_r hF'
        by_cases hlt2 : t < n
        · rw [if_pos hlt2]
          try simp -implicitDefEqProofs (disch := first | assumption | omega) only [b_mo_ways_82, szS_0, szS_i, szS_r, szS_l, x_cons, x_goto, ob_some, kl_i, kl_r, kl_l, kl_n, push_n, push_s, pop_0, pop_i, pop_r, Int.reduceToNat, List.length_cons, List.length_nil, Nat.reduceAdd, Nat.reduceLeDiff, Nat.zero_add, true_and, nI_n0, nat_le, Nat.add_zero, i_1, rt_mo_ways, x_al0, x_call, x_getf, x_goto, x_iadd, x_iaload, x_iastore, x_iceq, x_icge, x_icgt, x_iclt, x_icne, x_ifne, x_il1, x_il2, x_il3, x_il4, x_il5, x_imul, x_inc4, x_inc5, x_is4, x_is5, x_ishl, x_ldc, x_m1, x_putf, x_vret]
          exact out (Or.inl hlt2)
        · rw [if_neg hlt2]
          try simp -implicitDefEqProofs (disch := first | assumption | omega) only [szS_0, szS_i, szS_r, szS_l, x_cons, x_goto, ob_some, kl_i, kl_r, kl_l, kl_n, push_n, push_s, pop_0, pop_i, pop_r, Int.reduceToNat, List.length_cons, List.length_nil, Nat.reduceAdd, Nat.reduceLeDiff, Nat.zero_add, true_and, nI_n0, nat_le, Nat.add_zero, i_1, rt_mo_ways, x_al0, x_call, x_getf, x_goto, x_iadd, x_iaload, x_iastore, x_iceq, x_icge, x_icgt, x_iclt, x_icne, x_ifne, x_il1, x_il2, x_il3, x_il4, x_il5, x_imul, x_inc4, x_inc5, x_is4, x_is5, x_ishl, x_ldc, x_m1, x_putf, x_vret, s_own, e0, nI_eqE]
          by_cases h2 : fd w n 0 = 2
          · rw [if_pos h2]
            try simp -implicitDefEqProofs (disch := first | assumption | omega) only [b_mo_ways_82, szS_0, szS_i, szS_r, szS_l, x_cons, x_goto, ob_some, kl_i, kl_r, kl_l, kl_n, push_n, push_s, pop_0, pop_i, pop_r, Int.reduceToNat, List.length_cons, List.length_nil, Nat.reduceAdd, Nat.reduceLeDiff, Nat.zero_add, true_and, nI_n0, nat_le, Nat.add_zero, i_1, rt_mo_ways, x_al0, x_call, x_getf, x_goto, x_iadd, x_iaload, x_iastore, x_iceq, x_icge, x_icgt, x_iclt, x_icne, x_ifne, x_il1, x_il2, x_il3, x_il4, x_il5, x_imul, x_inc4, x_inc5, x_is4, x_is5, x_ishl, x_ldc, x_m1, x_putf, x_vret]
            exact out (Or.inr h2)
          · have hon : ¬ (t < n ∨ fd w n 0 = 2) := fun h => h.elim hlt2 h2
            rw [BRs_s, if_neg hnt, if_neg hon] at H
            have ha3 := am_le hw hn16
            rw [if_neg h2, b_mo_ways_83]
            simp -implicitDefEqProofs (disch := first | assumption | omega) only [szS_0, szS_i, szS_r, szS_l, x_cons, x_goto, ob_some, kl_i, kl_r, kl_l, kl_n, push_n, push_s, pop_0, pop_i, pop_r, Int.reduceToNat, List.length_cons, List.length_nil, Nat.reduceAdd, Nat.reduceLeDiff, Nat.zero_add, true_and, nI_n0, nat_le, Nat.add_zero, i_1, rt_mo_ways, x_al0, x_call, x_getf, x_goto, x_iadd, x_iaload, x_iastore, x_iceq, x_icge, x_icgt, x_iclt, x_icne, x_ifne, x_il1, x_il2, x_il3, x_il4, x_il5, x_imul, x_inc4, x_inc5, x_is4, x_is5, x_ishl, x_ldc, x_m1, x_putf, x_vret, s_own, e0, nI_eqE]
            by_cases hT : fd w n 0 = 1
            · have h11 := wi_T hw hn hT
              have htl := tg_lt hw (n := n) (a := 0) hn16 (by omega)
              have e5 : g 197 (10 + 20 * n + 2) = nI (tg w n 0) := by rw [h7, hr.1 _ fun m _ => by omega]; exact (wi_t hw hn16 (a := 0) (by omega)).1
              rw [if_pos hT] at H
              rw [if_pos hT]
              try simp -implicitDefEqProofs (disch := first | assumption | omega) only [szS_0, szS_i, szS_r, szS_l, x_cons, x_goto, ob_some, kl_i, kl_r, kl_l, kl_n, push_n, push_s, pop_0, pop_i, pop_r, Int.reduceToNat, List.length_cons, List.length_nil, Nat.reduceAdd, Nat.reduceLeDiff, Nat.zero_add, true_and, nI_n0, nat_le, Nat.add_zero, i_1, rt_mo_ways, x_al0, x_call, x_getf, x_goto, x_iadd, x_iaload, x_iastore, x_iceq, x_icge, x_icgt, x_iclt, x_icne, x_ifne, x_il1, x_il2, x_il3, x_il4, x_il5, x_imul, x_inc4, x_inc5, x_is4, x_is5, x_ishl, x_ldc, x_m1, x_putf, x_vret, s_goesTo, e5]
              refine s_ways hw ht hst k (tg w n 0) s op bo st r g _ (by omega) htl.2 (by omega) (fun i hi => hb i (by omega)) hF' fun g1 f1 F1 => ?_
              simp -implicitDefEqProofs (disch := first | assumption | omega) only [szS_0, szS_i, szS_r, szS_l, x_cons, x_goto, ob_some, kl_i, kl_r, kl_l, kl_n, push_n, push_s, pop_0, pop_i, pop_r, Int.reduceToNat, List.length_cons, List.length_nil, Nat.reduceAdd, Nat.reduceLeDiff, Nat.zero_add, true_and, nI_n0, nat_le, Nat.add_zero, i_1, rt_mo_ways, x_al0, x_call, x_getf, x_goto, x_iadd, x_iaload, x_iastore, x_iceq, x_icge, x_icgt, x_iclt, x_icne, x_ifne, x_il1, x_il2, x_il3, x_il4, x_il5, x_imul, x_inc4, x_inc5, x_is4, x_is5, x_ishl, x_ldc, x_m1, x_putf, x_vret]
              exact H g1 f1 F1
            · have hs0 : fd w n 0 = 0 := by omega
              have ea := (wi_1 hw hn16).1
              obtain ⟨F, hFe⟩ : ∃ F : Nat → CND, F = fun a => BRs w (coF V w) t k (tg w n a) (s + coF V w n a) (up1 op n (2 ^ a)) (up1 bo n (coF V w n a)) := ⟨_, rfl⟩
              rw [if_neg hT, ← hFe] at H
              have e5 : g 197 (10 + 20 * n + 5) = nI (op n) := by rw [h7, (wi_x hr.2.1 hn16).1.1, hr.2.2 n hn hs0]
              rw [if_neg hT, b_mo_ways_106]
              simp -implicitDefEqProofs (disch := first | assumption | omega) only [szS_0, szS_i, szS_r, szS_l, x_cons, x_goto, ob_some, kl_i, kl_r, kl_l, kl_n, push_n, push_s, pop_0, pop_i, pop_r, Int.reduceToNat, List.length_cons, List.length_nil, Nat.reduceAdd, Nat.reduceLeDiff, Nat.zero_add, true_and, nI_n0, nat_le, Nat.add_zero, i_1, rt_mo_ways, x_al0, x_call, x_getf, x_goto, x_iadd, x_iaload, x_iastore, x_iceq, x_icge, x_icgt, x_iclt, x_icne, x_ifne, x_il1, x_il2, x_il3, x_il4, x_il5, x_imul, x_inc4, x_inc5, x_is4, x_is5, x_ishl, x_ldc, x_m1, x_putf, x_vret, s_own, e5]
              have arm : ∀ (j a : Nat) (g1 : Nat → Nat → Int32), a + j = am w n → FR [200, 208, 197, 214, 215] [37] g g1 → (∃ v, g1 197 = pu r (10 + 20 * n + 5) v) → (∀ i, i < nn w → i ≠ n → g1 214 i = nI (bo i)) → stM w g1 (opl st (foB F a)) →
                  wp (ev (d + k + 7)) P mo_ways 117 [some (.ref 196), some (.int (nI n)), some (.int (nI t)), some (.int (nI s)), some (.int (nI (op n))), some (.int (nI a))] [] (E g1 q) := by
                intro j
                induction j with
                | zero =>
                  intro a g1 ha f1 k7 k4 ks
                  have ha : a = am w n := ha
                  obtain ⟨v, k7⟩ := k7
                  have e1 : g1 197 (10 + 20 * n + 1) = nI (am w n) := by rw [k7, pu_n (by omega), hr.1 _ fun m _ => by omega]; exact ea
                  have hE : pu (pu r (10 + 20 * n + 5) v) (10 + 20 * n + 5) (nI (op n)) = r := by
                    rw [pu_pu]
                    exact pu_e (by rw [← e5, h7])
                  subst ha
                  rw [b_mo_ways_117]
                  simp -implicitDefEqProofs (disch := first | assumption | omega) only [szS_0, szS_i, szS_r, szS_l, x_cons, x_goto, ob_some, kl_i, kl_r, kl_l, kl_n, push_n, push_s, pop_0, pop_i, pop_r, Int.reduceToNat, List.length_cons, List.length_nil, Nat.reduceAdd, Nat.reduceLeDiff, Nat.zero_add, true_and, nI_n0, nat_le, Nat.add_zero, i_1, rt_mo_ways, x_al0, x_call, x_getf, x_goto, x_iadd, x_iaload, x_iastore, x_iceq, x_icge, x_icgt, x_iclt, x_icne, x_ifne, x_il1, x_il2, x_il3, x_il4, x_il5, x_imul, x_inc4, x_inc5, x_is4, x_is5, x_ishl, x_ldc, x_m1, x_putf, x_vret, s_own, e1, nI_ltE, Nat.lt_irrefl, ↓reduceIte, b_mo_ways_181, fd_196_0, fd_196_1, fd_196_2, fd_196_3, fd_196_4, sf_196_4, fd_196_5, sf_196_5, fd_196_6, fd_196_7, fd_196_8, fd_196_9, fd_196_10, fd_196_11, fd_196_12, sf_196_12, fd_196_13, sf_196_13, fd_196_14, sf_196_14, fd_196_15, sf_196_15, fd_196_16, sf_196_16, fd_196_17, sf_196_17, fd_196_18, sf_196_18, fd_196_19, sf_196_19, fd_196_20, sf_196_20, fd_196_21, sf_196_21, fd_196_22, sf_196_22, fd_196_23, sf_196_23, fd_196_24, sf_196_24, fd_196_25, sf_196_25, fd_196_26, sf_196_26, fd_196_27, fd_196_28, fd_196_29, fd_196_30, sf_196_30, fd_196_31, fd_196_32, fd_196_33, fd_196_34, fd_196_35, fd_196_36, fd_196_37, sf_196_37, fd_196_38, fd_196_39, sf_196_39, fd_196_40, sf_196_40, fd_196_41, sf_196_41, fd_196_42, fd_196_43, fd_196_44, ld_214, sd_214, ln_214, pu_g, upw_o, s_gives, k7, hE]
                  refine H _ (FR_w rfl (FR_w rfl f1)) ⟨upw_s, hr, fun i hi => ?_, by rw [upw_o (by decide), upw_o (by decide), FR_a f1 (a := 213) rfl]; exact h3, stM_f ks (by rw [upw_o (by decide), upw_o (by decide)]) fun i _ => by rw [upw_o (by decide), upw_o (by decide)]⟩
                  rw [upw_o (by decide), upw_s]
                  by_cases e : i = n
                  · rw [e, pu_s, hb n (Nat.le_refl _)]
                  · rw [pu_n e]
                    exact k4 i hi e
                | succ j ih =>
                  intro a g1 ha f1 k7 k4 ks
                  have ha' : a < am w n := by omega
                  obtain ⟨v, k7⟩ := k7
                  have e1 : g1 197 (10 + 20 * n + 1) = nI (am w n) := by rw [k7, pu_n (by omega), hr.1 _ fun m _ => by omega]; exact ea
                  have ep : g1 213 (3 * n + a) = nI (coF V w n a) := by rw [FR_a f1 (a := 213) rfl]; exact h3 n a hn hs0 ha'
                  have et : pu r (10 + 20 * n + 5) (nI (2 ^ a)) (10 + 20 * n + (2 + a)) = nI (tg w n a) := by rw [pu_n (by omega), hr.1 _ fun m _ => by omega]; exact (wi_t hw hn16 (by omega)).1
                  have htl := tg_lt hw (n := n) (a := a) hn16 ha'
                  have hcl := coF_l (V := V) hw (f := n) (a := a) hn16
                  have hp8 : (2 : Nat) ^ a ≤ 2 ^ 3 := Nat.pow_le_pow_right (by decide) (by omega)
                  have hnr : nn r = nn w := stc_nn hwt.1
                  have hr1w : WI (pu r (10 + 20 * n + 5) (nI (2 ^ a))) := WI_5 hr.2.1 (by rw [hnr]; exact hn) (by rw [stc_fd hwt.1 hn16 (by decide)]; exact hs0) (Nat.two_pow_pos a) (by rw [stc_am hwt.1 hn16]; exact Nat.pow_lt_pow_right (by decide) ha')
                  have eFo : foB F (a + 1) = opl (foB F a) (F a) := rfl
                  have eF : F a = BRs w (coF V w) t k (tg w n a) (s + coF V w n a) (up1 op n (2 ^ a)) (up1 bo n (coF V w n a)) := by rw [hFe]
                  rw [b_mo_ways_117]
                  simp -implicitDefEqProofs (disch := first | assumption | omega) only [szS_0, szS_i, szS_r, szS_l, x_cons, x_goto, ob_some, kl_i, kl_r, kl_l, kl_n, push_n, push_s, pop_0, pop_i, pop_r, Int.reduceToNat, List.length_cons, List.length_nil, Nat.reduceAdd, Nat.reduceLeDiff, Nat.zero_add, true_and, nI_n0, nat_le, Nat.add_zero, i_1, rt_mo_ways, x_al0, x_call, x_getf, x_goto, x_iadd, x_iaload, x_iastore, x_iceq, x_icge, x_icgt, x_iclt, x_icne, x_ifne, x_il1, x_il2, x_il3, x_il4, x_il5, x_imul, x_inc4, x_inc5, x_is4, x_is5, x_ishl, x_ldc, x_m1, x_putf, x_vret, s_own, e1, nI_ltE, ha', ↓reduceIte, nI_shl1, s_gives, pu_g, k7, pu_pu, fd_196_0, fd_196_1, fd_196_2, fd_196_3, fd_196_4, sf_196_4, fd_196_5, sf_196_5, fd_196_6, fd_196_7, fd_196_8, fd_196_9, fd_196_10, fd_196_11, fd_196_12, sf_196_12, fd_196_13, sf_196_13, fd_196_14, sf_196_14, fd_196_15, sf_196_15, fd_196_16, sf_196_16, fd_196_17, sf_196_17, fd_196_18, sf_196_18, fd_196_19, sf_196_19, fd_196_20, sf_196_20, fd_196_21, sf_196_21, fd_196_22, sf_196_22, fd_196_23, sf_196_23, fd_196_24, sf_196_24, fd_196_25, sf_196_25, fd_196_26, sf_196_26, fd_196_27, fd_196_28, fd_196_29, fd_196_30, sf_196_30, fd_196_31, fd_196_32, fd_196_33, fd_196_34, fd_196_35, fd_196_36, fd_196_37, sf_196_37, fd_196_38, fd_196_39, sf_196_39, fd_196_40, sf_196_40, fd_196_41, sf_196_41, fd_196_42, fd_196_43, fd_196_44, nI_mul, nI_add, ld_213, sd_213, ln_213, ld_214, sd_214, ln_214, upw_o, upw_s, ep, pu_s, s_goesTo, et]
                  refine s_ways hw ht hst k (tg w n a) (s + coF V w n a) (up1 op n (2 ^ a)) (up1 bo n (coF V w n a)) (opl st (foB F a)) (pu r (10 + 20 * n + 5) (nI (2 ^ a))) _ _ (by omega) htl.2 (by omega) (fun i hi => by rw [up1_n (by omega)]; exact hb i (by omega)) ⟨by rw [upw_o (by decide), upw_s], ⟨fun i hi => by rw [pu_n (hi n hn)]; exact hr.1 i hi, hr1w, fun f hf hfs => ?_⟩, fun i hi => ?_, fun f b hf hfs hfb => by rw [upw_o (by decide), upw_o (by decide), FR_a f1 (a := 213) rfl]; exact h3 f b hf hfs hfb, stM_f ks (by rw [upw_o (by decide), upw_o (by decide)]) fun i _ => by rw [upw_o (by decide), upw_o (by decide)]⟩ fun g2 f2 F2 => ?_
                  · by_cases e : f = n
                    · rw [e, fd_pu_s (by omega), up1_s]
                    · rw [fd_pu_n (by omega), up1_n e]
                      exact hr.2.2 f hf hfs
                  · rw [upw_s]
                    by_cases e : i = n
                    · rw [e, pu_s, up1_s]
                    · rw [pu_n e, up1_n e]
                      exact k4 i hi e
                  · obtain ⟨q7, qr, q4, q3, qs⟩ := F2
                    simp -implicitDefEqProofs (disch := first | assumption | omega) only [szS_0, szS_i, szS_r, szS_l, x_cons, x_goto, ob_some, kl_i, kl_r, kl_l, kl_n, push_n, push_s, pop_0, pop_i, pop_r, Int.reduceToNat, List.length_cons, List.length_nil, Nat.reduceAdd, Nat.reduceLeDiff, Nat.zero_add, true_and, nI_n0, nat_le, Nat.add_zero, i_1, rt_mo_ways, x_al0, x_call, x_getf, x_goto, x_iadd, x_iaload, x_iastore, x_iceq, x_icge, x_icgt, x_iclt, x_icne, x_ifne, x_il1, x_il2, x_il3, x_il4, x_il5, x_imul, x_inc4, x_inc5, x_is4, x_is5, x_ishl, x_ldc, x_m1, x_putf, x_vret, nI_add]
                    refine ih (a + 1) g2 (by omega) (FR_t (FR_w rfl (FR_w rfl f1)) f2) ⟨_, q7⟩ (fun i hi e => by rw [q4 i hi, up1_n e]) ?_
                    rw [eFo, eF, ← opl_a]
                    exact qs
              exact arm (am w n) 0 g (Nat.zero_add _) FR_r ⟨nI (op n), by rw [pu_e (by rw [← e5, h7])]; exact h7⟩ (fun i hi _ => h4 i hi) (by
                have : opl st (foB F 0) = st := opl_n st
                rw [this]
                exact hst7)
    rw [b_mo_ways_0]
    cases st with
    | none =>
      have e7 : g 196 37 = -1 := hst7
      simp -implicitDefEqProofs (disch := first | assumption | omega) only [szS_0, szS_i, szS_r, szS_l, x_cons, x_goto, ob_some, kl_i, kl_r, kl_l, kl_n, push_n, push_s, pop_0, pop_i, pop_r, Int.reduceToNat, List.length_cons, List.length_nil, Nat.reduceAdd, Nat.reduceLeDiff, Nat.zero_add, true_and, nI_n0, nat_le, Nat.add_zero, i_1, rt_mo_ways, x_al0, x_call, x_getf, x_goto, x_iadd, x_iaload, x_iastore, x_iceq, x_icge, x_icgt, x_iclt, x_icne, x_ifne, x_il1, x_il2, x_il3, x_il4, x_il5, x_imul, x_inc4, x_inc5, x_is4, x_is5, x_ishl, x_ldc, x_m1, x_putf, x_vret, fd_196_0, fd_196_1, fd_196_2, fd_196_3, fd_196_4, sf_196_4, fd_196_5, sf_196_5, fd_196_6, fd_196_7, fd_196_8, fd_196_9, fd_196_10, fd_196_11, fd_196_12, sf_196_12, fd_196_13, sf_196_13, fd_196_14, sf_196_14, fd_196_15, sf_196_15, fd_196_16, sf_196_16, fd_196_17, sf_196_17, fd_196_18, sf_196_18, fd_196_19, sf_196_19, fd_196_20, sf_196_20, fd_196_21, sf_196_21, fd_196_22, sf_196_22, fd_196_23, sf_196_23, fd_196_24, sf_196_24, fd_196_25, sf_196_25, fd_196_26, sf_196_26, fd_196_27, fd_196_28, fd_196_29, fd_196_30, sf_196_30, fd_196_31, fd_196_32, fd_196_33, fd_196_34, fd_196_35, fd_196_36, fd_196_37, sf_196_37, fd_196_38, fd_196_39, sf_196_39, fd_196_40, sf_196_40, fd_196_41, sf_196_41, fd_196_42, fd_196_43, fd_196_44, e7, ↓reduceIte]
      exact go fun p hp => by cases hp
    | some p =>
      obtain ⟨e7, hpl, h93⟩ := hst7
      have n1 : (nI p.1 = -1) = False := nI_m1 (by omega)
      simp -implicitDefEqProofs (disch := first | assumption | omega) only [szS_0, szS_i, szS_r, szS_l, x_cons, x_goto, ob_some, kl_i, kl_r, kl_l, kl_n, push_n, push_s, pop_0, pop_i, pop_r, Int.reduceToNat, List.length_cons, List.length_nil, Nat.reduceAdd, Nat.reduceLeDiff, Nat.zero_add, true_and, nI_n0, nat_le, Nat.add_zero, i_1, rt_mo_ways, x_al0, x_call, x_getf, x_goto, x_iadd, x_iaload, x_iastore, x_iceq, x_icge, x_icgt, x_iclt, x_icne, x_ifne, x_il1, x_il2, x_il3, x_il4, x_il5, x_imul, x_inc4, x_inc5, x_is4, x_is5, x_ishl, x_ldc, x_m1, x_putf, x_vret, nI_ltE, ↓reduceIte, fd_196_0, fd_196_1, fd_196_2, fd_196_3, fd_196_4, sf_196_4, fd_196_5, sf_196_5, fd_196_6, fd_196_7, fd_196_8, fd_196_9, fd_196_10, fd_196_11, fd_196_12, sf_196_12, fd_196_13, sf_196_13, fd_196_14, sf_196_14, fd_196_15, sf_196_15, fd_196_16, sf_196_16, fd_196_17, sf_196_17, fd_196_18, sf_196_18, fd_196_19, sf_196_19, fd_196_20, sf_196_20, fd_196_21, sf_196_21, fd_196_22, sf_196_22, fd_196_23, sf_196_23, fd_196_24, sf_196_24, fd_196_25, sf_196_25, fd_196_26, sf_196_26, fd_196_27, fd_196_28, fd_196_29, fd_196_30, sf_196_30, fd_196_31, fd_196_32, fd_196_33, fd_196_34, fd_196_35, fd_196_36, fd_196_37, sf_196_37, fd_196_38, fd_196_39, sf_196_39, fd_196_40, sf_196_40, fd_196_41, sf_196_41, fd_196_42, fd_196_43, fd_196_44, e7, n1]
      by_cases hlt : s < p.1
      · rw [if_pos hlt]
        exact go fun r hr => by cases hr; exact hlt
      · rw [if_neg hlt]
        try simp -implicitDefEqProofs (disch := first | assumption | omega) only [szS_0, szS_i, szS_r, szS_l, x_cons, x_goto, ob_some, kl_i, kl_r, kl_l, kl_n, push_n, push_s, pop_0, pop_i, pop_r, Int.reduceToNat, List.length_cons, List.length_nil, Nat.reduceAdd, Nat.reduceLeDiff, Nat.zero_add, true_and, nI_n0, nat_le, Nat.add_zero, i_1, rt_mo_ways, x_al0, x_call, x_getf, x_goto, x_iadd, x_iaload, x_iastore, x_iceq, x_icge, x_icgt, x_iclt, x_icne, x_ifne, x_il1, x_il2, x_il3, x_il4, x_il5, x_imul, x_inc4, x_inc5, x_is4, x_is5, x_ishl, x_ldc, x_m1, x_putf, x_vret]
        rw [opl_p fun r hr => by have := BRs_ge _ _ _ _ _ _ hr; omega] at H
        exact H g FR_r hF'
/-! who wins, and what each arm lacks -/
theorem lx_in {n a : Nat} {S : Int32} (hw : WI w) (hn : n < 16) (ha : a < 3) (h7 : g 197 = w) (ht : ∀ b, b < am w n → g 209 b = nI (tot V w n b)) (H : wp (ev (d + 8)) P mo_laysWinners 104 [some (.ref 196), some (.int (nI n)), some (.int S), some (.int (nI a)), some (.int (nI (rvx (tot V w n) a (am w n)))), some (.int (nI (am w n)))] [] (E g q)) : ∀ (j b : Nat), b + j = am w n →
    wp (ev (d + 8)) P mo_laysWinners 67 [some (.ref 196), some (.int (nI n)), some (.int S), some (.int (nI a)), some (.int (nI (rvx (tot V w n) a b))), some (.int (nI b))] [] (E g q) := by
  have ha3 := am_le hw hn
  have e1 : g 197 (10 + 20 * n + 1) = nI (am w n) := by rw [h7]; exact (wi_1 hw hn).1
  intro j
  induction j with
  | zero =>
    intro b hb
    have hb : b = am w n := hb
    rw [hb, b_mo_laysWinners_67]
    simp -implicitDefEqProofs (disch := first | assumption | omega) only [szS_0, szS_i, szS_r, szS_l, x_cons, x_goto, ob_some, kl_i, kl_r, kl_l, kl_n, push_n, push_s, pop_0, pop_i, pop_r, Int.reduceToNat, List.length_cons, List.length_nil, Nat.reduceAdd, Nat.reduceLeDiff, Nat.zero_add, true_and, nI_n0, nat_le, Nat.add_zero, i_1, rt_mo_laysWinners, x_al0, x_call, x_getf, x_goto, x_iadd, x_iaload, x_iastore, x_iceq, x_icge, x_icne, x_ifne, x_il1, x_il2, x_il3, x_il4, x_il5, x_imul, x_inc1, x_inc3, x_inc5, x_is1, x_is2, x_is3, x_is4, x_is5, x_ishl, x_isub, x_ldc, x_vret, s_own, e1, nI_ltE, Nat.lt_irrefl, ↓reduceIte]
    exact H
  | succ j ih =>
    intro b hb
    have hb' : b < am w n := by omega
    have l1 := rvx_l (T := tot V w n) (a := a) (m := 6000999) b fun c hc => tot_l hw hn (by omega)
    have l2 := tot_l hw (V := V) hn (show b < 3 by omega)
    have hi := ih (b + 1) (by omega)
    have er : rvx (tot V w n) a (b + 1) = if b = a then rvx (tot V w n) a b else if rvx (tot V w n) a b < tot V w n b then tot V w n b else rvx (tot V w n) a b := rfl
    have et := ht b hb'
    rw [er] at hi
    rw [b_mo_laysWinners_67]
    simp -implicitDefEqProofs (disch := first | assumption | omega) only [szS_0, szS_i, szS_r, szS_l, x_cons, x_goto, ob_some, kl_i, kl_r, kl_l, kl_n, push_n, push_s, pop_0, pop_i, pop_r, Int.reduceToNat, List.length_cons, List.length_nil, Nat.reduceAdd, Nat.reduceLeDiff, Nat.zero_add, true_and, nI_n0, nat_le, Nat.add_zero, i_1, rt_mo_laysWinners, x_al0, x_call, x_getf, x_goto, x_iadd, x_iaload, x_iastore, x_iceq, x_icge, x_icne, x_ifne, x_il1, x_il2, x_il3, x_il4, x_il5, x_imul, x_inc1, x_inc3, x_inc5, x_is1, x_is2, x_is3, x_is4, x_is5, x_ishl, x_isub, x_ldc, x_vret, s_own, e1, nI_ltE, hb', ↓reduceIte, nI_eqE]
    by_cases e : b = a
    · rw [if_pos e] at hi
      rw [if_pos e]
      try simp -implicitDefEqProofs (disch := first | assumption | omega) only [b_mo_laysWinners_98, szS_0, szS_i, szS_r, szS_l, x_cons, x_goto, ob_some, kl_i, kl_r, kl_l, kl_n, push_n, push_s, pop_0, pop_i, pop_r, Int.reduceToNat, List.length_cons, List.length_nil, Nat.reduceAdd, Nat.reduceLeDiff, Nat.zero_add, true_and, nI_n0, nat_le, Nat.add_zero, i_1, rt_mo_laysWinners, x_al0, x_call, x_getf, x_goto, x_iadd, x_iaload, x_iastore, x_iceq, x_icge, x_icne, x_ifne, x_il1, x_il2, x_il3, x_il4, x_il5, x_imul, x_inc1, x_inc3, x_inc5, x_is1, x_is2, x_is3, x_is4, x_is5, x_ishl, x_isub, x_ldc, x_vret, nI_add]
      exact hi
    · rw [if_neg e, mx_s] at hi
      rw [if_neg e]
      try simp -implicitDefEqProofs (disch := first | assumption | omega) only [szS_0, szS_i, szS_r, szS_l, x_cons, x_goto, ob_some, kl_i, kl_r, kl_l, kl_n, push_n, push_s, pop_0, pop_i, pop_r, Int.reduceToNat, List.length_cons, List.length_nil, Nat.reduceAdd, Nat.reduceLeDiff, Nat.zero_add, true_and, nI_n0, nat_le, Nat.add_zero, i_1, rt_mo_laysWinners, x_al0, x_call, x_getf, x_goto, x_iadd, x_iaload, x_iastore, x_iceq, x_icge, x_icne, x_ifne, x_il1, x_il2, x_il3, x_il4, x_il5, x_imul, x_inc1, x_inc3, x_inc5, x_is1, x_is2, x_is3, x_is4, x_is5, x_ishl, x_isub, x_ldc, x_vret, fd_196_0, fd_196_1, fd_196_2, fd_196_3, fd_196_4, sf_196_4, fd_196_5, sf_196_5, fd_196_6, fd_196_7, fd_196_8, fd_196_9, fd_196_10, fd_196_11, fd_196_12, sf_196_12, fd_196_13, sf_196_13, fd_196_14, sf_196_14, fd_196_15, sf_196_15, fd_196_16, sf_196_16, fd_196_17, sf_196_17, fd_196_18, sf_196_18, fd_196_19, sf_196_19, fd_196_20, sf_196_20, fd_196_21, sf_196_21, fd_196_22, sf_196_22, fd_196_23, sf_196_23, fd_196_24, sf_196_24, fd_196_25, sf_196_25, fd_196_26, sf_196_26, fd_196_27, fd_196_28, fd_196_29, fd_196_30, sf_196_30, fd_196_31, fd_196_32, fd_196_33, fd_196_34, fd_196_35, fd_196_36, fd_196_37, sf_196_37, fd_196_38, fd_196_39, sf_196_39, fd_196_40, sf_196_40, fd_196_41, sf_196_41, fd_196_42, fd_196_43, fd_196_44, ld_209, sd_209, ln_209, et, s_greater, nI_ltE, nI_ite, b_mo_laysWinners_98, nI_add]
      exact hi
theorem lx_arm {n : Nat} {S : Int32} (hw : WI w) (hn : n < nn w) (hs : fd w n 0 = 0) {g0 : Nat → Nat → Int32} (h7 : g0 197 = w) (ht : ∀ b, b < am w n → g0 209 b = nI (tot V w n b)) (h12 : g0 212 n = nI (wnO V w n)) (H : ∀ g' o4 o5, (∀ b, b ≠ 213 → g' b = g0 b) → (∀ k, k < 3 * n → g' 213 k = g0 213 k) → (∀ b, b < am w n → g' 213 (3 * n + b) = nI (coF V w n b)) → wp (ev (d + 8)) P mo_laysWinners 147 [some (.ref 196), some (.int (nI n)), some (.int S), some (.int (nI (am w n))), o4, o5] [] (E g' q)) : ∀ (j a : Nat) (g : Nat → Nat → Int32) (o4 o5 : Option Value), a + j = am w n → (∀ b, b ≠ 213 → g b = g0 b) → (∀ k, k < 3 * n → g 213 k = g0 213 k) → (∀ b, b < a → g 213 (3 * n + b) = nI (coF V w n b)) →
    wp (ev (d + 8)) P mo_laysWinners 51 [some (.ref 196), some (.int (nI n)), some (.int S), some (.int (nI a)), o4, o5] [] (E g q) := by
  have hN := wi_n hw
  have hn16 : n < 16 := by omega
  have ha3 := am_le hw hn16
  have hol := (wnO_o (V := V) hw n hn hs).2
  have hpl : (2 : Nat) ^ am w n ≤ 2 ^ 3 := Nat.pow_le_pow_right (by decide) ha3
  intro j
  induction j with
  | zero =>
    intro a g o4 o5 ha f0 f1 f2
    have ha : a = am w n := ha
    have e1 : g 197 (10 + 20 * n + 1) = nI (am w n) := by rw [f0 197 (by decide), h7]; exact (wi_1 hw hn16).1
    subst ha
    rw [b_mo_laysWinners_51]
    simp -implicitDefEqProofs (disch := first | assumption | omega) only [szS_0, szS_i, szS_r, szS_l, x_cons, x_goto, ob_some, kl_i, kl_r, kl_l, kl_n, push_n, push_s, pop_0, pop_i, pop_r, Int.reduceToNat, List.length_cons, List.length_nil, Nat.reduceAdd, Nat.reduceLeDiff, Nat.zero_add, true_and, nI_n0, nat_le, Nat.add_zero, i_1, rt_mo_laysWinners, x_al0, x_call, x_getf, x_goto, x_iadd, x_iaload, x_iastore, x_iceq, x_icge, x_icne, x_ifne, x_il1, x_il2, x_il3, x_il4, x_il5, x_imul, x_inc1, x_inc3, x_inc5, x_is1, x_is2, x_is3, x_is4, x_is5, x_ishl, x_isub, x_ldc, x_vret, s_own, e1, nI_ltE, Nat.lt_irrefl, ↓reduceIte]
    exact H g _ _ f0 f1 f2
  | succ j ih =>
    intro a g o4 o5 ha f0 f1 f2
    have ha' : a < am w n := by omega
    have e1 : g 197 (10 + 20 * n + 1) = nI (am w n) := by rw [f0 197 (by decide), h7]; exact (wi_1 hw hn16).1
    have e12 : g 212 n = nI (wnO V w n) := by rw [f0 212 (by decide)]; exact h12
    have e9 : g 209 a = nI (tot V w n a) := by rw [f0 209 (by decide)]; exact ht a ha'
    have hal : (2 : Nat) ^ a ≤ 2 ^ 3 := Nat.pow_le_pow_right (by decide) (by omega)
    have l1 := rvx_l (T := tot V w n) (a := a) (m := 6000999) (am w n) fun c hc => tot_l hw hn16 (by omega)
    have l2 := tot_l hw (V := V) hn16 (show a < 3 by omega)
    have fin : wp (ev (d + 8)) P mo_laysWinners 140 [some (.ref 196), some (.int (nI n)), some (.int S), some (.int (nI a)), some (.int (nI (rvx (tot V w n) a (am w n)))), some (.int (nI (am w n)))] [.int (nI (coF V w n a)), .int (nI (3 * n + a)), .ref 213] (E g q) := by
      rw [b_mo_laysWinners_140]
      simp -implicitDefEqProofs (disch := first | assumption | omega) only [szS_0, szS_i, szS_r, szS_l, x_cons, x_goto, ob_some, kl_i, kl_r, kl_l, kl_n, push_n, push_s, pop_0, pop_i, pop_r, Int.reduceToNat, List.length_cons, List.length_nil, Nat.reduceAdd, Nat.reduceLeDiff, Nat.zero_add, true_and, nI_n0, nat_le, Nat.add_zero, i_1, rt_mo_laysWinners, x_al0, x_call, x_getf, x_goto, x_iadd, x_iaload, x_iastore, x_iceq, x_icge, x_icne, x_ifne, x_il1, x_il2, x_il3, x_il4, x_il5, x_imul, x_inc1, x_inc3, x_inc5, x_is1, x_is2, x_is3, x_is4, x_is5, x_ishl, x_isub, x_ldc, x_vret, ld_213, sd_213, ln_213, pu_g, nI_add]
      refine ih (a + 1) _ _ _ (by omega) (fun b hb => by rw [upw_o hb]; exact f0 b hb) (fun k hk => by rw [upw_s, pu_n (by omega)]; exact f1 k hk) fun b hb => ?_
      rw [upw_s]
      by_cases e : b = a
      · rw [e, pu_s]
      · rw [pu_n (by omega)]
        exact f2 b (by omega)
    rw [b_mo_laysWinners_51]
    simp -implicitDefEqProofs (disch := first | assumption | omega) only [szS_0, szS_i, szS_r, szS_l, x_cons, x_goto, ob_some, kl_i, kl_r, kl_l, kl_n, push_n, push_s, pop_0, pop_i, pop_r, Int.reduceToNat, List.length_cons, List.length_nil, Nat.reduceAdd, Nat.reduceLeDiff, Nat.zero_add, true_and, nI_n0, nat_le, Nat.add_zero, i_1, rt_mo_laysWinners, x_al0, x_call, x_getf, x_goto, x_iadd, x_iaload, x_iastore, x_iceq, x_icge, x_icne, x_ifne, x_il1, x_il2, x_il3, x_il4, x_il5, x_imul, x_inc1, x_inc3, x_inc5, x_is1, x_is2, x_is3, x_is4, x_is5, x_ishl, x_isub, x_ldc, x_vret, s_own, e1, nI_ltE, ha', ↓reduceIte]
    refine lx_in (V := V) hw hn16 (by omega) (by rw [f0 197 (by decide)]; exact h7) (fun b hb => by rw [f0 209 (by decide)]; exact ht b hb) ?_ (am w n) 0 (Nat.zero_add _)
    rw [b_mo_laysWinners_104]
    simp -implicitDefEqProofs (disch := first | assumption | omega) only [szS_0, szS_i, szS_r, szS_l, x_cons, x_goto, ob_some, kl_i, kl_r, kl_l, kl_n, push_n, push_s, pop_0, pop_i, pop_r, Int.reduceToNat, List.length_cons, List.length_nil, Nat.reduceAdd, Nat.reduceLeDiff, Nat.zero_add, true_and, nI_n0, nat_le, Nat.add_zero, i_1, rt_mo_laysWinners, x_al0, x_call, x_getf, x_goto, x_iadd, x_iaload, x_iastore, x_iceq, x_icge, x_icne, x_ifne, x_il1, x_il2, x_il3, x_il4, x_il5, x_imul, x_inc1, x_inc3, x_inc5, x_is1, x_is2, x_is3, x_is4, x_is5, x_ishl, x_isub, x_ldc, x_vret, fd_196_0, fd_196_1, fd_196_2, fd_196_3, fd_196_4, sf_196_4, fd_196_5, sf_196_5, fd_196_6, fd_196_7, fd_196_8, fd_196_9, fd_196_10, fd_196_11, fd_196_12, sf_196_12, fd_196_13, sf_196_13, fd_196_14, sf_196_14, fd_196_15, sf_196_15, fd_196_16, sf_196_16, fd_196_17, sf_196_17, fd_196_18, sf_196_18, fd_196_19, sf_196_19, fd_196_20, sf_196_20, fd_196_21, sf_196_21, fd_196_22, sf_196_22, fd_196_23, sf_196_23, fd_196_24, sf_196_24, fd_196_25, sf_196_25, fd_196_26, sf_196_26, fd_196_27, fd_196_28, fd_196_29, fd_196_30, sf_196_30, fd_196_31, fd_196_32, fd_196_33, fd_196_34, fd_196_35, fd_196_36, fd_196_37, sf_196_37, fd_196_38, fd_196_39, sf_196_39, fd_196_40, sf_196_40, fd_196_41, sf_196_41, fd_196_42, fd_196_43, fd_196_44, ld_212, sd_212, ln_212, e12, nI_mul, nI_add, nI_shl1, nI_eqE]
    by_cases e : wnO V w n = 2 ^ a
    · have ec : coF V w n a = 0 := if_pos e
      rw [ec] at fin
      rw [if_pos e]
      try simp -implicitDefEqProofs (disch := first | assumption | omega) only [szS_0, szS_i, szS_r, szS_l, x_cons, x_goto, ob_some, kl_i, kl_r, kl_l, kl_n, push_n, push_s, pop_0, pop_i, pop_r, Int.reduceToNat, List.length_cons, List.length_nil, Nat.reduceAdd, Nat.reduceLeDiff, Nat.zero_add, true_and, nI_n0, nat_le, Nat.add_zero, i_1, rt_mo_laysWinners, x_al0, x_call, x_getf, x_goto, x_iadd, x_iaload, x_iastore, x_iceq, x_icge, x_icne, x_ifne, x_il1, x_il2, x_il3, x_il4, x_il5, x_imul, x_inc1, x_inc3, x_inc5, x_is1, x_is2, x_is3, x_is4, x_is5, x_ishl, x_isub, x_ldc, x_vret]
      exact fin
    · have ec : coF V w n a = rvx (tot V w n) a (am w n) + 1 - tot V w n a := if_neg e
      have hok := co_ok (V := V) (w := w) ha' e
      rw [ec] at fin
      rw [if_neg e]
      try simp -implicitDefEqProofs (disch := first | assumption | omega) only [b_mo_laysWinners_129, szS_0, szS_i, szS_r, szS_l, x_cons, x_goto, ob_some, kl_i, kl_r, kl_l, kl_n, push_n, push_s, pop_0, pop_i, pop_r, Int.reduceToNat, List.length_cons, List.length_nil, Nat.reduceAdd, Nat.reduceLeDiff, Nat.zero_add, true_and, nI_n0, nat_le, Nat.add_zero, i_1, rt_mo_laysWinners, x_al0, x_call, x_getf, x_goto, x_iadd, x_iaload, x_iastore, x_iceq, x_icge, x_icne, x_ifne, x_il1, x_il2, x_il3, x_il4, x_il5, x_imul, x_inc1, x_inc3, x_inc5, x_is1, x_is2, x_is3, x_is4, x_is5, x_ishl, x_isub, x_ldc, x_vret, fd_196_0, fd_196_1, fd_196_2, fd_196_3, fd_196_4, sf_196_4, fd_196_5, sf_196_5, fd_196_6, fd_196_7, fd_196_8, fd_196_9, fd_196_10, fd_196_11, fd_196_12, sf_196_12, fd_196_13, sf_196_13, fd_196_14, sf_196_14, fd_196_15, sf_196_15, fd_196_16, sf_196_16, fd_196_17, sf_196_17, fd_196_18, sf_196_18, fd_196_19, sf_196_19, fd_196_20, sf_196_20, fd_196_21, sf_196_21, fd_196_22, sf_196_22, fd_196_23, sf_196_23, fd_196_24, sf_196_24, fd_196_25, sf_196_25, fd_196_26, sf_196_26, fd_196_27, fd_196_28, fd_196_29, fd_196_30, sf_196_30, fd_196_31, fd_196_32, fd_196_33, fd_196_34, fd_196_35, fd_196_36, fd_196_37, sf_196_37, fd_196_38, fd_196_39, sf_196_39, fd_196_40, sf_196_40, fd_196_41, sf_196_41, fd_196_42, fd_196_43, fd_196_44, ld_209, sd_209, ln_209, e9, nI_add, nI_sub, hok]
      exact fin
def lwD (V : LW) (w : Nat → Int32) (n : Nat) (g : Nat → Nat → Int32) : Prop := ∀ m, m < n → m < nn w → fd w m 0 = 0 → g 212 m = nI (wnO V w m) ∧ ∀ b, b < am w m → g 213 (3 * m + b) = nI (coF V w m b)
theorem lx_lp (hw : WI w) (hL : LK w 0 okV V) {g0 : Nat → Nat → Int32} (h7 : g0 197 = w) (H : ∀ g', FR [205, 206, 207, 209, 212, 213] [30] g0 g' → lwD V w (nn w) g' → P none (E g' q)) : ∀ (j n : Nat) (g : Nat → Nat → Int32) (o2 o3 o4 o5 : Option Value), n + j = nn w → FR [205, 206, 207, 209, 212, 213] [30] g0 g → lwD V w n g →
    wp (ev (d + 8)) P mo_laysWinners 2 [some (.ref 196), some (.int (nI n)), o2, o3, o4, o5] [] (E g q) := by
  have hN := wi_n hw
  intro j
  induction j with
  | zero =>
    intro n g o2 o3 o4 o5 hn hg hD
    have hn : n = nn w := hn
    subst hn
    have e7 : g 197 = w := by rw [FR_a hg rfl]; exact h7
    rw [b_mo_laysWinners_2]
    simp -implicitDefEqProofs (disch := first | assumption | omega) only [szS_0, szS_i, szS_r, szS_l, x_cons, x_goto, ob_some, kl_i, kl_r, kl_l, kl_n, push_n, push_s, pop_0, pop_i, pop_r, Int.reduceToNat, List.length_cons, List.length_nil, Nat.reduceAdd, Nat.reduceLeDiff, Nat.zero_add, true_and, nI_n0, nat_le, Nat.add_zero, i_1, rt_mo_laysWinners, x_al0, x_call, x_getf, x_goto, x_iadd, x_iaload, x_iastore, x_iceq, x_icge, x_icne, x_ifne, x_il1, x_il2, x_il3, x_il4, x_il5, x_imul, x_inc1, x_inc3, x_inc5, x_is1, x_is2, x_is3, x_is4, x_is5, x_ishl, x_isub, x_ldc, x_vret, fd_196_0, fd_196_1, fd_196_2, fd_196_3, fd_196_4, sf_196_4, fd_196_5, sf_196_5, fd_196_6, fd_196_7, fd_196_8, fd_196_9, fd_196_10, fd_196_11, fd_196_12, sf_196_12, fd_196_13, sf_196_13, fd_196_14, sf_196_14, fd_196_15, sf_196_15, fd_196_16, sf_196_16, fd_196_17, sf_196_17, fd_196_18, sf_196_18, fd_196_19, sf_196_19, fd_196_20, sf_196_20, fd_196_21, sf_196_21, fd_196_22, sf_196_22, fd_196_23, sf_196_23, fd_196_24, sf_196_24, fd_196_25, sf_196_25, fd_196_26, sf_196_26, fd_196_27, fd_196_28, fd_196_29, fd_196_30, sf_196_30, fd_196_31, fd_196_32, fd_196_33, fd_196_34, fd_196_35, fd_196_36, fd_196_37, sf_196_37, fd_196_38, fd_196_39, sf_196_39, fd_196_40, sf_196_40, fd_196_41, sf_196_41, fd_196_42, fd_196_43, fd_196_44, ld_197, sd_197, ln_197, e7, hN.1, nI_ltE, Nat.lt_irrefl, ↓reduceIte, b_mo_laysWinners_153]
    exact H g hg hD
  | succ j ih =>
    intro n g o2 o3 o4 o5 hn hg hD
    have hn' : n < nn w := by omega
    have hn16 : n < 16 := by omega
    have e7 : g 197 = w := by rw [FR_a hg rfl]; exact h7
    rw [b_mo_laysWinners_2]
    simp -implicitDefEqProofs (disch := first | assumption | omega) only [szS_0, szS_i, szS_r, szS_l, x_cons, x_goto, ob_some, kl_i, kl_r, kl_l, kl_n, push_n, push_s, pop_0, pop_i, pop_r, Int.reduceToNat, List.length_cons, List.length_nil, Nat.reduceAdd, Nat.reduceLeDiff, Nat.zero_add, true_and, nI_n0, nat_le, Nat.add_zero, i_1, rt_mo_laysWinners, x_al0, x_call, x_getf, x_goto, x_iadd, x_iaload, x_iastore, x_iceq, x_icge, x_icne, x_ifne, x_il1, x_il2, x_il3, x_il4, x_il5, x_imul, x_inc1, x_inc3, x_inc5, x_is1, x_is2, x_is3, x_is4, x_is5, x_ishl, x_isub, x_ldc, x_vret, fd_196_0, fd_196_1, fd_196_2, fd_196_3, fd_196_4, sf_196_4, fd_196_5, sf_196_5, fd_196_6, fd_196_7, fd_196_8, fd_196_9, fd_196_10, fd_196_11, fd_196_12, sf_196_12, fd_196_13, sf_196_13, fd_196_14, sf_196_14, fd_196_15, sf_196_15, fd_196_16, sf_196_16, fd_196_17, sf_196_17, fd_196_18, sf_196_18, fd_196_19, sf_196_19, fd_196_20, sf_196_20, fd_196_21, sf_196_21, fd_196_22, sf_196_22, fd_196_23, sf_196_23, fd_196_24, sf_196_24, fd_196_25, sf_196_25, fd_196_26, sf_196_26, fd_196_27, fd_196_28, fd_196_29, fd_196_30, sf_196_30, fd_196_31, fd_196_32, fd_196_33, fd_196_34, fd_196_35, fd_196_36, fd_196_37, sf_196_37, fd_196_38, fd_196_39, sf_196_39, fd_196_40, sf_196_40, fd_196_41, sf_196_41, fd_196_42, fd_196_43, fd_196_44, ld_197, sd_197, ln_197, e7, hN.1, nI_ltE, hn', ↓reduceIte]
    rw [s_isFork (by rw [e7]; exact hw), e7, forkB_nI hw (by omega), decide_eq_true hn', Bool.true_and]
    simp -implicitDefEqProofs (disch := first | assumption | omega) only [szS_0, szS_i, szS_r, szS_l, x_cons, x_goto, ob_some, kl_i, kl_r, kl_l, kl_n, push_n, push_s, pop_0, pop_i, pop_r, Int.reduceToNat, List.length_cons, List.length_nil, Nat.reduceAdd, Nat.reduceLeDiff, Nat.zero_add, true_and, nI_n0, nat_le, Nat.add_zero, i_1, rt_mo_laysWinners, x_al0, x_call, x_getf, x_goto, x_iadd, x_iaload, x_iastore, x_iceq, x_icge, x_icne, x_ifne, x_il1, x_il2, x_il3, x_il4, x_il5, x_imul, x_inc1, x_inc3, x_inc5, x_is1, x_is2, x_is3, x_is4, x_is5, x_ishl, x_isub, x_ldc, x_vret, bI_0]
    by_cases h0 : fd w n 0 = 0
    · rw [decide_eq_true h0]
      simp -implicitDefEqProofs (disch := first | assumption | omega) only [Bool.true_eq_false, ↓reduceIte, b_mo_laysWinners_23, szS_0, szS_i, szS_r, szS_l, x_cons, x_goto, ob_some, kl_i, kl_r, kl_l, kl_n, push_n, push_s, pop_0, pop_i, pop_r, Int.reduceToNat, List.length_cons, List.length_nil, Nat.reduceAdd, Nat.reduceLeDiff, Nat.zero_add, true_and, nI_n0, nat_le, Nat.add_zero, i_1, rt_mo_laysWinners, x_al0, x_call, x_getf, x_goto, x_iadd, x_iaload, x_iastore, x_iceq, x_icge, x_icne, x_ifne, x_il1, x_il2, x_il3, x_il4, x_il5, x_imul, x_inc1, x_inc3, x_inc5, x_is1, x_is2, x_is3, x_is4, x_is5, x_ishl, x_isub, x_ldc, x_vret]
      refine s_laysVotes (V := V) (f := n) (by rw [e7]; exact hw) (by rw [e7]; exact hL) (by rw [e7]; exact hn') fun g1 f1 k1 t1 => ?_
      rw [e7] at k1 t1 ⊢
      have hwl := wset_lt V w n
      have ha3 := am_le hw hn16
      have hpl : (2 : Nat) ^ am w n ≤ 2 ^ 3 := Nat.pow_le_pow_right (by decide) ha3
      have k7 : g1 197 = w := by rw [FR_a f1 rfl]; exact e7
      have e5 : g1 197 (10 + 20 * n + 5) = nI (fd w n 5) := by rw [k7]; exact (wi_x hw hn16).1.1
      have fin : wp (ev (d + 8)) P mo_laysWinners 48 [some (.ref 196), some (.int (nI n)), some (.int (nI (wset V w n))), o3, o4, o5] [.int (nI (wnO V w n)), .int (nI n), .ref 212] (E g1 q) := by
        rw [b_mo_laysWinners_48]
        simp -implicitDefEqProofs (disch := first | assumption | omega) only [szS_0, szS_i, szS_r, szS_l, x_cons, x_goto, ob_some, kl_i, kl_r, kl_l, kl_n, push_n, push_s, pop_0, pop_i, pop_r, Int.reduceToNat, List.length_cons, List.length_nil, Nat.reduceAdd, Nat.reduceLeDiff, Nat.zero_add, true_and, nI_n0, nat_le, Nat.add_zero, i_1, rt_mo_laysWinners, x_al0, x_call, x_getf, x_goto, x_iadd, x_iaload, x_iastore, x_iceq, x_icge, x_icne, x_ifne, x_il1, x_il2, x_il3, x_il4, x_il5, x_imul, x_inc1, x_inc3, x_inc5, x_is1, x_is2, x_is3, x_is4, x_is5, x_ishl, x_isub, x_ldc, x_vret, ld_212, sd_212, ln_212, pu_g]
        refine lx_arm (V := V) (g0 := upw g1 212 (pu (g1 212) n (nI (wnO V w n)))) hw hn' h0 (by rw [upw_o (by decide)]; exact k7) (fun b hb => by rw [upw_o (by decide)]; exact t1 b hb) (by rw [upw_s, pu_s]) (fun g2 p4 p5 f2 f3 f4 => ?_) (am w n) 0 _ _ _ (Nat.zero_add _) (fun _ _ => rfl) (fun _ _ => rfl) fun b hb => absurd hb (Nat.not_lt_zero b)
        rw [b_mo_laysWinners_147]
        simp -implicitDefEqProofs (disch := first | assumption | omega) only [szS_0, szS_i, szS_r, szS_l, x_cons, x_goto, ob_some, kl_i, kl_r, kl_l, kl_n, push_n, push_s, pop_0, pop_i, pop_r, Int.reduceToNat, List.length_cons, List.length_nil, Nat.reduceAdd, Nat.reduceLeDiff, Nat.zero_add, true_and, nI_n0, nat_le, Nat.add_zero, i_1, rt_mo_laysWinners, x_al0, x_call, x_getf, x_goto, x_iadd, x_iaload, x_iastore, x_iceq, x_icge, x_icne, x_ifne, x_il1, x_il2, x_il3, x_il4, x_il5, x_imul, x_inc1, x_inc3, x_inc5, x_is1, x_is2, x_is3, x_is4, x_is5, x_ishl, x_isub, x_ldc, x_vret, nI_add]
        have fr2 : FR [205, 206, 207, 209, 212, 213] [30] g g2 := ⟨fun b b1 b2 => by
          have b3 : b ≠ 213 := fun e => b2 (by rw [e]; decide)
          have b4 : b ≠ 212 := fun e => b2 (by rw [e]; decide)
          rw [f2 b b3, upw_o b4]
          exact f1.1 b b1 fun hm => b2 (by
            simp only [List.mem_cons, List.not_mem_nil, or_false] at hm ⊢
            omega), fun k hk => by
          rw [f2 196 (by decide), upw_o (by decide)]
          exact f1.2 k hk⟩
        refine ih (n + 1) g2 _ _ _ _ (by omega) (FR_t hg fr2) fun m hm hm2 hms => ?_
        by_cases e : m = n
        · rw [e]
          exact ⟨by rw [f2 212 (by decide), upw_s, pu_s], f4⟩
        · obtain ⟨x1, x2⟩ := hD m (by omega) hm2 hms
          have := am_le hw (n := m) (by omega)
          refine ⟨by rw [f2 212 (by decide), upw_s, pu_n e, FR_a f1 (a := 212) rfl]; exact x1, fun b hb => ?_⟩
          rw [f3 _ (by omega), upw_o (by decide), FR_a f1 (a := 213) rfl]
          exact x2 b hb
      simp -implicitDefEqProofs (disch := first | assumption | omega) only [szS_0, szS_i, szS_r, szS_l, x_cons, x_goto, ob_some, kl_i, kl_r, kl_l, kl_n, push_n, push_s, pop_0, pop_i, pop_r, Int.reduceToNat, List.length_cons, List.length_nil, Nat.reduceAdd, Nat.reduceLeDiff, Nat.zero_add, true_and, nI_n0, nat_le, Nat.add_zero, i_1, rt_mo_laysWinners, x_al0, x_call, x_getf, x_goto, x_iadd, x_iaload, x_iastore, x_iceq, x_icge, x_icne, x_ifne, x_il1, x_il2, x_il3, x_il4, x_il5, x_imul, x_inc1, x_inc3, x_inc5, x_is1, x_is2, x_is3, x_is4, x_is5, x_ishl, x_isub, x_ldc, x_vret, fd_196_0, fd_196_1, fd_196_2, fd_196_3, fd_196_4, sf_196_4, fd_196_5, sf_196_5, fd_196_6, fd_196_7, fd_196_8, fd_196_9, fd_196_10, fd_196_11, fd_196_12, sf_196_12, fd_196_13, sf_196_13, fd_196_14, sf_196_14, fd_196_15, sf_196_15, fd_196_16, sf_196_16, fd_196_17, sf_196_17, fd_196_18, sf_196_18, fd_196_19, sf_196_19, fd_196_20, sf_196_20, fd_196_21, sf_196_21, fd_196_22, sf_196_22, fd_196_23, sf_196_23, fd_196_24, sf_196_24, fd_196_25, sf_196_25, fd_196_26, sf_196_26, fd_196_27, fd_196_28, fd_196_29, fd_196_30, sf_196_30, fd_196_31, fd_196_32, fd_196_33, fd_196_34, fd_196_35, fd_196_36, fd_196_37, sf_196_37, fd_196_38, fd_196_39, sf_196_39, fd_196_40, sf_196_40, fd_196_41, sf_196_41, fd_196_42, fd_196_43, fd_196_44, nI_eqE]
      by_cases hz : wset V w n = 0
      · have ew : wnO V w n = fd w n 5 := if_pos (wset_0.mp hz)
        rw [ew] at fin
        rw [if_pos hz]
        try simp -implicitDefEqProofs (disch := first | assumption | omega) only [szS_0, szS_i, szS_r, szS_l, x_cons, x_goto, ob_some, kl_i, kl_r, kl_l, kl_n, push_n, push_s, pop_0, pop_i, pop_r, Int.reduceToNat, List.length_cons, List.length_nil, Nat.reduceAdd, Nat.reduceLeDiff, Nat.zero_add, true_and, nI_n0, nat_le, Nat.add_zero, i_1, rt_mo_laysWinners, x_al0, x_call, x_getf, x_goto, x_iadd, x_iaload, x_iastore, x_iceq, x_icge, x_icne, x_ifne, x_il1, x_il2, x_il3, x_il4, x_il5, x_imul, x_inc1, x_inc3, x_inc5, x_is1, x_is2, x_is3, x_is4, x_is5, x_ishl, x_isub, x_ldc, x_vret, s_own, e5]
        exact fin
      · have ew : wnO V w n = wset V w n := if_neg fun e => hz (wset_0.mpr e)
        rw [ew] at fin
        rw [if_neg hz]
        try simp -implicitDefEqProofs (disch := first | assumption | omega) only [b_mo_laysWinners_47, szS_0, szS_i, szS_r, szS_l, x_cons, x_goto, ob_some, kl_i, kl_r, kl_l, kl_n, push_n, push_s, pop_0, pop_i, pop_r, Int.reduceToNat, List.length_cons, List.length_nil, Nat.reduceAdd, Nat.reduceLeDiff, Nat.zero_add, true_and, nI_n0, nat_le, Nat.add_zero, i_1, rt_mo_laysWinners, x_al0, x_call, x_getf, x_goto, x_iadd, x_iaload, x_iastore, x_iceq, x_icge, x_icne, x_ifne, x_il1, x_il2, x_il3, x_il4, x_il5, x_imul, x_inc1, x_inc3, x_inc5, x_is1, x_is2, x_is3, x_is4, x_is5, x_ishl, x_isub, x_ldc, x_vret]
        exact fin
    · rw [decide_eq_false h0]
      simp -implicitDefEqProofs (disch := first | assumption | omega) only [↓reduceIte, szS_0, szS_i, szS_r, szS_l, x_cons, x_goto, ob_some, kl_i, kl_r, kl_l, kl_n, push_n, push_s, pop_0, pop_i, pop_r, Int.reduceToNat, List.length_cons, List.length_nil, Nat.reduceAdd, Nat.reduceLeDiff, Nat.zero_add, true_and, nI_n0, nat_le, Nat.add_zero, i_1, rt_mo_laysWinners, x_al0, x_call, x_getf, x_goto, x_iadd, x_iaload, x_iastore, x_iceq, x_icge, x_icne, x_ifne, x_il1, x_il2, x_il3, x_il4, x_il5, x_imul, x_inc1, x_inc3, x_inc5, x_is1, x_is2, x_is3, x_is4, x_is5, x_ishl, x_isub, x_ldc, x_vret, b_mo_laysWinners_147, nI_add]
      refine ih (n + 1) g _ _ _ _ (by omega) hg fun m hm hm2 hms => ?_
      by_cases e : m = n
      · rw [e] at hms
        exact absurd hms h0
      · exact hD m (by omega) hm2 hms
theorem s_laysWinners (hw : WI w) (hL : LK w 0 okV V) (h7 : g 197 = w) (H : ∀ g', FR [205, 206, 207, 209, 212, 213] [30] g g' → lwD V w (nn w) g' → P none (E g' q)) : callC (ev (d + 9)) mo_laysWinners [.ref 196] (E g q) P := by
  refine in_mo_laysWinners rfl ?_
  rw [b_mo_laysWinners_0]
  simp -implicitDefEqProofs (disch := first | assumption | omega) only [szS_0, szS_i, szS_r, szS_l, x_cons, x_goto, ob_some, kl_i, kl_r, kl_l, kl_n, push_n, push_s, pop_0, pop_i, pop_r, Int.reduceToNat, List.length_cons, List.length_nil, Nat.reduceAdd, Nat.reduceLeDiff, Nat.zero_add, true_and, nI_n0, nat_le, Nat.add_zero, i_1, rt_mo_laysWinners, x_al0, x_call, x_getf, x_goto, x_iadd, x_iaload, x_iastore, x_iceq, x_icge, x_icne, x_ifne, x_il1, x_il2, x_il3, x_il4, x_il5, x_imul, x_inc1, x_inc3, x_inc5, x_is1, x_is2, x_is3, x_is4, x_is5, x_ishl, x_isub, x_ldc, x_vret]
  exact lx_lp hw hL h7 H (nn w) 0 g _ _ _ _ (Nat.zero_add _) FR_r fun m hm => absurd hm (Nat.not_lt_zero m)
/-- each fork opens as it's voted -/
theorem le_lp (hw : WI w) {g0 : Nat → Nat → Int32} (h12 : ∀ m, m < nn w → fd w m 0 = 0 → g0 212 m = nI (wnO V w m)) {t k : Int32} (H : ∀ g', FR [197, 214] [] g0 g' → oQ w (wnO V w) (g' 197) → (∀ i, i < nn w → g' 214 i = nI 0) → wp (ev (d + 4)) P mo_least 89 [some (.ref 196), some (.int t), some (.int k), some (.int (nI (nn w)))] [] (E g' q)) : ∀ (j n : Nat) (g : Nat → Nat → Int32) (r : Nat → Int32), n + j = nn w → FR [197, 214] [] g0 g → g 197 = r → (∀ k, (∀ m, m < nn w → k ≠ 10 + 20 * m + 5) → r k = w k) → WI r → (∀ m, m < n → fd w m 0 = 0 → fd r m 5 = wnO V w m) → (∀ i, i < n → g 214 i = nI 0) →
    wp (ev (d + 4)) P mo_least 46 [some (.ref 196), some (.int t), some (.int k), some (.int (nI n))] [] (E g q) := by
  have hN := wi_n hw
  intro j
  induction j with
  | zero =>
    intro n g r hn hg h7 hr hrw ho h4
    have hn : n = nn w := hn
    subst hn
    have e0 : g 197 0 = nI (nn w) := by rw [h7, hr 0 fun m _ => by omega]; exact hN.1
    rw [b_mo_least_46]
    simp -implicitDefEqProofs (disch := first | assumption | omega) only [szS_0, szS_i, szS_r, szS_l, x_cons, x_goto, ob_some, kl_i, kl_r, kl_l, kl_n, push_n, push_s, pop_0, pop_i, pop_r, Int.reduceToNat, List.length_cons, List.length_nil, Nat.reduceAdd, Nat.reduceLeDiff, Nat.zero_add, true_and, nI_n0, nat_le, Nat.add_zero, i_1, rt_mo_least, x_al0, x_call, x_getf, x_goto, x_iaload, x_iastore, x_iceq, x_icge, x_ifeq, x_ifne, x_il1, x_il2, x_il3, x_inc3, x_iret, x_is3, x_isub, x_ldc, x_m1, x_putf, fd_196_0, fd_196_1, fd_196_2, fd_196_3, fd_196_4, sf_196_4, fd_196_5, sf_196_5, fd_196_6, fd_196_7, fd_196_8, fd_196_9, fd_196_10, fd_196_11, fd_196_12, sf_196_12, fd_196_13, sf_196_13, fd_196_14, sf_196_14, fd_196_15, sf_196_15, fd_196_16, sf_196_16, fd_196_17, sf_196_17, fd_196_18, sf_196_18, fd_196_19, sf_196_19, fd_196_20, sf_196_20, fd_196_21, sf_196_21, fd_196_22, sf_196_22, fd_196_23, sf_196_23, fd_196_24, sf_196_24, fd_196_25, sf_196_25, fd_196_26, sf_196_26, fd_196_27, fd_196_28, fd_196_29, fd_196_30, sf_196_30, fd_196_31, fd_196_32, fd_196_33, fd_196_34, fd_196_35, fd_196_36, fd_196_37, sf_196_37, fd_196_38, fd_196_39, sf_196_39, fd_196_40, sf_196_40, fd_196_41, sf_196_41, fd_196_42, fd_196_43, fd_196_44, ld_197, sd_197, ln_197, e0, nI_ltE, Nat.lt_irrefl, ↓reduceIte]
    refine H g hg ?_ h4
    rw [h7]
    exact ⟨hr, hrw, fun m hm hms => ho m hm hms⟩
  | succ j ih =>
    intro n g r hn hg h7 hr hrw ho h4
    have hn' : n < nn w := by omega
    have hn16 : n < 16 := by omega
    have e0 : g 197 0 = nI (nn w) := by rw [h7, hr 0 fun m _ => by omega]; exact hN.1
    have hwt := oR_w fun k hk => hr k fun m hm => hk m (by omega)
    have hnr : nn r = nn w := stc_nn hwt.1
    have eF : forkB (g 197) (nI n) = decide (fd w n 0 = 0) := by
      rw [h7, forkB_nI hrw (by omega), hnr, stc_fd hwt.1 hn16 (by decide), decide_eq_true hn', Bool.true_and]
    have fin : ∀ g1 r1, FR [197, 214] [] g0 g1 → g1 197 = r1 → (∀ k, (∀ m, m < nn w → k ≠ 10 + 20 * m + 5) → r1 k = w k) → WI r1 → (∀ m, m < n + 1 → fd w m 0 = 0 → fd r1 m 5 = wnO V w m) → (∀ i, i < n → g1 214 i = nI 0) → wp (ev (d + 4)) P mo_least 76 [some (.ref 196), some (.int t), some (.int k), some (.int (nI n))] [] (E g1 q) := by
      intro g1 r1 f1 k7 hr1 hrw1 ho1 k4
      rw [b_mo_least_76]
      simp -implicitDefEqProofs (disch := first | assumption | omega) only [szS_0, szS_i, szS_r, szS_l, x_cons, x_goto, ob_some, kl_i, kl_r, kl_l, kl_n, push_n, push_s, pop_0, pop_i, pop_r, Int.reduceToNat, List.length_cons, List.length_nil, Nat.reduceAdd, Nat.reduceLeDiff, Nat.zero_add, true_and, nI_n0, nat_le, Nat.add_zero, i_1, rt_mo_least, x_al0, x_call, x_getf, x_goto, x_iaload, x_iastore, x_iceq, x_icge, x_ifeq, x_ifne, x_il1, x_il2, x_il3, x_inc3, x_iret, x_is3, x_isub, x_ldc, x_m1, x_putf, fd_196_0, fd_196_1, fd_196_2, fd_196_3, fd_196_4, sf_196_4, fd_196_5, sf_196_5, fd_196_6, fd_196_7, fd_196_8, fd_196_9, fd_196_10, fd_196_11, fd_196_12, sf_196_12, fd_196_13, sf_196_13, fd_196_14, sf_196_14, fd_196_15, sf_196_15, fd_196_16, sf_196_16, fd_196_17, sf_196_17, fd_196_18, sf_196_18, fd_196_19, sf_196_19, fd_196_20, sf_196_20, fd_196_21, sf_196_21, fd_196_22, sf_196_22, fd_196_23, sf_196_23, fd_196_24, sf_196_24, fd_196_25, sf_196_25, fd_196_26, sf_196_26, fd_196_27, fd_196_28, fd_196_29, fd_196_30, sf_196_30, fd_196_31, fd_196_32, fd_196_33, fd_196_34, fd_196_35, fd_196_36, fd_196_37, sf_196_37, fd_196_38, fd_196_39, sf_196_39, fd_196_40, sf_196_40, fd_196_41, sf_196_41, fd_196_42, fd_196_43, fd_196_44, ld_214, sd_214, ln_214, pu_g, nI_add]
      refine ih (n + 1) _ r1 (by omega) (FR_w rfl f1) (by rw [upw_o (by decide)]; exact k7) hr1 hrw1 ho1 fun i hi => ?_
      rw [upw_s]
      by_cases e : i = n
      · rw [e, pu_s]
      · rw [pu_n e]
        exact k4 i (by omega)
    rw [b_mo_least_46]
    simp -implicitDefEqProofs (disch := first | assumption | omega) only [szS_0, szS_i, szS_r, szS_l, x_cons, x_goto, ob_some, kl_i, kl_r, kl_l, kl_n, push_n, push_s, pop_0, pop_i, pop_r, Int.reduceToNat, List.length_cons, List.length_nil, Nat.reduceAdd, Nat.reduceLeDiff, Nat.zero_add, true_and, nI_n0, nat_le, Nat.add_zero, i_1, rt_mo_least, x_al0, x_call, x_getf, x_goto, x_iaload, x_iastore, x_iceq, x_icge, x_ifeq, x_ifne, x_il1, x_il2, x_il3, x_inc3, x_iret, x_is3, x_isub, x_ldc, x_m1, x_putf, fd_196_0, fd_196_1, fd_196_2, fd_196_3, fd_196_4, sf_196_4, fd_196_5, sf_196_5, fd_196_6, fd_196_7, fd_196_8, fd_196_9, fd_196_10, fd_196_11, fd_196_12, sf_196_12, fd_196_13, sf_196_13, fd_196_14, sf_196_14, fd_196_15, sf_196_15, fd_196_16, sf_196_16, fd_196_17, sf_196_17, fd_196_18, sf_196_18, fd_196_19, sf_196_19, fd_196_20, sf_196_20, fd_196_21, sf_196_21, fd_196_22, sf_196_22, fd_196_23, sf_196_23, fd_196_24, sf_196_24, fd_196_25, sf_196_25, fd_196_26, sf_196_26, fd_196_27, fd_196_28, fd_196_29, fd_196_30, sf_196_30, fd_196_31, fd_196_32, fd_196_33, fd_196_34, fd_196_35, fd_196_36, fd_196_37, sf_196_37, fd_196_38, fd_196_39, sf_196_39, fd_196_40, sf_196_40, fd_196_41, sf_196_41, fd_196_42, fd_196_43, fd_196_44, ld_197, sd_197, ln_197, e0, nI_ltE, hn', ↓reduceIte]
    rw [s_isFork (by rw [h7]; exact hrw), eF]
    simp -implicitDefEqProofs (disch := first | assumption | omega) only [szS_0, szS_i, szS_r, szS_l, x_cons, x_goto, ob_some, kl_i, kl_r, kl_l, kl_n, push_n, push_s, pop_0, pop_i, pop_r, Int.reduceToNat, List.length_cons, List.length_nil, Nat.reduceAdd, Nat.reduceLeDiff, Nat.zero_add, true_and, nI_n0, nat_le, Nat.add_zero, i_1, rt_mo_least, x_al0, x_call, x_getf, x_goto, x_iaload, x_iastore, x_iceq, x_icge, x_ifeq, x_ifne, x_il1, x_il2, x_il3, x_inc3, x_iret, x_is3, x_isub, x_ldc, x_m1, x_putf, bI_0]
    by_cases h0 : fd w n 0 = 0
    · have e12 : g 212 n = nI (wnO V w n) := by rw [FR_a hg (a := 212) rfl]; exact h12 n hn' h0
      have hwo := wnO_o (V := V) hw n hn' h0
      rw [decide_eq_true h0]
      simp -implicitDefEqProofs (disch := first | assumption | omega) only [Bool.true_eq_false, ↓reduceIte, szS_0, szS_i, szS_r, szS_l, x_cons, x_goto, ob_some, kl_i, kl_r, kl_l, kl_n, push_n, push_s, pop_0, pop_i, pop_r, Int.reduceToNat, List.length_cons, List.length_nil, Nat.reduceAdd, Nat.reduceLeDiff, Nat.zero_add, true_and, nI_n0, nat_le, Nat.add_zero, i_1, rt_mo_least, x_al0, x_call, x_getf, x_goto, x_iaload, x_iastore, x_iceq, x_icge, x_ifeq, x_ifne, x_il1, x_il2, x_il3, x_inc3, x_iret, x_is3, x_isub, x_ldc, x_m1, x_putf, fd_196_0, fd_196_1, fd_196_2, fd_196_3, fd_196_4, sf_196_4, fd_196_5, sf_196_5, fd_196_6, fd_196_7, fd_196_8, fd_196_9, fd_196_10, fd_196_11, fd_196_12, sf_196_12, fd_196_13, sf_196_13, fd_196_14, sf_196_14, fd_196_15, sf_196_15, fd_196_16, sf_196_16, fd_196_17, sf_196_17, fd_196_18, sf_196_18, fd_196_19, sf_196_19, fd_196_20, sf_196_20, fd_196_21, sf_196_21, fd_196_22, sf_196_22, fd_196_23, sf_196_23, fd_196_24, sf_196_24, fd_196_25, sf_196_25, fd_196_26, sf_196_26, fd_196_27, fd_196_28, fd_196_29, fd_196_30, sf_196_30, fd_196_31, fd_196_32, fd_196_33, fd_196_34, fd_196_35, fd_196_36, fd_196_37, sf_196_37, fd_196_38, fd_196_39, sf_196_39, fd_196_40, sf_196_40, fd_196_41, sf_196_41, fd_196_42, fd_196_43, fd_196_44, ld_212, sd_212, ln_212, e12, s_gives, pu_g, h7]
      refine fin _ _ (FR_w rfl hg) upw_s (fun k hk => by rw [pu_n (hk n hn')]; exact hr k hk) (WI_5 hrw (by rw [hnr]; exact hn') (by rw [stc_fd hwt.1 hn16 (by decide)]; exact h0) hwo.1 (by rw [stc_am hwt.1 hn16]; exact hwo.2)) (fun m hm hms => ?_) fun i hi => by rw [upw_o (by decide)]; exact h4 i hi
      by_cases e : m = n
      · rw [e, fd_pu_s (by have := am_le hw hn16; have hp : (2 : Nat) ^ am w n ≤ 2 ^ 3 := Nat.pow_le_pow_right (by decide) this; omega)]
      · rw [fd_pu_n (by omega)]
        exact ho m (by omega) hms
    · rw [decide_eq_false h0]
      simp -implicitDefEqProofs (disch := first | assumption | omega) only [↓reduceIte, szS_0, szS_i, szS_r, szS_l, x_cons, x_goto, ob_some, kl_i, kl_r, kl_l, kl_n, push_n, push_s, pop_0, pop_i, pop_r, Int.reduceToNat, List.length_cons, List.length_nil, Nat.reduceAdd, Nat.reduceLeDiff, Nat.zero_add, true_and, nI_n0, nat_le, Nat.add_zero, i_1, rt_mo_least, x_al0, x_call, x_getf, x_goto, x_iaload, x_iastore, x_iceq, x_icge, x_ifeq, x_ifne, x_il1, x_il2, x_il3, x_inc3, x_iret, x_is3, x_isub, x_ldc, x_m1, x_putf]
      refine fin g r hg h7 hr hrw (fun m hm hms => ?_) h4
      by_cases e : m = n
      · rw [e] at hms
        exact absurd hms h0
      · exact ho m (by omega) hms
theorem s_mleast (hw : WI (g 197)) {V : LW} (hL : LK (g 197) 0 okV V) {t k : Int32} (H : ∀ g', FR [200, 208, 197, 205, 206, 207, 209, 212, 213, 214, 215, 216] [30, 37] g g' → g' 197 = g 197 → P (some (.int (lsA V (g 197) t k))) (E g' q)) : callC (ev (d + 25)) mo_least [.ref 196, .int t, .int k] (E g q) P := by
  refine in_mo_least rfl ?_
  have hN := wi_n hw
  unfold lsA at H
  have no : lsB (g 197) t k = false → wp (ev (d + 24)) P mo_least 34 [some (.ref 196), some (.int t), some (.int k), none] [] (E g q) := by
    intro h
    rw [h, if_neg Bool.false_ne_true] at H
    rw [b_mo_least_34]
    simp -implicitDefEqProofs (disch := first | assumption | omega) only [szS_0, szS_i, szS_r, szS_l, x_cons, x_goto, ob_some, kl_i, kl_r, kl_l, kl_n, push_n, push_s, pop_0, pop_i, pop_r, Int.reduceToNat, List.length_cons, List.length_nil, Nat.reduceAdd, Nat.reduceLeDiff, Nat.zero_add, true_and, nI_n0, nat_le, Nat.add_zero, i_1, rt_mo_least, x_al0, x_call, x_getf, x_goto, x_iaload, x_iastore, x_iceq, x_icge, x_ifeq, x_ifne, x_il1, x_il2, x_il3, x_inc3, x_iret, x_is3, x_isub, x_ldc, x_m1, x_putf]
    exact H g FR_r rfl
  have yes : lsB (g 197) t k = true → wp (ev (d + 24)) P mo_least 36 [some (.ref 196), some (.int t), some (.int k), none] [] (E g q) := by
    intro h
    rw [h, if_pos rfl] at H
    unfold lsB at h
    rw [Bool.and_eq_true] at h
    obtain ⟨w, hwe⟩ : ∃ w, w = g 197 := ⟨_, rfl⟩
    rw [← hwe] at hw hL h H hN
    obtain ⟨t, ht, rfl, hts⟩ := townB_ex hw h.1
    rw [ix_nI (by omega)] at H
    rw [b_mo_least_36]
    simp -implicitDefEqProofs (disch := first | assumption | omega) only [szS_0, szS_i, szS_r, szS_l, x_cons, x_goto, ob_some, kl_i, kl_r, kl_l, kl_n, push_n, push_s, pop_0, pop_i, pop_r, Int.reduceToNat, List.length_cons, List.length_nil, Nat.reduceAdd, Nat.reduceLeDiff, Nat.zero_add, true_and, nI_n0, nat_le, Nat.add_zero, i_1, rt_mo_least, x_al0, x_call, x_getf, x_goto, x_iaload, x_iastore, x_iceq, x_icge, x_ifeq, x_ifne, x_il1, x_il2, x_il3, x_inc3, x_iret, x_is3, x_isub, x_ldc, x_m1, x_putf]
    refine s_laysWinners (d := d + 15) hw hL hwe.symm fun g1 f1 D1 => ?_
    have k1 : g1 197 = w := by rw [FR_a f1 rfl, hwe]
    simp -implicitDefEqProofs (disch := first | assumption | omega) only [szS_0, szS_i, szS_r, szS_l, x_cons, x_goto, ob_some, kl_i, kl_r, kl_l, kl_n, push_n, push_s, pop_0, pop_i, pop_r, Int.reduceToNat, List.length_cons, List.length_nil, Nat.reduceAdd, Nat.reduceLeDiff, Nat.zero_add, true_and, nI_n0, nat_le, Nat.add_zero, i_1, rt_mo_least, x_al0, x_call, x_getf, x_goto, x_iaload, x_iastore, x_iceq, x_icge, x_ifeq, x_ifne, x_il1, x_il2, x_il3, x_inc3, x_iret, x_is3, x_isub, x_ldc, x_m1, x_putf]
    refine s_keepsOpens (d := d + 22) (by rw [k1]; exact hw) fun r2 hr2 => ?_
    rw [k1] at hr2
    simp -implicitDefEqProofs (disch := first | assumption | omega) only [szS_0, szS_i, szS_r, szS_l, x_cons, x_goto, ob_some, kl_i, kl_r, kl_l, kl_n, push_n, push_s, pop_0, pop_i, pop_r, Int.reduceToNat, List.length_cons, List.length_nil, Nat.reduceAdd, Nat.reduceLeDiff, Nat.zero_add, true_and, nI_n0, nat_le, Nat.add_zero, i_1, rt_mo_least, x_al0, x_call, x_getf, x_goto, x_iaload, x_iastore, x_iceq, x_icge, x_ifeq, x_ifne, x_il1, x_il2, x_il3, x_inc3, x_iret, x_is3, x_isub, x_ldc, x_m1, x_putf]
    refine le_lp (d := d + 20) (V := V) hw (fun m hm hms => by rw [upw_o (by decide)]; exact (D1 m hm hm hms).1) (fun g3 f3 o3 z3 => ?_) (nn w) 0 _ w (Nat.zero_add _) FR_r (by rw [upw_o (by decide)]; exact k1) (fun _ _ => rfl) hw (fun m hm => absurd hm (Nat.not_lt_zero m)) fun m hm => absurd hm (Nat.not_lt_zero m)
    rw [b_mo_least_89]
    simp -implicitDefEqProofs (disch := first | assumption | omega) only [szS_0, szS_i, szS_r, szS_l, x_cons, x_goto, ob_some, kl_i, kl_r, kl_l, kl_n, push_n, push_s, pop_0, pop_i, pop_r, Int.reduceToNat, List.length_cons, List.length_nil, Nat.reduceAdd, Nat.reduceLeDiff, Nat.zero_add, true_and, nI_n0, nat_le, Nat.add_zero, i_1, rt_mo_least, x_al0, x_call, x_getf, x_goto, x_iaload, x_iastore, x_iceq, x_icge, x_ifeq, x_ifne, x_il1, x_il2, x_il3, x_inc3, x_iret, x_is3, x_isub, x_ldc, x_m1, x_putf, fd_196_0, fd_196_1, fd_196_2, fd_196_3, fd_196_4, sf_196_4, fd_196_5, sf_196_5, fd_196_6, fd_196_7, fd_196_8, fd_196_9, fd_196_10, fd_196_11, fd_196_12, sf_196_12, fd_196_13, sf_196_13, fd_196_14, sf_196_14, fd_196_15, sf_196_15, fd_196_16, sf_196_16, fd_196_17, sf_196_17, fd_196_18, sf_196_18, fd_196_19, sf_196_19, fd_196_20, sf_196_20, fd_196_21, sf_196_21, fd_196_22, sf_196_22, fd_196_23, sf_196_23, fd_196_24, sf_196_24, fd_196_25, sf_196_25, fd_196_26, sf_196_26, fd_196_27, fd_196_28, fd_196_29, fd_196_30, sf_196_30, fd_196_31, fd_196_32, fd_196_33, fd_196_34, fd_196_35, fd_196_36, fd_196_37, sf_196_37, fd_196_38, fd_196_39, sf_196_39, fd_196_40, sf_196_40, fd_196_41, sf_196_41, fd_196_42, fd_196_43, fd_196_44, pu_g]
    refine s_ways (d := d) (V := V) hw ht hts 17 0 0 (wnO V w) (fun _ => 0) none (g3 197) _ _ (by omega) (by omega) (Nat.le_refl _) (fun _ _ => rfl) ⟨by rw [upw_o (by decide)], o3, fun i hi => by rw [upw_o (by decide)]; exact z3 i hi, fun f a hf hfs hfa => ?_, ?_⟩ fun g4 f4 F4 => ?_
    · rw [upw_o (by decide), FR_a f3 (a := 213) rfl, upw_o (by decide)]
      exact (D1 f hf hf hfs).2 a hfa
    · show upw _ 196 _ 196 37 = -1
      rw [upw_s, pu_s]
    · obtain ⟨q7, -, -, -, qs⟩ := F4
      have qs : stM w g4 (lsE V w t) := qs
      have e16 : ∀ k, k < nn w → g4 216 k = w (10 + 20 * k + 5) := fun k hk => by
        rw [FR_a f4 (a := 216) rfl, upw_o (by decide), FR_a f3 (a := 216) rfl, upw_s]
        exact hr2 k hk
      simp -implicitDefEqProofs (disch := first | assumption | omega) only [szS_0, szS_i, szS_r, szS_l, x_cons, x_goto, ob_some, kl_i, kl_r, kl_l, kl_n, push_n, push_s, pop_0, pop_i, pop_r, Int.reduceToNat, List.length_cons, List.length_nil, Nat.reduceAdd, Nat.reduceLeDiff, Nat.zero_add, true_and, nI_n0, nat_le, Nat.add_zero, i_1, rt_mo_least, x_al0, x_call, x_getf, x_goto, x_iaload, x_iastore, x_iceq, x_icge, x_ifeq, x_ifne, x_il1, x_il2, x_il3, x_inc3, x_iret, x_is3, x_isub, x_ldc, x_m1, x_putf]
      rw [s_putsOpens (d := d + 22) (w := w) hw e16 fun k hk => by rw [q7]; exact o3.1 k hk]
      have fr : FR [200, 208, 197, 205, 206, 207, 209, 212, 213, 214, 215, 216] [30, 37] g (upw g4 197 w) := by
        have a1 : FR [200, 208, 197, 205, 206, 207, 209, 212, 213, 214, 215, 216] [30, 37] g g1 := FR_m rfl rfl f1
        have a2 : FR [200, 208, 197, 205, 206, 207, 209, 212, 213, 214, 215, 216] [30, 37] g g3 := FR_t (FR_w rfl a1) (FR_m rfl rfl f3)
        exact FR_w rfl (FR_t (FR_p rfl a2 a2) (FR_m rfl rfl f4))
      have H := H _ fr (by rw [upw_s])
      cases hE : lsE V w t with
      | none =>
        rw [hE] at H qs
        have e7 : g4 196 37 = -1 := qs
        simp -implicitDefEqProofs (disch := first | assumption | omega) only [szS_0, szS_i, szS_r, szS_l, x_cons, x_goto, ob_some, kl_i, kl_r, kl_l, kl_n, push_n, push_s, pop_0, pop_i, pop_r, Int.reduceToNat, List.length_cons, List.length_nil, Nat.reduceAdd, Nat.reduceLeDiff, Nat.zero_add, true_and, nI_n0, nat_le, Nat.add_zero, i_1, rt_mo_least, x_al0, x_call, x_getf, x_goto, x_iaload, x_iastore, x_iceq, x_icge, x_ifeq, x_ifne, x_il1, x_il2, x_il3, x_inc3, x_iret, x_is3, x_isub, x_ldc, x_m1, x_putf, fd_196_0, fd_196_1, fd_196_2, fd_196_3, fd_196_4, sf_196_4, fd_196_5, sf_196_5, fd_196_6, fd_196_7, fd_196_8, fd_196_9, fd_196_10, fd_196_11, fd_196_12, sf_196_12, fd_196_13, sf_196_13, fd_196_14, sf_196_14, fd_196_15, sf_196_15, fd_196_16, sf_196_16, fd_196_17, sf_196_17, fd_196_18, sf_196_18, fd_196_19, sf_196_19, fd_196_20, sf_196_20, fd_196_21, sf_196_21, fd_196_22, sf_196_22, fd_196_23, sf_196_23, fd_196_24, sf_196_24, fd_196_25, sf_196_25, fd_196_26, sf_196_26, fd_196_27, fd_196_28, fd_196_29, fd_196_30, sf_196_30, fd_196_31, fd_196_32, fd_196_33, fd_196_34, fd_196_35, fd_196_36, fd_196_37, sf_196_37, fd_196_38, fd_196_39, sf_196_39, fd_196_40, sf_196_40, fd_196_41, sf_196_41, fd_196_42, fd_196_43, fd_196_44, upw_o, e7, ↓reduceIte, b_mo_least_117, b_mo_least_133]
        exact H
      | some p =>
        rw [hE] at H qs
        obtain ⟨e7, hpl, h15⟩ := qs
        have n1 : (nI p.1 = -1) = False := nI_m1 (by omega)
        simp -implicitDefEqProofs (disch := first | assumption | omega) only [szS_0, szS_i, szS_r, szS_l, x_cons, x_goto, ob_some, kl_i, kl_r, kl_l, kl_n, push_n, push_s, pop_0, pop_i, pop_r, Int.reduceToNat, List.length_cons, List.length_nil, Nat.reduceAdd, Nat.reduceLeDiff, Nat.zero_add, true_and, nI_n0, nat_le, Nat.add_zero, i_1, rt_mo_least, x_al0, x_call, x_getf, x_goto, x_iaload, x_iastore, x_iceq, x_icge, x_ifeq, x_ifne, x_il1, x_il2, x_il3, x_inc3, x_iret, x_is3, x_isub, x_ldc, x_m1, x_putf, fd_196_0, fd_196_1, fd_196_2, fd_196_3, fd_196_4, sf_196_4, fd_196_5, sf_196_5, fd_196_6, fd_196_7, fd_196_8, fd_196_9, fd_196_10, fd_196_11, fd_196_12, sf_196_12, fd_196_13, sf_196_13, fd_196_14, sf_196_14, fd_196_15, sf_196_15, fd_196_16, sf_196_16, fd_196_17, sf_196_17, fd_196_18, sf_196_18, fd_196_19, sf_196_19, fd_196_20, sf_196_20, fd_196_21, sf_196_21, fd_196_22, sf_196_22, fd_196_23, sf_196_23, fd_196_24, sf_196_24, fd_196_25, sf_196_25, fd_196_26, sf_196_26, fd_196_27, fd_196_28, fd_196_29, fd_196_30, sf_196_30, fd_196_31, fd_196_32, fd_196_33, fd_196_34, fd_196_35, fd_196_36, fd_196_37, sf_196_37, fd_196_38, fd_196_39, sf_196_39, fd_196_40, sf_196_40, fd_196_41, sf_196_41, fd_196_42, fd_196_43, fd_196_44, upw_o, e7, n1, ↓reduceIte]
        have H : P (some (.int (if k = nI 0 then nI p.1 else nI (p.2 (ix k - 10))))) (E (upw g4 197 w) q) := H
        by_cases k0 : k = nI 0
        · rw [if_pos k0] at H
          simp -implicitDefEqProofs (disch := first | assumption | omega) only [k0, ↓reduceIte, b_mo_least_117, b_mo_least_133, szS_0, szS_i, szS_r, szS_l, x_cons, x_goto, ob_some, kl_i, kl_r, kl_l, kl_n, push_n, push_s, pop_0, pop_i, pop_r, Int.reduceToNat, List.length_cons, List.length_nil, Nat.reduceAdd, Nat.reduceLeDiff, Nat.zero_add, true_and, nI_n0, nat_le, Nat.add_zero, i_1, rt_mo_least, x_al0, x_call, x_getf, x_goto, x_iaload, x_iastore, x_iceq, x_icge, x_ifeq, x_ifne, x_il1, x_il2, x_il3, x_inc3, x_iret, x_is3, x_isub, x_ldc, x_m1, x_putf, fd_196_0, fd_196_1, fd_196_2, fd_196_3, fd_196_4, sf_196_4, fd_196_5, sf_196_5, fd_196_6, fd_196_7, fd_196_8, fd_196_9, fd_196_10, fd_196_11, fd_196_12, sf_196_12, fd_196_13, sf_196_13, fd_196_14, sf_196_14, fd_196_15, sf_196_15, fd_196_16, sf_196_16, fd_196_17, sf_196_17, fd_196_18, sf_196_18, fd_196_19, sf_196_19, fd_196_20, sf_196_20, fd_196_21, sf_196_21, fd_196_22, sf_196_22, fd_196_23, sf_196_23, fd_196_24, sf_196_24, fd_196_25, sf_196_25, fd_196_26, sf_196_26, fd_196_27, fd_196_28, fd_196_29, fd_196_30, sf_196_30, fd_196_31, fd_196_32, fd_196_33, fd_196_34, fd_196_35, fd_196_36, fd_196_37, sf_196_37, fd_196_38, fd_196_39, sf_196_39, fd_196_40, sf_196_40, fd_196_41, sf_196_41, fd_196_42, fd_196_43, fd_196_44, upw_o, e7]
          exact H
        · rw [if_neg k0] at H
          obtain ⟨f, hf, hfs, rfl⟩ := askB_ex hw h.2 k0
          rw [ix_nI (by omega), Nat.add_sub_cancel_left] at H
          have e9 := h15 f hf
          simp -implicitDefEqProofs (disch := first | assumption | omega) only [k0, ↓reduceIte, b_mo_least_124, b_mo_least_133, szS_0, szS_i, szS_r, szS_l, x_cons, x_goto, ob_some, kl_i, kl_r, kl_l, kl_n, push_n, push_s, pop_0, pop_i, pop_r, Int.reduceToNat, List.length_cons, List.length_nil, Nat.reduceAdd, Nat.reduceLeDiff, Nat.zero_add, true_and, nI_n0, nat_le, Nat.add_zero, i_1, rt_mo_least, x_al0, x_call, x_getf, x_goto, x_iaload, x_iastore, x_iceq, x_icge, x_ifeq, x_ifne, x_il1, x_il2, x_il3, x_inc3, x_iret, x_is3, x_isub, x_ldc, x_m1, x_putf, fd_196_0, fd_196_1, fd_196_2, fd_196_3, fd_196_4, sf_196_4, fd_196_5, sf_196_5, fd_196_6, fd_196_7, fd_196_8, fd_196_9, fd_196_10, fd_196_11, fd_196_12, sf_196_12, fd_196_13, sf_196_13, fd_196_14, sf_196_14, fd_196_15, sf_196_15, fd_196_16, sf_196_16, fd_196_17, sf_196_17, fd_196_18, sf_196_18, fd_196_19, sf_196_19, fd_196_20, sf_196_20, fd_196_21, sf_196_21, fd_196_22, sf_196_22, fd_196_23, sf_196_23, fd_196_24, sf_196_24, fd_196_25, sf_196_25, fd_196_26, sf_196_26, fd_196_27, fd_196_28, fd_196_29, fd_196_30, sf_196_30, fd_196_31, fd_196_32, fd_196_33, fd_196_34, fd_196_35, fd_196_36, fd_196_37, sf_196_37, fd_196_38, fd_196_39, sf_196_39, fd_196_40, sf_196_40, fd_196_41, sf_196_41, fd_196_42, fd_196_43, fd_196_44, ld_215, sd_215, ln_215, upw_o, nI_sub, Nat.add_sub_cancel_left, e9]
          exact H
  rw [b_mo_least_0]
  simp -implicitDefEqProofs (disch := first | assumption | omega) only [szS_0, szS_i, szS_r, szS_l, x_cons, x_goto, ob_some, kl_i, kl_r, kl_l, kl_n, push_n, push_s, pop_0, pop_i, pop_r, Int.reduceToNat, List.length_cons, List.length_nil, Nat.reduceAdd, Nat.reduceLeDiff, Nat.zero_add, true_and, nI_n0, nat_le, Nat.add_zero, i_1, rt_mo_least, x_al0, x_call, x_getf, x_goto, x_iaload, x_iastore, x_iceq, x_icge, x_ifeq, x_ifne, x_il1, x_il2, x_il3, x_inc3, x_iret, x_is3, x_isub, x_ldc, x_m1, x_putf]
  rw [s_isTown hw]
  simp -implicitDefEqProofs (disch := first | assumption | omega) only [szS_0, szS_i, szS_r, szS_l, x_cons, x_goto, ob_some, kl_i, kl_r, kl_l, kl_n, push_n, push_s, pop_0, pop_i, pop_r, Int.reduceToNat, List.length_cons, List.length_nil, Nat.reduceAdd, Nat.reduceLeDiff, Nat.zero_add, true_and, nI_n0, nat_le, Nat.add_zero, i_1, rt_mo_least, x_al0, x_call, x_getf, x_goto, x_iaload, x_iastore, x_iceq, x_icge, x_ifeq, x_ifne, x_il1, x_il2, x_il3, x_inc3, x_iret, x_is3, x_isub, x_ldc, x_m1, x_putf, bI_0]
  cases h1 : townB (g 197) t
  · simp -implicitDefEqProofs (disch := first | assumption | omega) only [↓reduceIte]
    exact no (by unfold lsB; rw [h1, Bool.false_and])
  · simp -implicitDefEqProofs (disch := first | assumption | omega) only [Bool.true_eq_false, ↓reduceIte, szS_0, szS_i, szS_r, szS_l, x_cons, x_goto, ob_some, kl_i, kl_r, kl_l, kl_n, push_n, push_s, pop_0, pop_i, pop_r, Int.reduceToNat, List.length_cons, List.length_nil, Nat.reduceAdd, Nat.reduceLeDiff, Nat.zero_add, true_and, nI_n0, nat_le, Nat.add_zero, i_1, rt_mo_least, x_al0, x_call, x_getf, x_goto, x_iaload, x_iastore, x_iceq, x_icge, x_ifeq, x_ifne, x_il1, x_il2, x_il3, x_inc3, x_iret, x_is3, x_isub, x_ldc, x_m1, x_putf]
    by_cases k0 : k = nI 0
    · rw [if_pos k0]
      exact yes (by unfold lsB askB; rw [h1, decide_eq_true k0, Bool.true_or]; rfl)
    · rw [if_neg k0]
      have eB : askB (g 197) k = (decide (nI 10 ≤ k) && forkB (g 197) (k - nI 10)) := by
        unfold askB
        rw [decide_eq_false k0, Bool.false_or]
      try simp -implicitDefEqProofs (disch := first | assumption | omega) only [szS_0, szS_i, szS_r, szS_l, x_cons, x_goto, ob_some, kl_i, kl_r, kl_l, kl_n, push_n, push_s, pop_0, pop_i, pop_r, Int.reduceToNat, List.length_cons, List.length_nil, Nat.reduceAdd, Nat.reduceLeDiff, Nat.zero_add, true_and, nI_n0, nat_le, Nat.add_zero, i_1, rt_mo_least, x_al0, x_call, x_getf, x_goto, x_iaload, x_iastore, x_iceq, x_icge, x_ifeq, x_ifne, x_il1, x_il2, x_il3, x_inc3, x_iret, x_is3, x_isub, x_ldc, x_m1, x_putf, s_isIn, bI_0]
      by_cases h2 : nI 10 ≤ k ∧ k ≤ nI 25
      · simp only [decide_eq_true h2, Bool.true_eq_false, ↓reduceIte]
        try simp -implicitDefEqProofs (disch := first | assumption | omega) only [szS_0, szS_i, szS_r, szS_l, x_cons, x_goto, ob_some, kl_i, kl_r, kl_l, kl_n, push_n, push_s, pop_0, pop_i, pop_r, Int.reduceToNat, List.length_cons, List.length_nil, Nat.reduceAdd, Nat.reduceLeDiff, Nat.zero_add, true_and, nI_n0, nat_le, Nat.add_zero, i_1, rt_mo_least, x_al0, x_call, x_getf, x_goto, x_iaload, x_iastore, x_iceq, x_icge, x_ifeq, x_ifne, x_il1, x_il2, x_il3, x_inc3, x_iret, x_is3, x_isub, x_ldc, x_m1, x_putf]
        rw [s_isFork hw]
        simp -implicitDefEqProofs (disch := first | assumption | omega) only [szS_0, szS_i, szS_r, szS_l, x_cons, x_goto, ob_some, kl_i, kl_r, kl_l, kl_n, push_n, push_s, pop_0, pop_i, pop_r, Int.reduceToNat, List.length_cons, List.length_nil, Nat.reduceAdd, Nat.reduceLeDiff, Nat.zero_add, true_and, nI_n0, nat_le, Nat.add_zero, i_1, rt_mo_least, x_al0, x_call, x_getf, x_goto, x_iaload, x_iastore, x_iceq, x_icge, x_ifeq, x_ifne, x_il1, x_il2, x_il3, x_inc3, x_iret, x_is3, x_isub, x_ldc, x_m1, x_putf, bI_0]
        cases h3 : forkB (g 197) (k - nI 10)
        · simp -implicitDefEqProofs (disch := first | assumption | omega) only [↓reduceIte]
          exact no (by unfold lsB; rw [eB, h3, Bool.and_false, Bool.and_false])
        · simp -implicitDefEqProofs (disch := first | assumption | omega) only [Bool.true_eq_false, ↓reduceIte]
          exact yes (by unfold lsB; rw [eB, h3, h1, decide_eq_true h2.1]; rfl)
      · simp only [decide_eq_false h2, ↓reduceIte]
        refine no ?_
        have : askB (g 197) k = false := by
          cases h3 : askB (g 197) k
          · rfl
          · obtain ⟨f, hf, -, rfl⟩ := askB_ex hw h3 k0
            exact absurd ⟨by rw [nI_leE (by decide) (by omega)]; omega, by rw [nI_leE (by omega) (by decide)]; omega⟩ h2
        unfold lsB
        rw [this, Bool.and_false]
end MLE
theorem k_least {d L B : Nat} {xs : Nat → Int32} {g : Nat → Nat → Int32} {q : Nat → Nat → Int64} (hW : World B g) (hE : Env L xs g) {t k : Int32} : two (d + 25) L xs B vr_least mo_least [.ref 0, .int t, .int k] [.ref 196, .int t, .int k] g q := by
  refine k_pure hW hE fun w V M pl im R h => ⟨lsA V w t k, fun P hP => s_vleast (d := d + 1) h.1.1.1 h.2.1.1.1 h.2.1.1.2.2 fun g' f => hP g' q f, fun g1 q1 P h1 hP => ?_⟩
  have e : g1 197 = w := h1.2.2.1.1
  refine s_mleast (V := V) (by rw [e]; exact h.1.1.1) (by rw [e]; exact h.1.1.2.1) fun g2 f2 e2 => ?_
  rw [e]
  exact hP g2 q1 (FR_M f2 rfl) (Mc_FR h1.2.2 f2 e2 rfl rfl)
