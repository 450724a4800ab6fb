/-! the reference's calls in thought -/
theorem addm1 {x : Int32} : x + -1 = x - nI 1 := by
  rw [Int32.sub_eq_add_neg]
  rfl
def eN (e : Nat) : Int32 := if e = 999 then -1 else nI e
theorem eN_1 {b : Nat} (h : b < 2147483648) : (eN b = -1) = (b = 999) := by
  unfold eN
  by_cases e : b = 999
  · rw [if_pos e]
    exact propext ⟨fun _ => e, fun _ => rfl⟩
  · rw [if_neg e, nI_m1 h]
    exact (eq_false e).symm
theorem eN_n {b : Nat} (h : b ≠ 999) : eN b = nI b := if_neg h
/-- later's answer -/
def latB (w : Nat → Int32) (n t k : Int32) : Bool := decide (nI 0 ≤ n ∧ n ≤ nI 100) && (townB w t && decide (nI 0 ≤ k ∧ k ≤ nI 7))
def latA (V M : LW) (w : Nat → Int32) (n t k : Int32) : Int32 := if latB w n t k = true then thN V M (ix n) (th0 w) (10 + 20 * ix t + tfd (ix k)) else -1
/-- thirst: j more days, n are gone -/
def thr (V M : LW) (t : Nat) : Nat → Nat → (Nat → Int32) → Int32
  | 0, _, _ => -1
  | j + 1, n, w => if fd (dyR V M (vN w 6) w) t 17 = 1 then thr V M t j (n + 1) (dyR V M (vN w 6) w) else nI (n + 1)
def thrA (V M : LW) (w : Nat → Int32) (t : Int32) : Int32 := if townB w t = true then thr V M (ix t) 100 0 (th0 w) else -1
/-- the first day, from the next on, that is as an earlier one -/
def enF (W : Nat → Nat → Int32) : Nat → Nat → Nat × Nat
  | 0, day => (999, day)
  | j + 1, day => if fst (fun e => alk (W e) (W (day + 1))) (day + 1) 0 = 999 then enF W j (day + 1) else (fst (fun e => alk (W e) (W (day + 1))) (day + 1) 0, day + 1)
def endA (V M : LW) (w : Nat → Int32) (k : Int32) : Int32 :=
  if decide (nI 0 ≤ k ∧ k ≤ nI 1) = true then
    if (enF (fun n => thN V M n (th0 w)) 200 0).1 = 999 then -1 else if k = nI 0 then nI (enF (fun n => thN V M n (th0 w)) 200 0).1 else nI ((enF (fun n => thN V M n (th0 w)) 200 0).2 - (enF (fun n => thN V M n (th0 w)) 200 0).1)
  else -1
theorem int_is {x : Int32} {n : Nat} (h : nI 0 ≤ x ∧ x ≤ nI n) (hn : n < 2147483647) : ∃ k, k ≤ n ∧ x = nI k := by
  obtain ⟨k, h1, h2⟩ := nI_is (n := n + 1) h.1 (by
    have h3 := h.2
    rw [leE, nI_I (by omega)] at h3
    rw [ltE, nI_I (by omega)]
    omega) (by omega)
  exact ⟨k, by omega, h2⟩
theorem thI_0 {V M : LW} {w0 w : Nat → Int32} (h : thI V M w0 w) : w 6 = nI (vN w 6) ∧ vN w 6 ≤ 1998 := by
  have h6 := wi_6 h.1
  exact ⟨h6.1, by omega⟩
section MO
variable {d : Nat} {g : Nat → Nat → Int32} {q : Nat → Nat → Int64} {P : QT}
theorem lt_lp {V M : LW} {w0 wE : Nat → Int32} {N : Nat} (hN : N < 2147483648) {v2 v3 : Int32} {g0 : Nat → Nat → Int32} (H : ∀ g', FR [205, 206, 207, 208, 209, 197] [30] g0 g' → g' 197 = wE → wp (ev (d + 10)) P mo_later 61 [some (.ref 196), some (.int (nI N)), some (.int v2), some (.int v3), some (.int (nI N))] [] (E g' q)) :
    ∀ (j i : Nat) (g : Nat → Nat → Int32), i + j = N → thN V M j (g 197) = wE → thI V M w0 (g 197) → FR [205, 206, 207, 208, 209, 197] [30] g0 g →
    wp (ev (d + 10)) P mo_later 37 [some (.ref 196), some (.int (nI N)), some (.int v2), some (.int v3), some (.int (nI i))] [] (E g q) := by
  intro j
  induction j with
  | zero =>
    intro i g hi hE hI hr
    have hi : i = N := hi
    subst hi
    rw [b_mo_later_37]
    simp -implicitDefEqProofs (disch := first | assumption | omega) only [szS_0, szS_i, szS_r, szS_l, x_cons, x_goto, ob_some, kl_i, kl_r, kl_l, kl_n, push_n, push_s, pop_0, pop_i, pop_r, Int.reduceToNat, List.length_cons, List.length_nil, Nat.reduceAdd, Nat.reduceLeDiff, Nat.zero_add, true_and, nI_n0, nat_le, Nat.add_zero, i_1, rt_mo_later, x_al0, x_call, x_getf, x_goto, x_iaload, x_icge, x_ifeq, x_ifne, x_il1, x_il2, x_il3, x_il4, x_inc4, x_iret, x_is4, x_ldc, x_m1, x_popi, nI_ltE, Nat.lt_irrefl, ↓reduceIte]
    exact H g hr hE
  | succ j ih =>
    intro i g hi hE hI hr
    have hi' : i < N := by omega
    have h6 := thI_0 hI
    rw [b_mo_later_37]
    simp -implicitDefEqProofs (disch := first | assumption | omega) only [szS_0, szS_i, szS_r, szS_l, x_cons, x_goto, ob_some, kl_i, kl_r, kl_l, kl_n, push_n, push_s, pop_0, pop_i, pop_r, Int.reduceToNat, List.length_cons, List.length_nil, Nat.reduceAdd, Nat.reduceLeDiff, Nat.zero_add, true_and, nI_n0, nat_le, Nat.add_zero, i_1, rt_mo_later, x_al0, x_call, x_getf, x_goto, x_iaload, x_icge, x_ifeq, x_ifne, x_il1, x_il2, x_il3, x_il4, x_inc4, x_iret, x_is4, x_ldc, x_m1, x_popi, nI_ltE, hi', ↓reduceIte, fd_196_0, fd_196_1, fd_196_2, fd_196_3, fd_196_4, sf_196_4, fd_196_5, sf_196_5, fd_196_6, fd_196_7, fd_196_8, fd_196_9, fd_196_10, fd_196_11, fd_196_12, sf_196_12, fd_196_13, sf_196_13, fd_196_14, sf_196_14, fd_196_15, sf_196_15, fd_196_16, sf_196_16, fd_196_17, sf_196_17, fd_196_18, sf_196_18, fd_196_19, sf_196_19, fd_196_20, sf_196_20, fd_196_21, sf_196_21, fd_196_22, sf_196_22, fd_196_23, sf_196_23, fd_196_24, sf_196_24, fd_196_25, sf_196_25, fd_196_26, sf_196_26, fd_196_27, fd_196_28, fd_196_29, fd_196_30, sf_196_30, fd_196_31, fd_196_32, fd_196_33, fd_196_34, fd_196_35, fd_196_36, fd_196_37, sf_196_37, fd_196_38, fd_196_39, sf_196_39, fd_196_40, sf_196_40, fd_196_41, sf_196_41, fd_196_42, fd_196_43, fd_196_44, ld_197, sd_197, ln_197, h6.1]
    refine s_aDay hI.1 hI.2.1 hI.2.2.1 h6.2 fun g1 f1 e1 => ?_
    simp -implicitDefEqProofs (disch := first | assumption | omega) only [szS_0, szS_i, szS_r, szS_l, x_cons, x_goto, ob_some, kl_i, kl_r, kl_l, kl_n, push_n, push_s, pop_0, pop_i, pop_r, Int.reduceToNat, List.length_cons, List.length_nil, Nat.reduceAdd, Nat.reduceLeDiff, Nat.zero_add, true_and, nI_n0, nat_le, Nat.add_zero, i_1, rt_mo_later, x_al0, x_call, x_getf, x_goto, x_iaload, x_icge, x_ifeq, x_ifne, x_il1, x_il2, x_il3, x_il4, x_inc4, x_iret, x_is4, x_ldc, x_m1, x_popi, nI_add]
    exact ih (i + 1) g1 (by omega) (by rw [e1]; exact hE) (by rw [e1]; exact thI_s hI) (FR_t hr f1)
theorem s_later (hw : WI (g 197)) {V M : LW} (hL : LK (g 197) 0 okV V) (hM : LK (g 197) 1 okM M) {n t k : Int32} (H : ∀ g', FR [200, 205, 206, 207, 208, 209, 197] [30] g g' → g' 197 = g 197 → P (some (.int (latA V M (g 197) n t k))) (E g' q)) :
    callC (ev (d + 11)) mo_later [.ref 196, .int n, .int t, .int k] (E g q) P := by
  refine in_mo_later rfl ?_
  have no : latB (g 197) n t k = false → wp (ev (d + 10)) P mo_later 28 [some (.ref 196), some (.int n), some (.int t), some (.int k), none] [] (E g q) := by
    intro h
    rw [b_mo_later_28]
    simp -implicitDefEqProofs (disch := first | assumption | omega) only [szS_0, szS_i, szS_r, szS_l, x_cons, x_goto, ob_some, kl_i, kl_r, kl_l, kl_n, push_n, push_s, pop_0, pop_i, pop_r, Int.reduceToNat, List.length_cons, List.length_nil, Nat.reduceAdd, Nat.reduceLeDiff, Nat.zero_add, true_and, nI_n0, nat_le, Nat.add_zero, i_1, rt_mo_later, x_al0, x_call, x_getf, x_goto, x_iaload, x_icge, x_ifeq, x_ifne, x_il1, x_il2, x_il3, x_il4, x_inc4, x_iret, x_is4, x_ldc, x_m1, x_popi]
    have := H g FR_r rfl
    unfold latA at this
    rw [h, if_neg Bool.false_ne_true] at this
    exact this
  rw [b_mo_later_0]
  simp -implicitDefEqProofs (disch := first | assumption | omega) only [szS_0, szS_i, szS_r, szS_l, x_cons, x_goto, ob_some, kl_i, kl_r, kl_l, kl_n, push_n, push_s, pop_0, pop_i, pop_r, Int.reduceToNat, List.length_cons, List.length_nil, Nat.reduceAdd, Nat.reduceLeDiff, Nat.zero_add, true_and, nI_n0, nat_le, Nat.add_zero, i_1, rt_mo_later, x_al0, x_call, x_getf, x_goto, x_iaload, x_icge, x_ifeq, x_ifne, x_il1, x_il2, x_il3, x_il4, x_inc4, x_iret, x_is4, x_ldc, x_m1, x_popi, s_isIn, s_isTown, bI_0]
  by_cases h1 : nI 0 ≤ n ∧ n ≤ nI 100
  · simp only [decide_eq_true h1, Bool.true_eq_false, ↓reduceIte]
    by_cases h2 : townB (g 197) t = false
    · simp only [h2, ↓reduceIte]
      exact no (by unfold latB; rw [h2, Bool.false_and, Bool.and_false])
    · rw [Bool.not_eq_false] at h2
      simp only [h2, Bool.true_eq_false, ↓reduceIte]
      by_cases h3 : nI 0 ≤ k ∧ k ≤ nI 7
      · simp only [decide_eq_true h3, Bool.true_eq_false, ↓reduceIte]
        obtain ⟨n', hn, rfl⟩ := int_is h1 (by decide)
        obtain ⟨k', hk, rfl⟩ := int_is h3 (by decide)
        obtain ⟨t', ht, rfl, hs⟩ := townB_ex hw h2
        have h0 := wi_n hw
        have hB : latB (g 197) (nI n') (nI t') (nI k') = true := by
          unfold latB
          rw [decide_eq_true h1, h2, decide_eq_true h3]
          rfl
        have eA : latA V M (g 197) (nI n') (nI t') (nI k') = thN V M n' (th0 (g 197)) (10 + 20 * t' + tfd k') := by
          unfold latA
          rw [if_pos hB, ix_nI (by omega), ix_nI (by omega), ix_nI (by omega)]
        rw [b_mo_later_30]
        simp -implicitDefEqProofs (disch := first | assumption | omega) only [szS_0, szS_i, szS_r, szS_l, x_cons, x_goto, ob_some, kl_i, kl_r, kl_l, kl_n, push_n, push_s, pop_0, pop_i, pop_r, Int.reduceToNat, List.length_cons, List.length_nil, Nat.reduceAdd, Nat.reduceLeDiff, Nat.zero_add, true_and, nI_n0, nat_le, Nat.add_zero, i_1, rt_mo_later, x_al0, x_call, x_getf, x_goto, x_iaload, x_icge, x_ifeq, x_ifne, x_il1, x_il2, x_il3, x_il4, x_inc4, x_iret, x_is4, x_ldc, x_m1, x_popi]
        refine s_laysAside fun g1 f1 e1 el => ?_
        simp -implicitDefEqProofs (disch := first | assumption | omega) only [szS_0, szS_i, szS_r, szS_l, x_cons, x_goto, ob_some, kl_i, kl_r, kl_l, kl_n, push_n, push_s, pop_0, pop_i, pop_r, Int.reduceToNat, List.length_cons, List.length_nil, Nat.reduceAdd, Nat.reduceLeDiff, Nat.zero_add, true_and, nI_n0, nat_le, Nat.add_zero, i_1, rt_mo_later, x_al0, x_call, x_getf, x_goto, x_iaload, x_icge, x_ifeq, x_ifne, x_il1, x_il2, x_il3, x_il4, x_inc4, x_iret, x_is4, x_ldc, x_m1, x_popi]
        have hI := th0_I hw hL hM
        refine lt_lp (w0 := th0 (g 197)) (wE := thN V M n' (th0 (g 197))) (by omega) (g0 := g1) (fun g2 f2 e2 => ?_) n' 0 g1 (Nat.zero_add _) (by rw [e1]) (by rw [e1]; exact hI) FR_r
        have hI2 := thN_I n' _ hI
        rw [b_mo_later_61]
        simp -implicitDefEqProofs (disch := first | assumption | omega) only [szS_0, szS_i, szS_r, szS_l, x_cons, x_goto, ob_some, kl_i, kl_r, kl_l, kl_n, push_n, push_s, pop_0, pop_i, pop_r, Int.reduceToNat, List.length_cons, List.length_nil, Nat.reduceAdd, Nat.reduceLeDiff, Nat.zero_add, true_and, nI_n0, nat_le, Nat.add_zero, i_1, rt_mo_later, x_al0, x_call, x_getf, x_goto, x_iaload, x_icge, x_ifeq, x_ifne, x_il1, x_il2, x_il3, x_il4, x_inc4, x_iret, x_is4, x_ldc, x_m1, x_popi, s_told]
        rw [s_putsBack (w := g 197) (fun k hk => by rw [FR_a f2 rfl, el k hk]) (fun k hk => by rw [e2, hI2.2.2.2.2.2.1 k hk]; exact pu_n (by omega))]
        simp -implicitDefEqProofs (disch := first | assumption | omega) only [szS_0, szS_i, szS_r, szS_l, x_cons, x_goto, ob_some, kl_i, kl_r, kl_l, kl_n, push_n, push_s, pop_0, pop_i, pop_r, Int.reduceToNat, List.length_cons, List.length_nil, Nat.reduceAdd, Nat.reduceLeDiff, Nat.zero_add, true_and, nI_n0, nat_le, Nat.add_zero, i_1, rt_mo_later, x_al0, x_call, x_getf, x_goto, x_iaload, x_icge, x_ifeq, x_ifne, x_il1, x_il2, x_il3, x_il4, x_inc4, x_iret, x_is4, x_ldc, x_m1, x_popi]
        have := H (upw g2 197 (g 197)) (FR_w rfl (FR_t (FR_f rfl f1) (FR_m rfl rfl f2))) upw_s
        rw [eA] at this
        rw [e2]
        exact this
      · simp only [decide_eq_false h3, ↓reduceIte]
        exact no (by unfold latB; rw [decide_eq_false h3, Bool.and_false, Bool.and_false])
  · simp only [decide_eq_false h1, ↓reduceIte]
    exact no (by unfold latB; rw [decide_eq_false h1, Bool.false_and])
theorem tr_lp {V M : LW} {w0 : Nat → Int32} {t : Nat} (ht : t < 16) {g0 : Nat → Nat → Int32} {A : Int32} (H : ∀ g' n b, FR [205, 206, 207, 208, 209, 197] [30] g0 g' → thI V M w0 (g' 197) → (if b = 0 then nI n else -1) = A → b ≤ 1 → wp (ev (d + 10)) P mo_thirst 63 [some (.ref 196), some (.int (nI t)), some (.int (nI n)), some (.int (nI b))] [] (E g' q)) :
    ∀ (j n : Nat) (g : Nat → Nat → Int32), n + j = 100 → thr V M t j n (g 197) = A → thI V M w0 (g 197) → FR [205, 206, 207, 208, 209, 197] [30] g0 g →
    wp (ev (d + 10)) P mo_thirst 18 [some (.ref 196), some (.int (nI t)), some (.int (nI n)), some (.int (nI 1))] [] (E g q) := by
  intro j
  induction j with
  | zero =>
    intro n g hn hA hI hr
    have hn : n = 100 := hn
    subst hn
    have h10 : (nI 1 = nI 0) = False := eq_false (by decide)
    rw [b_mo_thirst_18]
    simp -implicitDefEqProofs (disch := first | assumption | omega) only [szS_0, szS_i, szS_r, szS_l, x_cons, x_goto, ob_some, kl_i, kl_r, kl_l, kl_n, push_n, push_s, pop_0, pop_i, pop_r, Int.reduceToNat, List.length_cons, List.length_nil, Nat.reduceAdd, Nat.reduceLeDiff, Nat.zero_add, true_and, nI_n0, nat_le, Nat.add_zero, i_1, rt_mo_thirst, x_al0, x_call, x_getf, x_goto, x_iaload, x_icge, x_icne, x_ifeq, x_ifne, x_il1, x_il2, x_il3, x_inc2, x_iret, x_is2, x_is3, x_ldc, x_m1, x_popi, h10, nI_ltE, Nat.lt_irrefl, ↓reduceIte]
    exact H g 100 1 hr hI hA (Nat.le_refl _)
  | succ j ih =>
    intro n g hn hA hI hr
    have hn' : n < 100 := by omega
    have h6 := thI_0 hI
    have h10 : (nI 1 = nI 0) = False := eq_false (by decide)
    rw [b_mo_thirst_18]
    simp -implicitDefEqProofs (disch := first | assumption | omega) only [szS_0, szS_i, szS_r, szS_l, x_cons, x_goto, ob_some, kl_i, kl_r, kl_l, kl_n, push_n, push_s, pop_0, pop_i, pop_r, Int.reduceToNat, List.length_cons, List.length_nil, Nat.reduceAdd, Nat.reduceLeDiff, Nat.zero_add, true_and, nI_n0, nat_le, Nat.add_zero, i_1, rt_mo_thirst, x_al0, x_call, x_getf, x_goto, x_iaload, x_icge, x_icne, x_ifeq, x_ifne, x_il1, x_il2, x_il3, x_inc2, x_iret, x_is2, x_is3, x_ldc, x_m1, x_popi, h10, nI_ltE, hn', ↓reduceIte, fd_196_0, fd_196_1, fd_196_2, fd_196_3, fd_196_4, sf_196_4, fd_196_5, sf_196_5, fd_196_6, fd_196_7, fd_196_8, fd_196_9, fd_196_10, fd_196_11, fd_196_12, sf_196_12, fd_196_13, sf_196_13, fd_196_14, sf_196_14, fd_196_15, sf_196_15, fd_196_16, sf_196_16, fd_196_17, sf_196_17, fd_196_18, sf_196_18, fd_196_19, sf_196_19, fd_196_20, sf_196_20, fd_196_21, sf_196_21, fd_196_22, sf_196_22, fd_196_23, sf_196_23, fd_196_24, sf_196_24, fd_196_25, sf_196_25, fd_196_26, sf_196_26, fd_196_27, fd_196_28, fd_196_29, fd_196_30, sf_196_30, fd_196_31, fd_196_32, fd_196_33, fd_196_34, fd_196_35, fd_196_36, fd_196_37, sf_196_37, fd_196_38, fd_196_39, sf_196_39, fd_196_40, sf_196_40, fd_196_41, sf_196_41, fd_196_42, fd_196_43, fd_196_44, ld_197, sd_197, ln_197, h6.1]
    refine s_aDay hI.1 hI.2.1 hI.2.2.1 h6.2 fun g1 f1 e1 => ?_
    have hI1 : thI V M w0 (g1 197) := by rw [e1]; exact thI_s hI
    have h17 := (wi_y hI1.1 ht).2.2.2.2.2.2.2
    have hA : (if fd (dyR V M (vN (g 197) 6) (g 197)) t 17 = 1 then thr V M t j (n + 1) (dyR V M (vN (g 197) 6) (g 197)) else nI (n + 1)) = A := hA
    rw [← e1] at hA
    simp -implicitDefEqProofs (disch := first | assumption | omega) only [szS_0, szS_i, szS_r, szS_l, x_cons, x_goto, ob_some, kl_i, kl_r, kl_l, kl_n, push_n, push_s, pop_0, pop_i, pop_r, Int.reduceToNat, List.length_cons, List.length_nil, Nat.reduceAdd, Nat.reduceLeDiff, Nat.zero_add, true_and, nI_n0, nat_le, Nat.add_zero, i_1, rt_mo_thirst, x_al0, x_call, x_getf, x_goto, x_iaload, x_icge, x_icne, x_ifeq, x_ifne, x_il1, x_il2, x_il3, x_inc2, x_iret, x_is2, x_is3, x_ldc, x_m1, x_popi, nI_add, s_own, h17.1, nI_eqE]
    by_cases h : fd (g1 197) t 17 = 1
    · rw [if_pos h] at hA
      simp only [h, ↓reduceIte]
      try simp -implicitDefEqProofs (disch := first | assumption | omega) only [szS_0, szS_i, szS_r, szS_l, x_cons, x_goto, ob_some, kl_i, kl_r, kl_l, kl_n, push_n, push_s, pop_0, pop_i, pop_r, Int.reduceToNat, List.length_cons, List.length_nil, Nat.reduceAdd, Nat.reduceLeDiff, Nat.zero_add, true_and, nI_n0, nat_le, Nat.add_zero, i_1, rt_mo_thirst, x_al0, x_call, x_getf, x_goto, x_iaload, x_icge, x_icne, x_ifeq, x_ifne, x_il1, x_il2, x_il3, x_inc2, x_iret, x_is2, x_is3, x_ldc, x_m1, x_popi, b_mo_thirst_59]
      exact ih (n + 1) g1 (by omega) hA hI1 (FR_t hr f1)
    · rw [if_neg h] at hA
      simp only [h, ↓reduceIte]
      simp -implicitDefEqProofs (disch := first | assumption | omega) only [szS_0, szS_i, szS_r, szS_l, x_cons, x_goto, ob_some, kl_i, kl_r, kl_l, kl_n, push_n, push_s, pop_0, pop_i, pop_r, Int.reduceToNat, List.length_cons, List.length_nil, Nat.reduceAdd, Nat.reduceLeDiff, Nat.zero_add, true_and, nI_n0, nat_le, Nat.add_zero, i_1, rt_mo_thirst, x_al0, x_call, x_getf, x_goto, x_iaload, x_icge, x_icne, x_ifeq, x_ifne, x_il1, x_il2, x_il3, x_inc2, x_iret, x_is2, x_is3, x_ldc, x_m1, x_popi, b_mo_thirst_58, b_mo_thirst_59]
      rw [b_mo_thirst_18]
      simp -implicitDefEqProofs (disch := first | assumption | omega) only [szS_0, szS_i, szS_r, szS_l, x_cons, x_goto, ob_some, kl_i, kl_r, kl_l, kl_n, push_n, push_s, pop_0, pop_i, pop_r, Int.reduceToNat, List.length_cons, List.length_nil, Nat.reduceAdd, Nat.reduceLeDiff, Nat.zero_add, true_and, nI_n0, nat_le, Nat.add_zero, i_1, rt_mo_thirst, x_al0, x_call, x_getf, x_goto, x_iaload, x_icge, x_icne, x_ifeq, x_ifne, x_il1, x_il2, x_il3, x_inc2, x_iret, x_is2, x_is3, x_ldc, x_m1, x_popi, ↓reduceIte]
      exact H g1 (n + 1) 0 (FR_t hr f1) hI1 hA (Nat.zero_le _)
theorem s_thirst (hw : WI (g 197)) {V M : LW} (hL : LK (g 197) 0 okV V) (hM : LK (g 197) 1 okM M) {t : Int32} (H : ∀ g', FR [200, 205, 206, 207, 208, 209, 197] [30] g g' → g' 197 = g 197 → P (some (.int (thrA V M (g 197) t))) (E g' q)) :
    callC (ev (d + 11)) mo_thirst [.ref 196, .int t] (E g q) P := by
  refine in_mo_thirst rfl ?_
  rw [b_mo_thirst_0]
  simp -implicitDefEqProofs (disch := first | assumption | omega) only [szS_0, szS_i, szS_r, szS_l, x_cons, x_goto, ob_some, kl_i, kl_r, kl_l, kl_n, push_n, push_s, pop_0, pop_i, pop_r, Int.reduceToNat, List.length_cons, List.length_nil, Nat.reduceAdd, Nat.reduceLeDiff, Nat.zero_add, true_and, nI_n0, nat_le, Nat.add_zero, i_1, rt_mo_thirst, x_al0, x_call, x_getf, x_goto, x_iaload, x_icge, x_icne, x_ifeq, x_ifne, x_il1, x_il2, x_il3, x_inc2, x_iret, x_is2, x_is3, x_ldc, x_m1, x_popi, s_isTown, bI_0]
  by_cases h2 : townB (g 197) t = false
  · simp only [h2, ↓reduceIte]
    try simp -implicitDefEqProofs (disch := first | assumption | omega) only [szS_0, szS_i, szS_r, szS_l, x_cons, x_goto, ob_some, kl_i, kl_r, kl_l, kl_n, push_n, push_s, pop_0, pop_i, pop_r, Int.reduceToNat, List.length_cons, List.length_nil, Nat.reduceAdd, Nat.reduceLeDiff, Nat.zero_add, true_and, nI_n0, nat_le, Nat.add_zero, i_1, rt_mo_thirst, x_al0, x_call, x_getf, x_goto, x_iaload, x_icge, x_icne, x_ifeq, x_ifne, x_il1, x_il2, x_il3, x_inc2, x_iret, x_is2, x_is3, x_ldc, x_m1, x_popi]
    have := H g FR_r rfl
    unfold thrA at this
    rw [h2, if_neg Bool.false_ne_true] at this
    exact this
  · rw [Bool.not_eq_false] at h2
    simp only [h2, Bool.true_eq_false, ↓reduceIte]
    obtain ⟨t', ht, rfl, hs⟩ := townB_ex hw h2
    have h0 := wi_n hw
    have eA : thrA V M (g 197) (nI t') = thr V M t' 100 0 (th0 (g 197)) := by
      unfold thrA
      rw [if_pos h2, ix_nI (by omega)]
    rw [b_mo_thirst_10]
    simp -implicitDefEqProofs (disch := first | assumption | omega) only [szS_0, szS_i, szS_r, szS_l, x_cons, x_goto, ob_some, kl_i, kl_r, kl_l, kl_n, push_n, push_s, pop_0, pop_i, pop_r, Int.reduceToNat, List.length_cons, List.length_nil, Nat.reduceAdd, Nat.reduceLeDiff, Nat.zero_add, true_and, nI_n0, nat_le, Nat.add_zero, i_1, rt_mo_thirst, x_al0, x_call, x_getf, x_goto, x_iaload, x_icge, x_icne, x_ifeq, x_ifne, x_il1, x_il2, x_il3, x_inc2, x_iret, x_is2, x_is3, x_ldc, x_m1, x_popi]
    refine s_laysAside fun g1 f1 e1 el => ?_
    simp -implicitDefEqProofs (disch := first | assumption | omega) only [szS_0, szS_i, szS_r, szS_l, x_cons, x_goto, ob_some, kl_i, kl_r, kl_l, kl_n, push_n, push_s, pop_0, pop_i, pop_r, Int.reduceToNat, List.length_cons, List.length_nil, Nat.reduceAdd, Nat.reduceLeDiff, Nat.zero_add, true_and, nI_n0, nat_le, Nat.add_zero, i_1, rt_mo_thirst, x_al0, x_call, x_getf, x_goto, x_iaload, x_icge, x_icne, x_ifeq, x_ifne, x_il1, x_il2, x_il3, x_inc2, x_iret, x_is2, x_is3, x_ldc, x_m1, x_popi]
    have hI := th0_I hw hL hM
    refine tr_lp (w0 := th0 (g 197)) (by omega) (g0 := g1) (A := thrA V M (g 197) (nI t')) (fun g2 n b f2 hI2 hA hb => ?_) 100 0 g1 rfl (by rw [e1, eA]) (by rw [e1]; exact hI) FR_r
    rw [b_mo_thirst_63]
    simp -implicitDefEqProofs (disch := first | assumption | omega) only [szS_0, szS_i, szS_r, szS_l, x_cons, x_goto, ob_some, kl_i, kl_r, kl_l, kl_n, push_n, push_s, pop_0, pop_i, pop_r, Int.reduceToNat, List.length_cons, List.length_nil, Nat.reduceAdd, Nat.reduceLeDiff, Nat.zero_add, true_and, nI_n0, nat_le, Nat.add_zero, i_1, rt_mo_thirst, x_al0, x_call, x_getf, x_goto, x_iaload, x_icge, x_icne, x_ifeq, x_ifne, x_il1, x_il2, x_il3, x_inc2, x_iret, x_is2, x_is3, x_ldc, x_m1, x_popi]
    rw [s_putsBack (w := g 197) (fun k hk => by rw [FR_a f2 rfl, el k hk]) (fun k hk => by rw [hI2.2.2.2.2.2.1 k hk]; exact pu_n (by omega))]
    simp -implicitDefEqProofs (disch := first | assumption | omega) only [szS_0, szS_i, szS_r, szS_l, x_cons, x_goto, ob_some, kl_i, kl_r, kl_l, kl_n, push_n, push_s, pop_0, pop_i, pop_r, Int.reduceToNat, List.length_cons, List.length_nil, Nat.reduceAdd, Nat.reduceLeDiff, Nat.zero_add, true_and, nI_n0, nat_le, Nat.add_zero, i_1, rt_mo_thirst, x_al0, x_call, x_getf, x_goto, x_iaload, x_icge, x_icne, x_ifeq, x_ifne, x_il1, x_il2, x_il3, x_inc2, x_iret, x_is2, x_is3, x_ldc, x_m1, x_popi, nI_eqE]
    have := H (upw g2 197 (g 197)) (FR_w rfl (FR_t (FR_f rfl f1) (FR_m rfl rfl f2))) upw_s
    rw [← hA] at this
    by_cases hb0 : b = 0
    · rw [if_pos hb0] at this
      simp only [hb0, ↓reduceIte]
      simp -implicitDefEqProofs (disch := first | assumption | omega) only [szS_0, szS_i, szS_r, szS_l, x_cons, x_goto, ob_some, kl_i, kl_r, kl_l, kl_n, push_n, push_s, pop_0, pop_i, pop_r, Int.reduceToNat, List.length_cons, List.length_nil, Nat.reduceAdd, Nat.reduceLeDiff, Nat.zero_add, true_and, nI_n0, nat_le, Nat.add_zero, i_1, rt_mo_thirst, x_al0, x_call, x_getf, x_goto, x_iaload, x_icge, x_icne, x_ifeq, x_ifne, x_il1, x_il2, x_il3, x_inc2, x_iret, x_is2, x_is3, x_ldc, x_m1, x_popi, b_mo_thirst_75, b_mo_thirst_76]
      exact this
    · rw [if_neg hb0] at this
      simp only [hb0, ↓reduceIte]
      try simp -implicitDefEqProofs (disch := first | assumption | omega) only [szS_0, szS_i, szS_r, szS_l, x_cons, x_goto, ob_some, kl_i, kl_r, kl_l, kl_n, push_n, push_s, pop_0, pop_i, pop_r, Int.reduceToNat, List.length_cons, List.length_nil, Nat.reduceAdd, Nat.reduceLeDiff, Nat.zero_add, true_and, nI_n0, nat_le, Nat.add_zero, i_1, rt_mo_thirst, x_al0, x_call, x_getf, x_goto, x_iaload, x_icge, x_icne, x_ifeq, x_ifne, x_il1, x_il2, x_il3, x_inc2, x_iret, x_is2, x_is3, x_ldc, x_m1, x_popi, b_mo_thirst_76]
      exact this
theorem mk_lp {w : Nat → Int32} {b : Nat → Int32} {day : Nat} (hd : day ≤ 200) (hw : g 197 = w) (H : ∀ r, (∀ k, r k = if 320 * day ≤ k ∧ k < 320 * day + 320 then w (10 + (k - 320 * day)) else b k) → P none (E (upw g 210 r) q)) : ∀ (j n : Nat) (r : Nat → Int32), n + j = 320 → (∀ k, r k = if 320 * day ≤ k ∧ k < 320 * day + n then w (10 + (k - 320 * day)) else b k) →
    wp (ev d) P mo_marks 2 [some (.ref 196), some (.int (nI day)), some (.int (nI n))] [] (E (upw g 210 r) q) := by
  intro j
  induction j with
  | zero =>
    intro n r hn hr
    have hn : n = 320 := hn
    subst hn
    rw [b_mo_marks_2]
    simp -implicitDefEqProofs (disch := first | assumption | omega) only [szS_0, szS_i, szS_r, szS_l, x_cons, x_goto, ob_some, kl_i, kl_r, kl_l, kl_n, push_n, push_s, pop_0, pop_i, pop_r, Int.reduceToNat, List.length_cons, List.length_nil, Nat.reduceAdd, Nat.reduceLeDiff, Nat.zero_add, true_and, nI_n0, nat_le, Nat.add_zero, i_1, rt_mo_marks, x_al0, x_getf, x_goto, x_iadd, x_iaload, x_iastore, x_icge, x_il1, x_il2, x_imul, x_inc2, x_is2, x_ldc, x_vret, nI_ltE, Nat.lt_irrefl, ↓reduceIte, b_mo_marks_36]
    exact H r hr
  | succ j ih =>
    intro n r hn hr
    have hn' : n < 320 := by omega
    rw [b_mo_marks_2]
    simp -implicitDefEqProofs (disch := first | assumption | omega) only [szS_0, szS_i, szS_r, szS_l, x_cons, x_goto, ob_some, kl_i, kl_r, kl_l, kl_n, push_n, push_s, pop_0, pop_i, pop_r, Int.reduceToNat, List.length_cons, List.length_nil, Nat.reduceAdd, Nat.reduceLeDiff, Nat.zero_add, true_and, nI_n0, nat_le, Nat.add_zero, i_1, rt_mo_marks, x_al0, x_getf, x_goto, x_iadd, x_iaload, x_iastore, x_icge, x_il1, x_il2, x_imul, x_inc2, x_is2, x_ldc, x_vret, fd_196_0, fd_196_1, fd_196_2, fd_196_3, fd_196_4, sf_196_4, fd_196_5, sf_196_5, fd_196_6, fd_196_7, fd_196_8, fd_196_9, fd_196_10, fd_196_11, fd_196_12, sf_196_12, fd_196_13, sf_196_13, fd_196_14, sf_196_14, fd_196_15, sf_196_15, fd_196_16, sf_196_16, fd_196_17, sf_196_17, fd_196_18, sf_196_18, fd_196_19, sf_196_19, fd_196_20, sf_196_20, fd_196_21, sf_196_21, fd_196_22, sf_196_22, fd_196_23, sf_196_23, fd_196_24, sf_196_24, fd_196_25, sf_196_25, fd_196_26, sf_196_26, fd_196_27, fd_196_28, fd_196_29, fd_196_30, sf_196_30, fd_196_31, fd_196_32, fd_196_33, fd_196_34, fd_196_35, fd_196_36, fd_196_37, sf_196_37, fd_196_38, fd_196_39, sf_196_39, fd_196_40, sf_196_40, fd_196_41, sf_196_41, fd_196_42, fd_196_43, fd_196_44, ld_210, sd_210, ln_210, ld_197, sd_197, ln_197, upw_o, hw, nI_ltE, hn', ↓reduceIte, nI_mul, nI_add, pu_w]
    refine ih (n + 1) _ (by omega) fun k => ?_
    unfold pu
    by_cases e : k = 320 * day + n
    · rw [if_pos e, if_pos (by omega), e, Nat.add_sub_cancel_left]
    · rw [if_neg e, hr]
      by_cases e2 : 320 * day ≤ k ∧ k < 320 * day + n
      · rw [if_pos e2, if_pos (by omega)]
      · rw [if_neg e2, if_neg (by omega)]
theorem s_marks {day : Nat} (hd : day ≤ 200) (H : ∀ r, (∀ k, r k = if 320 * day ≤ k ∧ k < 320 * day + 320 then g 197 (10 + (k - 320 * day)) else g 210 k) → P none (E (upw g 210 r) q)) : callC (ev (d + 1)) mo_marks [.ref 196, .int (nI day)] (E g q) P := by
  refine in_mo_marks rfl ?_
  rw [b_mo_marks_0]
  simp -implicitDefEqProofs (disch := first | assumption | omega) only [szS_0, szS_i, szS_r, szS_l, x_cons, x_goto, ob_some, kl_i, kl_r, kl_l, kl_n, push_n, push_s, pop_0, pop_i, pop_r, Int.reduceToNat, List.length_cons, List.length_nil, Nat.reduceAdd, Nat.reduceLeDiff, Nat.zero_add, true_and, nI_n0, nat_le, Nat.add_zero, i_1, rt_mo_marks, x_al0, x_getf, x_goto, x_iadd, x_iaload, x_iastore, x_icge, x_il1, x_il2, x_imul, x_inc2, x_is2, x_ldc, x_vret]
  rw [show E g q = E (upw g 210 (g 210)) q by rw [upw_g]]
  exact mk_lp hd rfl H 320 0 _ rfl fun k => by rw [if_neg (by omega)]
theorem ak_lp {a b : Nat} (ha : a ≤ 200) (hb : b ≤ 200) {X : Int32} (H : P (some (.int X)) (E g q)) : ∀ (j n : Nat), n + j = 320 → (X = nI 1 ∧ ∀ k, n ≤ k → k < 320 → g 210 (320 * a + k) = g 210 (320 * b + k)) ∨ (X = nI 0 ∧ ¬ ∀ k, n ≤ k → k < 320 → g 210 (320 * a + k) = g 210 (320 * b + k)) →
    wp (ev d) P mo_isAlike 2 [some (.ref 196), some (.int (nI a)), some (.int (nI b)), some (.int (nI n))] [] (E g q) := by
  intro j
  induction j with
  | zero =>
    intro n hn hX
    have hn : n = 320 := hn
    subst hn
    rw [b_mo_isAlike_2]
    simp -implicitDefEqProofs (disch := first | assumption | omega) only [szS_0, szS_i, szS_r, szS_l, x_cons, x_goto, ob_some, kl_i, kl_r, kl_l, kl_n, push_n, push_s, pop_0, pop_i, pop_r, Int.reduceToNat, List.length_cons, List.length_nil, Nat.reduceAdd, Nat.reduceLeDiff, Nat.zero_add, true_and, nI_n0, nat_le, Nat.add_zero, i_1, rt_mo_isAlike_0, rt_mo_isAlike_1, rt_mo_isAlike_b, x_al0, x_getf, x_goto, x_iadd, x_iaload, x_iceq, x_icge, x_il1, x_il2, x_il3, x_imul, x_inc3, x_iret, x_is3, x_ldc, nI_ltE, Nat.lt_irrefl, ↓reduceIte, b_mo_isAlike_44]
    rcases hX with h | h
    · rw [h.1] at H
      exact H
    · exact absurd (fun k h1 h2 => absurd h2 (by omega)) h.2
  | succ j ih =>
    intro n hn hX
    have hn' : n < 320 := by omega
    rw [b_mo_isAlike_2]
    simp -implicitDefEqProofs (disch := first | assumption | omega) only [szS_0, szS_i, szS_r, szS_l, x_cons, x_goto, ob_some, kl_i, kl_r, kl_l, kl_n, push_n, push_s, pop_0, pop_i, pop_r, Int.reduceToNat, List.length_cons, List.length_nil, Nat.reduceAdd, Nat.reduceLeDiff, Nat.zero_add, true_and, nI_n0, nat_le, Nat.add_zero, i_1, rt_mo_isAlike_0, rt_mo_isAlike_1, rt_mo_isAlike_b, x_al0, x_getf, x_goto, x_iadd, x_iaload, x_iceq, x_icge, x_il1, x_il2, x_il3, x_imul, x_inc3, x_iret, x_is3, x_ldc, fd_196_0, fd_196_1, fd_196_2, fd_196_3, fd_196_4, sf_196_4, fd_196_5, sf_196_5, fd_196_6, fd_196_7, fd_196_8, fd_196_9, fd_196_10, fd_196_11, fd_196_12, sf_196_12, fd_196_13, sf_196_13, fd_196_14, sf_196_14, fd_196_15, sf_196_15, fd_196_16, sf_196_16, fd_196_17, sf_196_17, fd_196_18, sf_196_18, fd_196_19, sf_196_19, fd_196_20, sf_196_20, fd_196_21, sf_196_21, fd_196_22, sf_196_22, fd_196_23, sf_196_23, fd_196_24, sf_196_24, fd_196_25, sf_196_25, fd_196_26, sf_196_26, fd_196_27, fd_196_28, fd_196_29, fd_196_30, sf_196_30, fd_196_31, fd_196_32, fd_196_33, fd_196_34, fd_196_35, fd_196_36, fd_196_37, sf_196_37, fd_196_38, fd_196_39, sf_196_39, fd_196_40, sf_196_40, fd_196_41, sf_196_41, fd_196_42, fd_196_43, fd_196_44, ld_210, sd_210, ln_210, nI_ltE, hn', ↓reduceIte, nI_mul, nI_add]
    by_cases h : g 210 (320 * a + n) = g 210 (320 * b + n)
    · simp only [h, ↓reduceIte]
      simp -implicitDefEqProofs (disch := first | assumption | omega) only [szS_0, szS_i, szS_r, szS_l, x_cons, x_goto, ob_some, kl_i, kl_r, kl_l, kl_n, push_n, push_s, pop_0, pop_i, pop_r, Int.reduceToNat, List.length_cons, List.length_nil, Nat.reduceAdd, Nat.reduceLeDiff, Nat.zero_add, true_and, nI_n0, nat_le, Nat.add_zero, i_1, rt_mo_isAlike_0, rt_mo_isAlike_1, rt_mo_isAlike_b, x_al0, x_getf, x_goto, x_iadd, x_iaload, x_iceq, x_icge, x_il1, x_il2, x_il3, x_imul, x_inc3, x_iret, x_is3, x_ldc, b_mo_isAlike_38, nI_add]
      refine ih (n + 1) (by omega) ?_
      rcases hX with hX | hX
      · exact Or.inl ⟨hX.1, fun k h1 h2 => hX.2 k (by omega) h2⟩
      · refine Or.inr ⟨hX.1, fun hh => hX.2 fun k h1 h2 => ?_⟩
        by_cases e : k = n
        · rw [e]
          exact h
        · exact hh k (by omega) h2
    · simp only [h, ↓reduceIte]
      try simp -implicitDefEqProofs (disch := first | assumption | omega) only [szS_0, szS_i, szS_r, szS_l, x_cons, x_goto, ob_some, kl_i, kl_r, kl_l, kl_n, push_n, push_s, pop_0, pop_i, pop_r, Int.reduceToNat, List.length_cons, List.length_nil, Nat.reduceAdd, Nat.reduceLeDiff, Nat.zero_add, true_and, nI_n0, nat_le, Nat.add_zero, i_1, rt_mo_isAlike_0, rt_mo_isAlike_1, rt_mo_isAlike_b, x_al0, x_getf, x_goto, x_iadd, x_iaload, x_iceq, x_icge, x_il1, x_il2, x_il3, x_imul, x_inc3, x_iret, x_is3, x_ldc]
      rcases hX with hX | hX
      · exact absurd (hX.2 n (Nat.le_refl _) hn') h
      · rw [hX.1] at H
        exact H
theorem s_isAlike {a b : Nat} {w w' : Nat → Int32} (ha : a ≤ 200) (hb : b ≤ 200) (h1 : ∀ k, k < 320 → g 210 (320 * a + k) = w (10 + k)) (h2 : ∀ k, k < 320 → g 210 (320 * b + k) = w' (10 + k)) : callC (ev (d + 1)) mo_isAlike [.ref 196, .int (nI a), .int (nI b)] (E g q) P = P (some (.int (bI (alk w w')))) (E g q) := by
  refine call_eq (in_mo_isAlike rfl ?_)
  rw [b_mo_isAlike_0]
  simp -implicitDefEqProofs (disch := first | assumption | omega) only [szS_0, szS_i, szS_r, szS_l, x_cons, x_goto, ob_some, kl_i, kl_r, kl_l, kl_n, push_n, push_s, pop_0, pop_i, pop_r, Int.reduceToNat, List.length_cons, List.length_nil, Nat.reduceAdd, Nat.reduceLeDiff, Nat.zero_add, true_and, nI_n0, nat_le, Nat.add_zero, i_1, rt_mo_isAlike_0, rt_mo_isAlike_1, rt_mo_isAlike_b, x_al0, x_getf, x_goto, x_iadd, x_iaload, x_iceq, x_icge, x_il1, x_il2, x_il3, x_imul, x_inc3, x_iret, x_is3, x_ldc]
  refine ak_lp ha hb (X := bI (alk w w')) ⟨rfl, rfl⟩ 320 0 rfl ?_
  cases h : alk w w'
  · refine Or.inr ⟨rfl, fun hh => ?_⟩
    have : alk w w' = true := alk_i.mpr fun k hk => by rw [← h1 k hk, ← h2 k hk, hh k (Nat.zero_le _) hk]
    rw [h] at this
    cases this
  · exact Or.inl ⟨rfl, fun k _ hk => by rw [h1 k hk, h2 k hk, alk_i.mp h k hk]⟩
theorem en_in {W : Nat → Nat → Int32} {day : Nat} (hd : day ≤ 200) (hB : ∀ e, e ≤ day → ∀ k, k < 320 → g 210 (320 * e + k) = W e (10 + k)) {v1 : Int32}
    (H : ∀ o, wp (ev (d + 10)) P mo_ends 24 [some (.ref 196), some (.int v1), some (.int (eN (fst (fun e => alk (W e) (W day)) day 0))), some (.int (nI day)), o] [] (E g q)) :
    ∀ (i j : Nat), i + j = day → wp (ev (d + 10)) P mo_ends 61 [some (.ref 196), some (.int v1), some (.int (eN (fst (fun e => alk (W e) (W day)) j i))), some (.int (nI day)), some (.int (nI i - nI 1))] [] (E g q) := by
  intro i
  induction i with
  | zero =>
    intro j hj
    have hj : j = day := by omega
    subst hj
    rw [b_mo_ends_61]
    simp -implicitDefEqProofs (disch := first | assumption | omega) only [szS_0, szS_i, szS_r, szS_l, x_cons, x_goto, ob_some, kl_i, kl_r, kl_l, kl_n, push_n, push_s, pop_0, pop_i, pop_r, Int.reduceToNat, List.length_cons, List.length_nil, Nat.reduceAdd, Nat.reduceLeDiff, Nat.zero_add, true_and, nI_n0, nat_le, Nat.add_zero, i_1, i_m1, rt_mo_ends, x_al0, x_call, x_getf, x_goto, x_iaload, x_icge, x_icne, x_ifeq, x_iflt, x_ifne, x_il1, x_il2, x_il3, x_il4, x_inc3, x_inc4, x_iret, x_is2, x_is3, x_is4, x_isub, x_ldc, x_m1, x_popi, nI_slt, Nat.zero_lt_one, ↓reduceIte, b_mo_ends_85]
    exact H _
  | succ i ih =>
    intro j hj
    have hi := ih (j + 1) (by omega)
    have e1 : fst (fun e => alk (W e) (W day)) (j + 1) i = if alk (W i) (W day) = true then i else fst (fun e => alk (W e) (W day)) j (i + 1) := rfl
    have hl : ¬ i + 1 < 1 := by omega
    rw [b_mo_ends_61]
    simp -implicitDefEqProofs (disch := first | assumption | omega) only [szS_0, szS_i, szS_r, szS_l, x_cons, x_goto, ob_some, kl_i, kl_r, kl_l, kl_n, push_n, push_s, pop_0, pop_i, pop_r, Int.reduceToNat, List.length_cons, List.length_nil, Nat.reduceAdd, Nat.reduceLeDiff, Nat.zero_add, true_and, nI_n0, nat_le, Nat.add_zero, i_1, i_m1, rt_mo_ends, x_al0, x_call, x_getf, x_goto, x_iaload, x_icge, x_icne, x_ifeq, x_iflt, x_ifne, x_il1, x_il2, x_il3, x_il4, x_inc3, x_inc4, x_iret, x_is2, x_is3, x_is4, x_isub, x_ldc, x_m1, x_popi, nI_slt, hl, ↓reduceIte, nI_sub, Nat.add_sub_cancel, nI_ltE, Nat.not_lt_zero]
    rw [s_isAlike (by omega) hd (hB i (by omega)) (hB day (Nat.le_refl _))]
    simp -implicitDefEqProofs (disch := first | assumption | omega) only [szS_0, szS_i, szS_r, szS_l, x_cons, x_goto, ob_some, kl_i, kl_r, kl_l, kl_n, push_n, push_s, pop_0, pop_i, pop_r, Int.reduceToNat, List.length_cons, List.length_nil, Nat.reduceAdd, Nat.reduceLeDiff, Nat.zero_add, true_and, nI_n0, nat_le, Nat.add_zero, i_1, i_m1, rt_mo_ends, x_al0, x_call, x_getf, x_goto, x_iaload, x_icge, x_icne, x_ifeq, x_iflt, x_ifne, x_il1, x_il2, x_il3, x_il4, x_inc3, x_inc4, x_iret, x_is2, x_is3, x_is4, x_isub, x_ldc, x_m1, x_popi, bI_0]
    by_cases h : alk (W i) (W day) = false
    · rw [if_neg (by rw [h]; exact Bool.false_ne_true)] at e1
      rw [e1] at hi
      simp only [h, ↓reduceIte]
      simp -implicitDefEqProofs (disch := first | assumption | omega) only [szS_0, szS_i, szS_r, szS_l, x_cons, x_goto, ob_some, kl_i, kl_r, kl_l, kl_n, push_n, push_s, pop_0, pop_i, pop_r, Int.reduceToNat, List.length_cons, List.length_nil, Nat.reduceAdd, Nat.reduceLeDiff, Nat.zero_add, true_and, nI_n0, nat_le, Nat.add_zero, i_1, i_m1, rt_mo_ends, x_al0, x_call, x_getf, x_goto, x_iaload, x_icge, x_icne, x_ifeq, x_iflt, x_ifne, x_il1, x_il2, x_il3, x_il4, x_inc3, x_inc4, x_iret, x_is2, x_is3, x_is4, x_isub, x_ldc, x_m1, x_popi, b_mo_ends_79, addm1]
      exact hi
    · rw [Bool.not_eq_false] at h
      rw [if_pos h] at e1
      rw [e1, eN_n (by omega)] at hi
      simp only [h, Bool.true_eq_false, ↓reduceIte]
      try simp -implicitDefEqProofs (disch := first | assumption | omega) only [szS_0, szS_i, szS_r, szS_l, x_cons, x_goto, ob_some, kl_i, kl_r, kl_l, kl_n, push_n, push_s, pop_0, pop_i, pop_r, Int.reduceToNat, List.length_cons, List.length_nil, Nat.reduceAdd, Nat.reduceLeDiff, Nat.zero_add, true_and, nI_n0, nat_le, Nat.add_zero, i_1, i_m1, rt_mo_ends, x_al0, x_call, x_getf, x_goto, x_iaload, x_icge, x_icne, x_ifeq, x_iflt, x_ifne, x_il1, x_il2, x_il3, x_il4, x_inc3, x_inc4, x_iret, x_is2, x_is3, x_is4, x_isub, x_ldc, x_m1, x_popi, b_mo_ends_79, addm1]
      exact hi
theorem en_out {V M : LW} {w0 : Nat → Int32} (h0 : thI V M w0 w0) {v1 : Int32} {g0 : Nat → Nat → Int32} {r : Nat × Nat} (hr2 : r.2 ≤ 200) (H : ∀ g' o, FR [205, 206, 207, 208, 209, 210, 197] [30] g0 g' → thI V M w0 (g' 197) → wp (ev (d + 10)) P mo_ends 88 [some (.ref 196), some (.int v1), some (.int (eN r.1)), some (.int (nI r.2)), o] [] (E g' q)) :
    ∀ (j day : Nat) (g : Nat → Nat → Int32) (o : Option Value), day + j = 200 → enF (fun n => thN V M n w0) j day = r → g 197 = thN V M day w0 → (∀ e, e ≤ day → ∀ k, k < 320 → g 210 (320 * e + k) = thN V M e w0 (10 + k)) → FR [205, 206, 207, 208, 209, 210, 197] [30] g0 g →
    wp (ev (d + 10)) P mo_ends 24 [some (.ref 196), some (.int v1), some (.int (eN 999)), some (.int (nI day)), o] [] (E g q) := by
  intro j
  induction j with
  | zero =>
    intro day g o hd hE hg hB hr
    have hd : day = 200 := hd
    have hE : (999, day) = r := hE
    subst hd hE
    have e9 : eN 999 = -1 := if_pos rfl
    rw [b_mo_ends_24]
    simp -implicitDefEqProofs (disch := first | assumption | omega) only [szS_0, szS_i, szS_r, szS_l, x_cons, x_goto, ob_some, kl_i, kl_r, kl_l, kl_n, push_n, push_s, pop_0, pop_i, pop_r, Int.reduceToNat, List.length_cons, List.length_nil, Nat.reduceAdd, Nat.reduceLeDiff, Nat.zero_add, true_and, nI_n0, nat_le, Nat.add_zero, i_1, i_m1, rt_mo_ends, x_al0, x_call, x_getf, x_goto, x_iaload, x_icge, x_icne, x_ifeq, x_iflt, x_ifne, x_il1, x_il2, x_il3, x_il4, x_inc3, x_inc4, x_iret, x_is2, x_is3, x_is4, x_isub, x_ldc, x_m1, x_popi, eN_1, nI_ltE, Nat.lt_irrefl, ↓reduceIte]
    exact H g o hr (by rw [hg]; exact thN_I _ _ h0)
  | succ j ih =>
    intro day g o hd hE hg hB hr
    have hd' : day < 200 := by omega
    have hI : thI V M w0 (g 197) := by rw [hg]; exact thN_I _ _ h0
    have h6 := thI_0 hI
    rw [b_mo_ends_24]
    simp -implicitDefEqProofs (disch := first | assumption | omega) only [szS_0, szS_i, szS_r, szS_l, x_cons, x_goto, ob_some, kl_i, kl_r, kl_l, kl_n, push_n, push_s, pop_0, pop_i, pop_r, Int.reduceToNat, List.length_cons, List.length_nil, Nat.reduceAdd, Nat.reduceLeDiff, Nat.zero_add, true_and, nI_n0, nat_le, Nat.add_zero, i_1, i_m1, rt_mo_ends, x_al0, x_call, x_getf, x_goto, x_iaload, x_icge, x_icne, x_ifeq, x_iflt, x_ifne, x_il1, x_il2, x_il3, x_il4, x_inc3, x_inc4, x_iret, x_is2, x_is3, x_is4, x_isub, x_ldc, x_m1, x_popi, eN_1, nI_ltE, hd', ↓reduceIte, fd_196_0, fd_196_1, fd_196_2, fd_196_3, fd_196_4, sf_196_4, fd_196_5, sf_196_5, fd_196_6, fd_196_7, fd_196_8, fd_196_9, fd_196_10, fd_196_11, fd_196_12, sf_196_12, fd_196_13, sf_196_13, fd_196_14, sf_196_14, fd_196_15, sf_196_15, fd_196_16, sf_196_16, fd_196_17, sf_196_17, fd_196_18, sf_196_18, fd_196_19, sf_196_19, fd_196_20, sf_196_20, fd_196_21, sf_196_21, fd_196_22, sf_196_22, fd_196_23, sf_196_23, fd_196_24, sf_196_24, fd_196_25, sf_196_25, fd_196_26, sf_196_26, fd_196_27, fd_196_28, fd_196_29, fd_196_30, sf_196_30, fd_196_31, fd_196_32, fd_196_33, fd_196_34, fd_196_35, fd_196_36, fd_196_37, sf_196_37, fd_196_38, fd_196_39, sf_196_39, fd_196_40, sf_196_40, fd_196_41, sf_196_41, fd_196_42, fd_196_43, fd_196_44, ld_197, sd_197, ln_197, h6.1]
    refine s_aDay hI.1 hI.2.1 hI.2.2.1 h6.2 fun g1 f1 e1 => ?_
    have e1' : g1 197 = thN V M (day + 1) w0 := by rw [e1, hg, thN_a]
    simp -implicitDefEqProofs (disch := first | assumption | omega) only [szS_0, szS_i, szS_r, szS_l, x_cons, x_goto, ob_some, kl_i, kl_r, kl_l, kl_n, push_n, push_s, pop_0, pop_i, pop_r, Int.reduceToNat, List.length_cons, List.length_nil, Nat.reduceAdd, Nat.reduceLeDiff, Nat.zero_add, true_and, nI_n0, nat_le, Nat.add_zero, i_1, i_m1, rt_mo_ends, x_al0, x_call, x_getf, x_goto, x_iaload, x_icge, x_icne, x_ifeq, x_iflt, x_ifne, x_il1, x_il2, x_il3, x_il4, x_inc3, x_inc4, x_iret, x_is2, x_is3, x_is4, x_isub, x_ldc, x_m1, x_popi, nI_add]
    refine s_marks (by omega) fun b hb => ?_
    have e210 : g1 210 = g 210 := FR_a f1 rfl
    have hB2 : ∀ e, e ≤ day + 1 → ∀ k, k < 320 → upw g1 210 b 210 (320 * e + k) = thN V M e w0 (10 + k) := by
      intro e he k hk
      rw [upw_s, hb]
      by_cases ee : e = day + 1
      · subst ee
        rw [if_pos (by omega), e1']
        exact congrArg (thN V M (day + 1) w0) (by omega)
      · rw [if_neg (by omega), e210]
        exact hB e (by omega) k hk
    have hg2 : upw g1 210 b 197 = thN V M (day + 1) w0 := by rw [upw_o (by decide), e1']
    have f2 : FR [205, 206, 207, 208, 209, 210, 197] [30] g0 (upw g1 210 b) := FR_w rfl (FR_t hr (FR_m rfl rfl f1))
    have hE : (if fst (fun e => alk (thN V M e w0) (thN V M (day + 1) w0)) (day + 1) 0 = 999 then enF (fun n => thN V M n w0) j (day + 1) else (fst (fun e => alk (thN V M e w0) (thN V M (day + 1) w0)) (day + 1) 0, day + 1)) = r := hE
    simp -implicitDefEqProofs (disch := first | assumption | omega) only [szS_0, szS_i, szS_r, szS_l, x_cons, x_goto, ob_some, kl_i, kl_r, kl_l, kl_n, push_n, push_s, pop_0, pop_i, pop_r, Int.reduceToNat, List.length_cons, List.length_nil, Nat.reduceAdd, Nat.reduceLeDiff, Nat.zero_add, true_and, nI_n0, nat_le, Nat.add_zero, i_1, i_m1, rt_mo_ends, x_al0, x_call, x_getf, x_goto, x_iaload, x_icge, x_icne, x_ifeq, x_iflt, x_ifne, x_il1, x_il2, x_il3, x_il4, x_inc3, x_inc4, x_iret, x_is2, x_is3, x_is4, x_isub, x_ldc, x_m1, x_popi]
    refine en_in (W := fun e => thN V M e w0) (day := day + 1) (by omega) hB2 (fun o' => ?_) (day + 1) 0 (Nat.add_zero _)
    by_cases he : fst (fun e => alk (thN V M e w0) (thN V M (day + 1) w0)) (day + 1) 0 = 999
    · rw [if_pos he] at hE
      show wp _ _ _ _ [_, _, some (.int (eN (fst (fun e => alk (thN V M e w0) (thN V M (day + 1) w0)) (day + 1) 0))), _, _] _ _
      rw [he]
      exact ih (day + 1) _ o' (by omega) hE hg2 hB2 f2
    · rw [if_neg he] at hE
      subst hE
      show wp _ _ _ _ [_, _, some (.int (eN (fst (fun e => alk (thN V M e w0) (thN V M (day + 1) w0)) (day + 1) 0))), _, _] _ _
      have hfl := (fst_l (p := fun e => alk (thN V M e w0) (thN V M (day + 1) w0)) (day + 1) 0).resolve_left he
      rw [b_mo_ends_24]
      simp -implicitDefEqProofs (disch := first | assumption | omega) only [szS_0, szS_i, szS_r, szS_l, x_cons, x_goto, ob_some, kl_i, kl_r, kl_l, kl_n, push_n, push_s, pop_0, pop_i, pop_r, Int.reduceToNat, List.length_cons, List.length_nil, Nat.reduceAdd, Nat.reduceLeDiff, Nat.zero_add, true_and, nI_n0, nat_le, Nat.add_zero, i_1, i_m1, rt_mo_ends, x_al0, x_call, x_getf, x_goto, x_iaload, x_icge, x_icne, x_ifeq, x_iflt, x_ifne, x_il1, x_il2, x_il3, x_il4, x_inc3, x_inc4, x_iret, x_is2, x_is3, x_is4, x_isub, x_ldc, x_m1, x_popi, eN_1, he, ↓reduceIte]
      exact H _ o' f2 (by rw [hg2]; exact thN_I _ _ h0)
theorem enF_l {W : Nat → Nat → Int32} : ∀ (j day : Nat), (enF W j day).2 ≤ day + j ∧ ((enF W j day).1 = 999 ∨ (enF W j day).1 ≤ (enF W j day).2)
  | 0, day => ⟨Nat.le_refl _, Or.inl rfl⟩
  | j + 1, day => by
    have h1 := enF_l (W := W) j (day + 1)
    unfold enF
    split
    · exact ⟨by omega, h1.2⟩
    next e =>
      have := (fst_l (p := fun e => alk (W e) (W (day + 1))) (day + 1) 0).resolve_left e
      exact ⟨by show day + 1 ≤ _; omega, Or.inr (by show _ ≤ day + 1; omega)⟩
theorem s_ends (hw : WI (g 197)) {V M : LW} (hL : LK (g 197) 0 okV V) (hM : LK (g 197) 1 okM M) {k : Int32} (H : ∀ g', FR [200, 205, 206, 207, 208, 209, 210, 197] [30] g g' → g' 197 = g 197 → P (some (.int (endA V M (g 197) k))) (E g' q)) :
    callC (ev (d + 11)) mo_ends [.ref 196, .int k] (E g q) P := by
  refine in_mo_ends rfl ?_
  rw [b_mo_ends_0]
  simp -implicitDefEqProofs (disch := first | assumption | omega) only [szS_0, szS_i, szS_r, szS_l, x_cons, x_goto, ob_some, kl_i, kl_r, kl_l, kl_n, push_n, push_s, pop_0, pop_i, pop_r, Int.reduceToNat, List.length_cons, List.length_nil, Nat.reduceAdd, Nat.reduceLeDiff, Nat.zero_add, true_and, nI_n0, nat_le, Nat.add_zero, i_1, i_m1, rt_mo_ends, x_al0, x_call, x_getf, x_goto, x_iaload, x_icge, x_icne, x_ifeq, x_iflt, x_ifne, x_il1, x_il2, x_il3, x_il4, x_inc3, x_inc4, x_iret, x_is2, x_is3, x_is4, x_isub, x_ldc, x_m1, x_popi, s_isIn, bI_0]
  by_cases h1 : nI 0 ≤ k ∧ k ≤ nI 1
  · simp only [decide_eq_true h1, Bool.true_eq_false, ↓reduceIte]
    have hl := enF_l (W := fun n => thN V M n (th0 (g 197))) 200 0
    obtain ⟨r, hr⟩ : ∃ r, r = enF (fun n => thN V M n (th0 (g 197))) 200 0 := ⟨_, rfl⟩
    have eA : endA V M (g 197) k = if r.1 = 999 then -1 else if k = nI 0 then nI r.1 else nI (r.2 - r.1) := by
      unfold endA
      rw [if_pos (decide_eq_true h1), hr]
    rw [← hr] at hl
    rw [b_mo_ends_11]
    simp -implicitDefEqProofs (disch := first | assumption | omega) only [szS_0, szS_i, szS_r, szS_l, x_cons, x_goto, ob_some, kl_i, kl_r, kl_l, kl_n, push_n, push_s, pop_0, pop_i, pop_r, Int.reduceToNat, List.length_cons, List.length_nil, Nat.reduceAdd, Nat.reduceLeDiff, Nat.zero_add, true_and, nI_n0, nat_le, Nat.add_zero, i_1, i_m1, rt_mo_ends, x_al0, x_call, x_getf, x_goto, x_iaload, x_icge, x_icne, x_ifeq, x_iflt, x_ifne, x_il1, x_il2, x_il3, x_il4, x_inc3, x_inc4, x_iret, x_is2, x_is3, x_is4, x_isub, x_ldc, x_m1, x_popi]
    refine s_laysAside fun g1 f1 e1 el => ?_
    simp -implicitDefEqProofs (disch := first | assumption | omega) only [szS_0, szS_i, szS_r, szS_l, x_cons, x_goto, ob_some, kl_i, kl_r, kl_l, kl_n, push_n, push_s, pop_0, pop_i, pop_r, Int.reduceToNat, List.length_cons, List.length_nil, Nat.reduceAdd, Nat.reduceLeDiff, Nat.zero_add, true_and, nI_n0, nat_le, Nat.add_zero, i_1, i_m1, rt_mo_ends, x_al0, x_call, x_getf, x_goto, x_iaload, x_icge, x_icne, x_ifeq, x_iflt, x_ifne, x_il1, x_il2, x_il3, x_il4, x_inc3, x_inc4, x_iret, x_is2, x_is3, x_is4, x_isub, x_ldc, x_m1, x_popi]
    have hI := th0_I hw hL hM
    refine s_marks (by decide) fun b hb => ?_
    simp -implicitDefEqProofs (disch := first | assumption | omega) only [szS_0, szS_i, szS_r, szS_l, x_cons, x_goto, ob_some, kl_i, kl_r, kl_l, kl_n, push_n, push_s, pop_0, pop_i, pop_r, Int.reduceToNat, List.length_cons, List.length_nil, Nat.reduceAdd, Nat.reduceLeDiff, Nat.zero_add, true_and, nI_n0, nat_le, Nat.add_zero, i_1, i_m1, rt_mo_ends, x_al0, x_call, x_getf, x_goto, x_iaload, x_icge, x_icne, x_ifeq, x_iflt, x_ifne, x_il1, x_il2, x_il3, x_il4, x_inc3, x_inc4, x_iret, x_is2, x_is3, x_is4, x_isub, x_ldc, x_m1, x_popi]
    refine en_out hI (g0 := upw g1 210 b) (r := r) (by omega) (fun g2 o f2 hI2 => ?_) 200 0 _ none rfl hr.symm (by rw [upw_o (by decide)]; exact e1) (fun e he k hk => ?_) FR_r
    · rw [b_mo_ends_88]
      simp -implicitDefEqProofs (disch := first | assumption | omega) only [szS_0, szS_i, szS_r, szS_l, x_cons, x_goto, ob_some, kl_i, kl_r, kl_l, kl_n, push_n, push_s, pop_0, pop_i, pop_r, Int.reduceToNat, List.length_cons, List.length_nil, Nat.reduceAdd, Nat.reduceLeDiff, Nat.zero_add, true_and, nI_n0, nat_le, Nat.add_zero, i_1, i_m1, rt_mo_ends, x_al0, x_call, x_getf, x_goto, x_iaload, x_icge, x_icne, x_ifeq, x_iflt, x_ifne, x_il1, x_il2, x_il3, x_il4, x_inc3, x_inc4, x_iret, x_is2, x_is3, x_is4, x_isub, x_ldc, x_m1, x_popi]
      rw [s_putsBack (w := g 197) (fun k hk => by rw [FR_a f2 rfl, upw_o (by decide), el k hk]) (fun k hk => by rw [hI2.2.2.2.2.2.1 k hk]; exact pu_n (by omega))]
      have hr1 : r.1 < 2147483648 := by omega
      simp -implicitDefEqProofs (disch := first | assumption | omega) only [szS_0, szS_i, szS_r, szS_l, x_cons, x_goto, ob_some, kl_i, kl_r, kl_l, kl_n, push_n, push_s, pop_0, pop_i, pop_r, Int.reduceToNat, List.length_cons, List.length_nil, Nat.reduceAdd, Nat.reduceLeDiff, Nat.zero_add, true_and, nI_n0, nat_le, Nat.add_zero, i_1, i_m1, rt_mo_ends, x_al0, x_call, x_getf, x_goto, x_iaload, x_icge, x_icne, x_ifeq, x_iflt, x_ifne, x_il1, x_il2, x_il3, x_il4, x_inc3, x_inc4, x_iret, x_is2, x_is3, x_is4, x_isub, x_ldc, x_m1, x_popi, eN_1]
      have := H (upw g2 197 (g 197)) (FR_w rfl (FR_t (FR_w rfl (FR_f rfl f1)) (FR_m rfl rfl f2))) upw_s
      rw [eA] at this
      by_cases h9 : r.1 = 999
      · rw [if_pos h9] at this
        simp only [h9, ↓reduceIte]
        try simp -implicitDefEqProofs (disch := first | assumption | omega) only [szS_0, szS_i, szS_r, szS_l, x_cons, x_goto, ob_some, kl_i, kl_r, kl_l, kl_n, push_n, push_s, pop_0, pop_i, pop_r, Int.reduceToNat, List.length_cons, List.length_nil, Nat.reduceAdd, Nat.reduceLeDiff, Nat.zero_add, true_and, nI_n0, nat_le, Nat.add_zero, i_1, i_m1, rt_mo_ends, x_al0, x_call, x_getf, x_goto, x_iaload, x_icge, x_icne, x_ifeq, x_iflt, x_ifne, x_il1, x_il2, x_il3, x_il4, x_inc3, x_inc4, x_iret, x_is2, x_is3, x_is4, x_isub, x_ldc, x_m1, x_popi, b_mo_ends_112]
        exact this
      · rw [if_neg h9] at this
        have hl2 := hl.2.resolve_left h9
        simp only [h9, ↓reduceIte]
        rw [eN_n h9]
        by_cases hk : k = nI 0
        · rw [if_pos hk] at this
          simp -implicitDefEqProofs (disch := first | assumption | omega) only [b_mo_ends_101, b_mo_ends_112, szS_0, szS_i, szS_r, szS_l, x_cons, x_goto, ob_some, kl_i, kl_r, kl_l, kl_n, push_n, push_s, pop_0, pop_i, pop_r, Int.reduceToNat, List.length_cons, List.length_nil, Nat.reduceAdd, Nat.reduceLeDiff, Nat.zero_add, true_and, nI_n0, nat_le, Nat.add_zero, i_1, i_m1, rt_mo_ends, x_al0, x_call, x_getf, x_goto, x_iaload, x_icge, x_icne, x_ifeq, x_iflt, x_ifne, x_il1, x_il2, x_il3, x_il4, x_inc3, x_inc4, x_iret, x_is2, x_is3, x_is4, x_isub, x_ldc, x_m1, x_popi, hk, ↓reduceIte]
          exact this
        · rw [if_neg hk] at this
          simp -implicitDefEqProofs (disch := first | assumption | omega) only [b_mo_ends_101, b_mo_ends_109, b_mo_ends_112, szS_0, szS_i, szS_r, szS_l, x_cons, x_goto, ob_some, kl_i, kl_r, kl_l, kl_n, push_n, push_s, pop_0, pop_i, pop_r, Int.reduceToNat, List.length_cons, List.length_nil, Nat.reduceAdd, Nat.reduceLeDiff, Nat.zero_add, true_and, nI_n0, nat_le, Nat.add_zero, i_1, i_m1, rt_mo_ends, x_al0, x_call, x_getf, x_goto, x_iaload, x_icge, x_icne, x_ifeq, x_iflt, x_ifne, x_il1, x_il2, x_il3, x_il4, x_inc3, x_inc4, x_iret, x_is2, x_is3, x_is4, x_isub, x_ldc, x_m1, x_popi, hk, ↓reduceIte, nI_sub]
          exact this
    · have he : e = 0 := by omega
      subst he
      rw [upw_s, hb, if_pos (by omega), e1]
      show _ = th0 (g 197) (10 + k)
      exact congrArg (th0 (g 197)) (by omega)
  · simp only [decide_eq_false h1, ↓reduceIte]
    try simp -implicitDefEqProofs (disch := first | assumption | omega) only [szS_0, szS_i, szS_r, szS_l, x_cons, x_goto, ob_some, kl_i, kl_r, kl_l, kl_n, push_n, push_s, pop_0, pop_i, pop_r, Int.reduceToNat, List.length_cons, List.length_nil, Nat.reduceAdd, Nat.reduceLeDiff, Nat.zero_add, true_and, nI_n0, nat_le, Nat.add_zero, i_1, i_m1, rt_mo_ends, x_al0, x_call, x_getf, x_goto, x_iaload, x_icge, x_icne, x_ifeq, x_iflt, x_ifne, x_il1, x_il2, x_il3, x_il4, x_inc3, x_inc4, x_iret, x_is2, x_is3, x_is4, x_isub, x_ldc, x_m1, x_popi]
    have := H g FR_r rfl
    unfold endA at this
    rw [decide_eq_false h1, if_neg Bool.false_ne_true] at this
    exact this
end MO
