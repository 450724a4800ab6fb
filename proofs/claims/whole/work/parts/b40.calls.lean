/-! the reference's plain calls -/
theorem int_in {x : Int32} {a b : Nat} (h : nI a ≤ x ∧ x ≤ nI b) (ha : a < 2147483648) (hb : b < 2147483648) : ∃ k, a ≤ k ∧ k ≤ b ∧ x = nI k := by
  have h1 := h.1
  have h2 := h.2
  rw [leE, nI_I ha] at h1
  rw [leE, nI_I hb] at h2
  refine ⟨x.toInt.toNat, by omega, by omega, ?_⟩
  rw [eqE, nI_I (by omega)]
  omega
theorem armB_ex {w : Nat → Int32} (h : WI w) {n a : Int32} (hn : armB w n a = true) : ∃ f k, f < nn w ∧ n = nI f ∧ fd w f 0 = 0 ∧ k < am w f ∧ a = nI k := by
  unfold armB at hn
  rw [Bool.and_eq_true] at hn
  obtain ⟨f, hf, rfl, h0⟩ := forkB_ex h hn.1
  have h1 := of_decide_eq_true hn.2
  have hN := wi_n h
  have hb := (NI_nb (wi_f h (n := f) (by omega))).2.2.2.1 hf
  have h2 := (hb.1 h0).1
  rw [ix_nI (by omega), show 11 + 20 * f = 10 + 20 * f + 1 by omega, (wi_1 h (n := f) (by omega)).1, nI_sub (by omega)] at h1
  have h3 := am_le h (n := f) (by omega)
  have h3 : fd w f 1 ≤ 3 := h3
  obtain ⟨k, _, hk, e⟩ := int_in h1 (by decide) (by omega)
  exact ⟨f, k, hf, rfl, h0, by unfold am; omega, e⟩
theorem am_2 {w : Nat → Int32} (h : WI w) {f : Nat} (hf : f < nn w) (h0 : fd w f 0 = 0) : 2 ≤ am w f := by
  have hN := wi_n h
  have hb := (NI_nb (wi_f h (n := f) (by omega))).2.2.2.1 hf
  exact (hb.1 h0).1
theorem bne_f {b : Bool} (h : ¬ b = true) : b = false := by
  cases b
  · rfl
  · exact absurd rfl h
theorem bne_t {b : Bool} (h : ¬ b = false) : b = true := by
  cases b
  · exact absurd rfl h
  · rfl
def setB (k v : Int32) : Bool := decide (nI 0 ≤ k ∧ k ≤ nI 3) && decide (nI 0 ≤ v ∧ v ≤ (if k = nI 0 then nI 999 else if k = nI 1 then nI 33 else nI 1000))
def buyB (w : Nat → Int32) (f a n : Int32) : Bool := armB w f a && decide (nI 0 ≤ n ∧ n ≤ nI 999)
def digB (w : Nat → Int32) (f a t : Int32) : Bool := armB w f a && decide (f + nI 1 ≤ t ∧ t ≤ w 0 - nI 1)
def tnB (w : Nat → Int32) (t k v : Int32) : Bool := townB w t && ((decide (k = nI 0) && decide (nI 0 ≤ v ∧ v ≤ nI 9999)) || (decide (k = nI 1) && decide (nI 1 ≤ v ∧ v ≤ nI 999)) || (decide (k = nI 2) && decide (nI 0 ≤ v ∧ v ≤ nI 9)) || (decide (k = nI 3) && decide (nI 0 ≤ v ∧ v ≤ nI 50 * w (10 + 20 * ix t + 15))))
def tnR (w : Nat → Int32) (t k v : Int32) : Nat → Int32 :=
  if k = nI 0 then pu w (10 + 20 * ix t + 10) v else if k = nI 1 then pu w (10 + 20 * ix t + 11) v
  else if k = nI 2 then pu (pu w (10 + 20 * ix t + 15) v) (10 + 20 * ix t + 16) (if w (10 + 20 * ix t + 16) < nI 50 * v then w (10 + 20 * ix t + 16) else nI 50 * v)
  else pu w (10 + 20 * ix t + 16) v
def ndA (w : Nat → Int32) (n k : Int32) : Int32 := if nodeB w n = true then (if nI 0 ≤ k ∧ k ≤ nI 1 then w (10 + 20 * ix n + ix k) else if nI 10 ≤ k ∧ k ≤ nI 9 + w (10 + 20 * ix n + 1) then w (10 + 20 * ix n + (2 + (ix k - 10))) else -1) else -1
def fkA (V : LW) (w : Nat → Int32) (n k : Int32) : Int32 := if forkB w n = true then (if k = nI 0 then w (10 + 20 * ix n + 5) else if k = nI 1 then w (10 + 20 * ix n + 6) else if nI 10 ≤ k ∧ k ≤ nI 9 + w (10 + 20 * ix n + 1) then nI (vfor V w (ix n) (ix k - 10)) else if nI 20 ≤ k ∧ k ≤ nI 19 + w (10 + 20 * ix n + 1) then w (10 + 20 * ix n + (7 + (ix k - 20))) else -1) else -1
def ofA (M : LW) (w : Nat → Int32) (t k : Int32) : Int32 := if (townB w t && decide (nI 0 ≤ k ∧ k ≤ nI 8)) = true then (if k = nI 8 then nI (mv M w (ix t)) else w (10 + 20 * ix t + tfd (ix k))) else -1
def vtA (V : LW) (w : Nat → Int32) (t f a : Int32) : Int32 := if (townB w t && armB w f a) = true then nI (vt V w (ix t) (ix f) (ix a)) else -1
def caA (w : Nat → Int32) (i j : Int32) : Int32 := if (nodeB w i && nodeB w j) = true then w (340 + 16 * ix i + ix j) else -1
def bkA (w : Nat → Int32) (i k : Int32) : Int32 := if (decide (nI 0 ≤ i ∧ i ≤ w 2 - nI 1) && decide (nI 0 ≤ k ∧ k ≤ nI 3)) = true then w (600 + 4 * ix i + ix k) else -1
def twA (w : Nat → Int32) (f : Int32) : Int32 := if forkB w f = true then nI (twc w (ix f)) else -1
section MP
variable {d : Nat} {g : Nat → Nat → Int32} {q : Nat → Nat → Int64} {P : QT}
theorem s_mstate {v : Int32} : callC (ev (d + 2)) mo_state [.ref 196, .int v] (E g q) P = P (some (.int (g 197 5))) (E (upw (upw g 197 (pu (g 197) 5 v)) 196 (pu (g 196) 4 (nI 0))) q) := by
  refine call_eq (in_mo_state rfl ?_)
  simp -implicitDefEqProofs (disch := first | assumption | omega) only [szS_0, szS_i, szS_r, szS_l, x_cons, x_goto, ob_some, kl_i, kl_r, kl_l, kl_n, push_n, push_s, pop_0, pop_i, pop_r, Int.reduceToNat, List.length_cons, List.length_nil, Nat.reduceAdd, Nat.reduceLeDiff, Nat.zero_add, true_and, nI_n0, nat_le, Nat.add_zero, rt_mo_state, x_al0, x_call, x_getf, x_iaload, x_iastore, x_il1, x_il2, x_iret, x_is2, x_ldc, b_mo_state_0, fd_196_0, fd_196_1, fd_196_2, fd_196_3, fd_196_4, sf_196_4, fd_196_5, sf_196_5, fd_196_6, fd_196_7, fd_196_8, fd_196_9, fd_196_10, fd_196_11, fd_196_12, sf_196_12, fd_196_13, sf_196_13, fd_196_14, sf_196_14, fd_196_15, sf_196_15, fd_196_16, sf_196_16, fd_196_17, sf_196_17, fd_196_18, sf_196_18, fd_196_19, sf_196_19, fd_196_20, sf_196_20, fd_196_21, sf_196_21, fd_196_22, sf_196_22, fd_196_23, sf_196_23, fd_196_24, sf_196_24, fd_196_25, sf_196_25, fd_196_26, sf_196_26, fd_196_27, fd_196_28, fd_196_29, fd_196_30, sf_196_30, fd_196_31, fd_196_32, fd_196_33, fd_196_34, fd_196_35, fd_196_36, fd_196_37, sf_196_37, fd_196_38, fd_196_39, sf_196_39, fd_196_40, sf_196_40, fd_196_41, sf_196_41, fd_196_42, fd_196_43, fd_196_44, ld_197, sd_197, ln_197, s_forgets, pu_g, upw_o]
  all_goals first | rfl | exact ⟨rfl, rfl⟩ | exact ⟨rfl, trivial⟩ | exact ⟨trivial, rfl⟩ | trivial
theorem s_mset0 {k v : Int32} (h : setB k v = false) : callC (ev (d + 2)) mo_set [.ref 196, .int k, .int v] (E g q) P = P (some (.int (nI 0))) (E g q) := by
  refine call_eq (in_mo_set rfl ?_)
  have no : wp (ev (d + 1)) (fun r1 h1 => r1 = some (.int (nI 0)) ∧ h1 = E g q) mo_set 40 [some (.ref 196), some (.int k), some (.int v)] [] (E g q) := by
    rw [b_mo_set_40]
    simp -implicitDefEqProofs (disch := first | assumption | omega) only [szS_0, szS_i, szS_r, szS_l, x_cons, x_goto, ob_some, kl_i, kl_r, kl_l, kl_n, push_n, push_s, pop_0, pop_i, pop_r, Int.reduceToNat, List.length_cons, List.length_nil, Nat.reduceAdd, Nat.reduceLeDiff, Nat.zero_add, true_and, nI_n0, nat_le, Nat.add_zero, rt_mo_set_0, rt_mo_set_1, rt_mo_set_b, x_al0, x_call, x_getf, x_goto, x_iadd, x_iastore, x_icne, x_ifeq, x_ifne, x_il1, x_il2, x_iret, x_ldc]
    all_goals first | rfl | exact ⟨rfl, rfl⟩ | exact ⟨rfl, trivial⟩ | exact ⟨trivial, rfl⟩ | trivial
  rw [b_mo_set_0]
  simp -implicitDefEqProofs (disch := first | assumption | omega) only [szS_0, szS_i, szS_r, szS_l, x_cons, x_goto, ob_some, kl_i, kl_r, kl_l, kl_n, push_n, push_s, pop_0, pop_i, pop_r, Int.reduceToNat, List.length_cons, List.length_nil, Nat.reduceAdd, Nat.reduceLeDiff, Nat.zero_add, true_and, nI_n0, nat_le, Nat.add_zero, rt_mo_set_0, rt_mo_set_1, rt_mo_set_b, x_al0, x_call, x_getf, x_goto, x_iadd, x_iastore, x_icne, x_ifeq, x_ifne, x_il1, x_il2, x_iret, x_ldc, s_isIn, bI_0]
  unfold setB at h
  by_cases h1 : nI 0 ≤ k ∧ k ≤ nI 3
  · rw [decide_eq_true h1, Bool.true_and] at h
    simp only [decide_eq_true h1, Bool.true_eq_false, ↓reduceIte]
    by_cases k0 : k = nI 0
    · rw [if_pos k0] at h
      simp only [k0, ↓reduceIte]
      simp -implicitDefEqProofs (disch := first | assumption | omega) only [szS_0, szS_i, szS_r, szS_l, x_cons, x_goto, ob_some, kl_i, kl_r, kl_l, kl_n, push_n, push_s, pop_0, pop_i, pop_r, Int.reduceToNat, List.length_cons, List.length_nil, Nat.reduceAdd, Nat.reduceLeDiff, Nat.zero_add, true_and, nI_n0, nat_le, Nat.add_zero, rt_mo_set_0, rt_mo_set_1, rt_mo_set_b, x_al0, x_call, x_getf, x_goto, x_iadd, x_iastore, x_icne, x_ifeq, x_ifne, x_il1, x_il2, x_iret, x_ldc, b_mo_set_34, s_isIn, h, bI_0, ↓reduceIte]
      rw [k0] at no
      exact no
    · rw [if_neg k0] at h
      simp only [k0, ↓reduceIte]
      simp -implicitDefEqProofs (disch := first | assumption | omega) only [b_mo_set_21, szS_0, szS_i, szS_r, szS_l, x_cons, x_goto, ob_some, kl_i, kl_r, kl_l, kl_n, push_n, push_s, pop_0, pop_i, pop_r, Int.reduceToNat, List.length_cons, List.length_nil, Nat.reduceAdd, Nat.reduceLeDiff, Nat.zero_add, true_and, nI_n0, nat_le, Nat.add_zero, rt_mo_set_0, rt_mo_set_1, rt_mo_set_b, x_al0, x_call, x_getf, x_goto, x_iadd, x_iastore, x_icne, x_ifeq, x_ifne, x_il1, x_il2, x_iret, x_ldc]
      by_cases k1 : k = nI 1
      · rw [if_pos k1] at h
        simp only [k1, ↓reduceIte]
        simp -implicitDefEqProofs (disch := first | assumption | omega) only [szS_0, szS_i, szS_r, szS_l, x_cons, x_goto, ob_some, kl_i, kl_r, kl_l, kl_n, push_n, push_s, pop_0, pop_i, pop_r, Int.reduceToNat, List.length_cons, List.length_nil, Nat.reduceAdd, Nat.reduceLeDiff, Nat.zero_add, true_and, nI_n0, nat_le, Nat.add_zero, rt_mo_set_0, rt_mo_set_1, rt_mo_set_b, x_al0, x_call, x_getf, x_goto, x_iadd, x_iastore, x_icne, x_ifeq, x_ifne, x_il1, x_il2, x_iret, x_ldc, b_mo_set_34, s_isIn, h, bI_0, ↓reduceIte]
        rw [k1] at no
        exact no
      · rw [if_neg k1] at h
        simp only [k1, ↓reduceIte]
        simp -implicitDefEqProofs (disch := first | assumption | omega) only [szS_0, szS_i, szS_r, szS_l, x_cons, x_goto, ob_some, kl_i, kl_r, kl_l, kl_n, push_n, push_s, pop_0, pop_i, pop_r, Int.reduceToNat, List.length_cons, List.length_nil, Nat.reduceAdd, Nat.reduceLeDiff, Nat.zero_add, true_and, nI_n0, nat_le, Nat.add_zero, rt_mo_set_0, rt_mo_set_1, rt_mo_set_b, x_al0, x_call, x_getf, x_goto, x_iadd, x_iastore, x_icne, x_ifeq, x_ifne, x_il1, x_il2, x_iret, x_ldc, b_mo_set_31, b_mo_set_34, s_isIn, h, bI_0, ↓reduceIte]
        exact no
  · simp only [decide_eq_false h1, ↓reduceIte]
    exact no
theorem s_mset {k : Nat} {v : Int32} (hk : k < 4) (h : setB (nI k) v = true) : callC (ev (d + 2)) mo_set [.ref 196, .int (nI k), .int v] (E g q) P = P (some (.int (nI 1))) (E (upw (upw g 197 (pu (g 197) (6 + k) v)) 196 (pu (g 196) 4 (nI 0))) q) := by
  refine call_eq (in_mo_set rfl ?_)
  have yes : wp (ev (d + 1)) (fun r1 h1 => r1 = some (.int (nI 1)) ∧ h1 = E (upw (upw g 197 (pu (g 197) (6 + k) v)) 196 (pu (g 196) 4 (nI 0))) q) mo_set 42 [some (.ref 196), some (.int (nI k)), some (.int v)] [] (E g q) := by
    rw [b_mo_set_42]
    simp -implicitDefEqProofs (disch := first | assumption | omega) only [szS_0, szS_i, szS_r, szS_l, x_cons, x_goto, ob_some, kl_i, kl_r, kl_l, kl_n, push_n, push_s, pop_0, pop_i, pop_r, Int.reduceToNat, List.length_cons, List.length_nil, Nat.reduceAdd, Nat.reduceLeDiff, Nat.zero_add, true_and, nI_n0, nat_le, Nat.add_zero, rt_mo_set_0, rt_mo_set_1, rt_mo_set_b, x_al0, x_call, x_getf, x_goto, x_iadd, x_iastore, x_icne, x_ifeq, x_ifne, x_il1, x_il2, x_iret, x_ldc, fd_196_0, fd_196_1, fd_196_2, fd_196_3, fd_196_4, sf_196_4, fd_196_5, sf_196_5, fd_196_6, fd_196_7, fd_196_8, fd_196_9, fd_196_10, fd_196_11, fd_196_12, sf_196_12, fd_196_13, sf_196_13, fd_196_14, sf_196_14, fd_196_15, sf_196_15, fd_196_16, sf_196_16, fd_196_17, sf_196_17, fd_196_18, sf_196_18, fd_196_19, sf_196_19, fd_196_20, sf_196_20, fd_196_21, sf_196_21, fd_196_22, sf_196_22, fd_196_23, sf_196_23, fd_196_24, sf_196_24, fd_196_25, sf_196_25, fd_196_26, sf_196_26, fd_196_27, fd_196_28, fd_196_29, fd_196_30, sf_196_30, fd_196_31, fd_196_32, fd_196_33, fd_196_34, fd_196_35, fd_196_36, fd_196_37, sf_196_37, fd_196_38, fd_196_39, sf_196_39, fd_196_40, sf_196_40, fd_196_41, sf_196_41, fd_196_42, fd_196_43, fd_196_44, ld_197, sd_197, ln_197, nI_add, s_forgets, pu_g, upw_o]
    all_goals first | rfl | exact ⟨rfl, rfl⟩ | exact ⟨rfl, trivial⟩ | exact ⟨trivial, rfl⟩ | trivial
  rw [b_mo_set_0]
  unfold setB at h
  rw [Bool.and_eq_true] at h
  have h2 := h.2
  simp -implicitDefEqProofs (disch := first | assumption | omega) only [szS_0, szS_i, szS_r, szS_l, x_cons, x_goto, ob_some, kl_i, kl_r, kl_l, kl_n, push_n, push_s, pop_0, pop_i, pop_r, Int.reduceToNat, List.length_cons, List.length_nil, Nat.reduceAdd, Nat.reduceLeDiff, Nat.zero_add, true_and, nI_n0, nat_le, Nat.add_zero, rt_mo_set_0, rt_mo_set_1, rt_mo_set_b, x_al0, x_call, x_getf, x_goto, x_iadd, x_iastore, x_icne, x_ifeq, x_ifne, x_il1, x_il2, x_iret, x_ldc, s_isIn, bI_0, h.1, Bool.true_eq_false, ↓reduceIte]
  by_cases k0 : nI k = nI 0
  · rw [if_pos k0] at h2
    simp only [k0, ↓reduceIte]
    simp -implicitDefEqProofs (disch := first | assumption | omega) only [szS_0, szS_i, szS_r, szS_l, x_cons, x_goto, ob_some, kl_i, kl_r, kl_l, kl_n, push_n, push_s, pop_0, pop_i, pop_r, Int.reduceToNat, List.length_cons, List.length_nil, Nat.reduceAdd, Nat.reduceLeDiff, Nat.zero_add, true_and, nI_n0, nat_le, Nat.add_zero, rt_mo_set_0, rt_mo_set_1, rt_mo_set_b, x_al0, x_call, x_getf, x_goto, x_iadd, x_iastore, x_icne, x_ifeq, x_ifne, x_il1, x_il2, x_iret, x_ldc, b_mo_set_34, s_isIn, h2, bI_0, Bool.true_eq_false, ↓reduceIte]
    rw [k0] at yes
    exact yes
  · rw [if_neg k0] at h2
    simp only [k0, ↓reduceIte]
    simp -implicitDefEqProofs (disch := first | assumption | omega) only [b_mo_set_21, szS_0, szS_i, szS_r, szS_l, x_cons, x_goto, ob_some, kl_i, kl_r, kl_l, kl_n, push_n, push_s, pop_0, pop_i, pop_r, Int.reduceToNat, List.length_cons, List.length_nil, Nat.reduceAdd, Nat.reduceLeDiff, Nat.zero_add, true_and, nI_n0, nat_le, Nat.add_zero, rt_mo_set_0, rt_mo_set_1, rt_mo_set_b, x_al0, x_call, x_getf, x_goto, x_iadd, x_iastore, x_icne, x_ifeq, x_ifne, x_il1, x_il2, x_iret, x_ldc]
    by_cases k1 : nI k = nI 1
    · rw [if_pos k1] at h2
      simp only [k1, ↓reduceIte]
      simp -implicitDefEqProofs (disch := first | assumption | omega) only [szS_0, szS_i, szS_r, szS_l, x_cons, x_goto, ob_some, kl_i, kl_r, kl_l, kl_n, push_n, push_s, pop_0, pop_i, pop_r, Int.reduceToNat, List.length_cons, List.length_nil, Nat.reduceAdd, Nat.reduceLeDiff, Nat.zero_add, true_and, nI_n0, nat_le, Nat.add_zero, rt_mo_set_0, rt_mo_set_1, rt_mo_set_b, x_al0, x_call, x_getf, x_goto, x_iadd, x_iastore, x_icne, x_ifeq, x_ifne, x_il1, x_il2, x_iret, x_ldc, b_mo_set_34, s_isIn, h2, bI_0, Bool.true_eq_false, ↓reduceIte]
      rw [k1] at yes
      exact yes
    · rw [if_neg k1] at h2
      simp only [k1, ↓reduceIte]
      simp -implicitDefEqProofs (disch := first | assumption | omega) only [szS_0, szS_i, szS_r, szS_l, x_cons, x_goto, ob_some, kl_i, kl_r, kl_l, kl_n, push_n, push_s, pop_0, pop_i, pop_r, Int.reduceToNat, List.length_cons, List.length_nil, Nat.reduceAdd, Nat.reduceLeDiff, Nat.zero_add, true_and, nI_n0, nat_le, Nat.add_zero, rt_mo_set_0, rt_mo_set_1, rt_mo_set_b, x_al0, x_call, x_getf, x_goto, x_iadd, x_iastore, x_icne, x_ifeq, x_ifne, x_il1, x_il2, x_iret, x_ldc, b_mo_set_31, b_mo_set_34, s_isIn, h2, bI_0, Bool.true_eq_false, ↓reduceIte]
      exact yes
theorem s_mbuy0 (hw : WI (g 197)) {f a n : Int32} (h : buyB (g 197) f a n = false) : callC (ev (d + 5)) mo_buy [.ref 196, .int f, .int a, .int n] (E g q) P = P (some (.int (nI 0))) (E g q) := by
  refine call_eq (in_mo_buy rfl ?_)
  unfold buyB at h
  rw [b_mo_buy_0]
  simp -implicitDefEqProofs (disch := first | assumption | omega) only [szS_0, szS_i, szS_r, szS_l, x_cons, x_goto, ob_some, kl_i, kl_r, kl_l, kl_n, push_n, push_s, pop_0, pop_i, pop_r, Int.reduceToNat, List.length_cons, List.length_nil, Nat.reduceAdd, Nat.reduceLeDiff, Nat.zero_add, true_and, nI_n0, nat_le, Nat.add_zero, rt_mo_buy_0, rt_mo_buy_1, rt_mo_buy_b, x_al0, x_call, x_iadd, x_ifeq, x_ifne, x_il1, x_il2, x_il3, x_iret, x_ldc, s_isArm, s_isIn, bI_0]
  by_cases h1 : armB (g 197) f a = false
  · simp -implicitDefEqProofs (disch := first | assumption | omega) only [h1, ↓reduceIte, b_mo_buy_20, szS_0, szS_i, szS_r, szS_l, x_cons, x_goto, ob_some, kl_i, kl_r, kl_l, kl_n, push_n, push_s, pop_0, pop_i, pop_r, Int.reduceToNat, List.length_cons, List.length_nil, Nat.reduceAdd, Nat.reduceLeDiff, Nat.zero_add, true_and, nI_n0, nat_le, Nat.add_zero, rt_mo_buy_0, rt_mo_buy_1, rt_mo_buy_b, x_al0, x_call, x_iadd, x_ifeq, x_ifne, x_il1, x_il2, x_il3, x_iret, x_ldc]
    all_goals first | rfl | exact ⟨rfl, rfl⟩ | exact ⟨rfl, trivial⟩ | exact ⟨trivial, rfl⟩ | trivial
  · rw [bne_t h1, Bool.true_and] at h
    simp -implicitDefEqProofs (disch := first | assumption | omega) only [bne_t h1, h, Bool.true_eq_false, ↓reduceIte, b_mo_buy_20, szS_0, szS_i, szS_r, szS_l, x_cons, x_goto, ob_some, kl_i, kl_r, kl_l, kl_n, push_n, push_s, pop_0, pop_i, pop_r, Int.reduceToNat, List.length_cons, List.length_nil, Nat.reduceAdd, Nat.reduceLeDiff, Nat.zero_add, true_and, nI_n0, nat_le, Nat.add_zero, rt_mo_buy_0, rt_mo_buy_1, rt_mo_buy_b, x_al0, x_call, x_iadd, x_ifeq, x_ifne, x_il1, x_il2, x_il3, x_iret, x_ldc]
    all_goals first | rfl | exact ⟨rfl, rfl⟩ | exact ⟨rfl, trivial⟩ | exact ⟨trivial, rfl⟩ | trivial
theorem s_mbuy (hw : WI (g 197)) {f a : Nat} {n : Int32} (hf : f < 16) (ha : a < 3) (h : buyB (g 197) (nI f) (nI a) n = true) : callC (ev (d + 5)) mo_buy [.ref 196, .int (nI f), .int (nI a), .int n] (E g q) P = P (some (.int (nI 1))) (E (upw (upw g 197 (pu (g 197) (10 + 20 * f + (7 + a)) n)) 196 (pu (g 196) 4 (nI 0))) q) := by
  refine call_eq (in_mo_buy rfl ?_)
  unfold buyB at h
  rw [Bool.and_eq_true] at h
  rw [b_mo_buy_0]
  simp -implicitDefEqProofs (disch := first | assumption | omega) only [szS_0, szS_i, szS_r, szS_l, x_cons, x_goto, ob_some, kl_i, kl_r, kl_l, kl_n, push_n, push_s, pop_0, pop_i, pop_r, Int.reduceToNat, List.length_cons, List.length_nil, Nat.reduceAdd, Nat.reduceLeDiff, Nat.zero_add, true_and, nI_n0, nat_le, Nat.add_zero, rt_mo_buy_0, rt_mo_buy_1, rt_mo_buy_b, x_al0, x_call, x_iadd, x_ifeq, x_ifne, x_il1, x_il2, x_il3, x_iret, x_ldc, s_isArm, s_isIn, bI_0, h.1, h.2, Bool.true_eq_false, ↓reduceIte, b_mo_buy_22, nI_add, s_gives, s_forgets, pu_g, upw_o]
  all_goals first | rfl | exact ⟨rfl, rfl⟩ | exact ⟨rfl, trivial⟩ | exact ⟨trivial, rfl⟩ | trivial
theorem s_mdig0 (hw : WI (g 197)) {f a t : Int32} (h : digB (g 197) f a t = false) : callC (ev (d + 5)) mo_dig [.ref 196, .int f, .int a, .int t] (E g q) P = P (some (.int (nI 0))) (E g q) := by
  refine call_eq (in_mo_dig rfl ?_)
  unfold digB at h
  rw [b_mo_dig_0]
  simp -implicitDefEqProofs (disch := first | assumption | omega) only [szS_0, szS_i, szS_r, szS_l, x_cons, x_goto, ob_some, kl_i, kl_r, kl_l, kl_n, push_n, push_s, pop_0, pop_i, pop_r, Int.reduceToNat, List.length_cons, List.length_nil, Nat.reduceAdd, Nat.reduceLeDiff, Nat.zero_add, true_and, nI_n0, nat_le, Nat.add_zero, rt_mo_dig_0, rt_mo_dig_1, rt_mo_dig_b, x_al0, x_call, x_getf, x_iadd, x_iaload, x_ifeq, x_ifne, x_il1, x_il2, x_il3, x_iret, x_isub, x_ldc, fd_196_0, fd_196_1, fd_196_2, fd_196_3, fd_196_4, sf_196_4, fd_196_5, sf_196_5, fd_196_6, fd_196_7, fd_196_8, fd_196_9, fd_196_10, fd_196_11, fd_196_12, sf_196_12, fd_196_13, sf_196_13, fd_196_14, sf_196_14, fd_196_15, sf_196_15, fd_196_16, sf_196_16, fd_196_17, sf_196_17, fd_196_18, sf_196_18, fd_196_19, sf_196_19, fd_196_20, sf_196_20, fd_196_21, sf_196_21, fd_196_22, sf_196_22, fd_196_23, sf_196_23, fd_196_24, sf_196_24, fd_196_25, sf_196_25, fd_196_26, sf_196_26, fd_196_27, fd_196_28, fd_196_29, fd_196_30, sf_196_30, fd_196_31, fd_196_32, fd_196_33, fd_196_34, fd_196_35, fd_196_36, fd_196_37, sf_196_37, fd_196_38, fd_196_39, sf_196_39, fd_196_40, sf_196_40, fd_196_41, sf_196_41, fd_196_42, fd_196_43, fd_196_44, ld_197, sd_197, ln_197, s_isArm, s_isIn, bI_0]
  by_cases h1 : armB (g 197) f a = false
  · simp -implicitDefEqProofs (disch := first | assumption | omega) only [h1, ↓reduceIte, b_mo_dig_27, szS_0, szS_i, szS_r, szS_l, x_cons, x_goto, ob_some, kl_i, kl_r, kl_l, kl_n, push_n, push_s, pop_0, pop_i, pop_r, Int.reduceToNat, List.length_cons, List.length_nil, Nat.reduceAdd, Nat.reduceLeDiff, Nat.zero_add, true_and, nI_n0, nat_le, Nat.add_zero, rt_mo_dig_0, rt_mo_dig_1, rt_mo_dig_b, x_al0, x_call, x_getf, x_iadd, x_iaload, x_ifeq, x_ifne, x_il1, x_il2, x_il3, x_iret, x_isub, x_ldc]
    all_goals first | rfl | exact ⟨rfl, rfl⟩ | exact ⟨rfl, trivial⟩ | exact ⟨trivial, rfl⟩ | trivial
  · rw [bne_t h1, Bool.true_and] at h
    simp -implicitDefEqProofs (disch := first | assumption | omega) only [bne_t h1, h, Bool.true_eq_false, ↓reduceIte, b_mo_dig_27, szS_0, szS_i, szS_r, szS_l, x_cons, x_goto, ob_some, kl_i, kl_r, kl_l, kl_n, push_n, push_s, pop_0, pop_i, pop_r, Int.reduceToNat, List.length_cons, List.length_nil, Nat.reduceAdd, Nat.reduceLeDiff, Nat.zero_add, true_and, nI_n0, nat_le, Nat.add_zero, rt_mo_dig_0, rt_mo_dig_1, rt_mo_dig_b, x_al0, x_call, x_getf, x_iadd, x_iaload, x_ifeq, x_ifne, x_il1, x_il2, x_il3, x_iret, x_isub, x_ldc]
    all_goals first | rfl | exact ⟨rfl, rfl⟩ | exact ⟨rfl, trivial⟩ | exact ⟨trivial, rfl⟩ | trivial
theorem s_mdig (hw : WI (g 197)) {f a : Nat} {t : Int32} (hf : f < 16) (ha : a < 3) (h : digB (g 197) (nI f) (nI a) t = true) : callC (ev (d + 5)) mo_dig [.ref 196, .int (nI f), .int (nI a), .int t] (E g q) P = P (some (.int (nI 1))) (E (upw (upw g 197 (pu (g 197) (10 + 20 * f + (2 + a)) t)) 196 (pu (g 196) 4 (nI 0))) q) := by
  refine call_eq (in_mo_dig rfl ?_)
  unfold digB at h
  rw [Bool.and_eq_true] at h
  rw [b_mo_dig_0]
  simp -implicitDefEqProofs (disch := first | assumption | omega) only [szS_0, szS_i, szS_r, szS_l, x_cons, x_goto, ob_some, kl_i, kl_r, kl_l, kl_n, push_n, push_s, pop_0, pop_i, pop_r, Int.reduceToNat, List.length_cons, List.length_nil, Nat.reduceAdd, Nat.reduceLeDiff, Nat.zero_add, true_and, nI_n0, nat_le, Nat.add_zero, rt_mo_dig_0, rt_mo_dig_1, rt_mo_dig_b, x_al0, x_call, x_getf, x_iadd, x_iaload, x_ifeq, x_ifne, x_il1, x_il2, x_il3, x_iret, x_isub, x_ldc, fd_196_0, fd_196_1, fd_196_2, fd_196_3, fd_196_4, sf_196_4, fd_196_5, sf_196_5, fd_196_6, fd_196_7, fd_196_8, fd_196_9, fd_196_10, fd_196_11, fd_196_12, sf_196_12, fd_196_13, sf_196_13, fd_196_14, sf_196_14, fd_196_15, sf_196_15, fd_196_16, sf_196_16, fd_196_17, sf_196_17, fd_196_18, sf_196_18, fd_196_19, sf_196_19, fd_196_20, sf_196_20, fd_196_21, sf_196_21, fd_196_22, sf_196_22, fd_196_23, sf_196_23, fd_196_24, sf_196_24, fd_196_25, sf_196_25, fd_196_26, sf_196_26, fd_196_27, fd_196_28, fd_196_29, fd_196_30, sf_196_30, fd_196_31, fd_196_32, fd_196_33, fd_196_34, fd_196_35, fd_196_36, fd_196_37, sf_196_37, fd_196_38, fd_196_39, sf_196_39, fd_196_40, sf_196_40, fd_196_41, sf_196_41, fd_196_42, fd_196_43, fd_196_44, ld_197, sd_197, ln_197, s_isArm, s_isIn, bI_0, h.1, h.2, Bool.true_eq_false, ↓reduceIte]
  simp -implicitDefEqProofs (disch := first | assumption | omega) only [b_mo_dig_29, szS_0, szS_i, szS_r, szS_l, x_cons, x_goto, ob_some, kl_i, kl_r, kl_l, kl_n, push_n, push_s, pop_0, pop_i, pop_r, Int.reduceToNat, List.length_cons, List.length_nil, Nat.reduceAdd, Nat.reduceLeDiff, Nat.zero_add, true_and, nI_n0, nat_le, Nat.add_zero, rt_mo_dig_0, rt_mo_dig_1, rt_mo_dig_b, x_al0, x_call, x_getf, x_iadd, x_iaload, x_ifeq, x_ifne, x_il1, x_il2, x_il3, x_iret, x_isub, x_ldc, nI_add, s_gives, s_forgets, pu_g, upw_o]
  all_goals first | rfl | exact ⟨rfl, rfl⟩ | exact ⟨rfl, trivial⟩ | exact ⟨trivial, rfl⟩ | trivial
theorem s_dams {t : Nat} {v : Int32} (ht : t < 16) : callC (ev (d + 2)) mo_dams [.ref 196, .int (nI t), .int v] (E g q) P = P none (E (upw g 197 (pu (pu (g 197) (10 + 20 * t + 15) v) (10 + 20 * t + 16) (if g 197 (10 + 20 * t + 16) < nI 50 * v then g 197 (10 + 20 * t + 16) else nI 50 * v))) q) := by
  refine call_eq (in_mo_dams rfl ?_)
  simp -implicitDefEqProofs (disch := first | assumption | omega) only [szS_0, szS_i, szS_r, szS_l, x_cons, x_goto, ob_some, kl_i, kl_r, kl_l, kl_n, push_n, push_s, pop_0, pop_i, pop_r, Int.reduceToNat, List.length_cons, List.length_nil, Nat.reduceAdd, Nat.reduceLeDiff, Nat.zero_add, true_and, nI_n0, nat_le, Nat.add_zero, rt_mo_dams, x_al0, x_call, x_il1, x_il2, x_imul, x_ldc, x_vret, b_mo_dams_0, s_own, s_gives, s_lesser, pu_g, upw_s, upw_w, pu_n]
  all_goals first | rfl | exact ⟨rfl, rfl⟩ | exact ⟨rfl, trivial⟩ | exact ⟨trivial, rfl⟩ | trivial
theorem s_mtown0 (hw : WI (g 197)) {t k v : Int32} (h : tnB (g 197) t k v = false) : callC (ev (d + 4)) mo_town [.ref 196, .int t, .int k, .int v] (E g q) P = P (some (.int (nI 0))) (E g q) := by
  refine call_eq (in_mo_town rfl ?_)
  rw [b_mo_town_0]
  simp -implicitDefEqProofs (disch := first | assumption | omega) only [szS_0, szS_i, szS_r, szS_l, x_cons, x_goto, ob_some, kl_i, kl_r, kl_l, kl_n, push_n, push_s, pop_0, pop_i, pop_r, Int.reduceToNat, List.length_cons, List.length_nil, Nat.reduceAdd, Nat.reduceLeDiff, Nat.zero_add, true_and, nI_n0, nat_le, Nat.add_zero, rt_mo_town_0, rt_mo_town_1, rt_mo_town_b, x_al0, x_call, x_goto, x_icne, x_ifeq, x_ifne, x_il1, x_il2, x_il3, x_imul, x_iret, x_ldc, s_isTown, bI_0]
  by_cases h1 : townB (g 197) t = false
  · simp only [h1, ↓reduceIte]
    all_goals first | rfl | exact ⟨rfl, rfl⟩ | exact ⟨rfl, trivial⟩ | exact ⟨trivial, rfl⟩ | trivial
  · have h1 := bne_t h1
    obtain ⟨t', ht, rfl, hs⟩ := townB_ex hw h1
    have h0 := wi_n hw
    have ex : ix (nI t') = t' := ix_nI (by omega)
    unfold tnB at h
    rw [h1, Bool.true_and, ex, Bool.or_eq_false_iff, Bool.or_eq_false_iff, Bool.or_eq_false_iff] at h
    obtain ⟨⟨⟨a0, a1⟩, a2⟩, a3⟩ := h
    simp only [h1, Bool.true_eq_false, ↓reduceIte]
    have l121 : wp (ev (d + 3)) (fun r1 h1 => r1 = some (.int (nI 0)) ∧ h1 = E g q) mo_town 121 [some (.ref 196), some (.int (nI t')), some (.int k), some (.int v)] [] (E g q) := by
      rw [b_mo_town_121]
      simp -implicitDefEqProofs (disch := first | assumption | omega) only [szS_0, szS_i, szS_r, szS_l, x_cons, x_goto, ob_some, kl_i, kl_r, kl_l, kl_n, push_n, push_s, pop_0, pop_i, pop_r, Int.reduceToNat, List.length_cons, List.length_nil, Nat.reduceAdd, Nat.reduceLeDiff, Nat.zero_add, true_and, nI_n0, nat_le, Nat.add_zero, rt_mo_town_0, rt_mo_town_1, rt_mo_town_b, x_al0, x_call, x_goto, x_icne, x_ifeq, x_ifne, x_il1, x_il2, x_il3, x_imul, x_iret, x_ldc]
      all_goals first | rfl | exact ⟨rfl, rfl⟩ | exact ⟨rfl, trivial⟩ | exact ⟨trivial, rfl⟩ | trivial
    have l87 : wp (ev (d + 3)) (fun r1 h1 => r1 = some (.int (nI 0)) ∧ h1 = E g q) mo_town 87 [some (.ref 196), some (.int (nI t')), some (.int k), some (.int v)] [] (E g q) := by
      rw [b_mo_town_87]
      simp -implicitDefEqProofs (disch := first | assumption | omega) only [szS_0, szS_i, szS_r, szS_l, x_cons, x_goto, ob_some, kl_i, kl_r, kl_l, kl_n, push_n, push_s, pop_0, pop_i, pop_r, Int.reduceToNat, List.length_cons, List.length_nil, Nat.reduceAdd, Nat.reduceLeDiff, Nat.zero_add, true_and, nI_n0, nat_le, Nat.add_zero, rt_mo_town_0, rt_mo_town_1, rt_mo_town_b, x_al0, x_call, x_goto, x_icne, x_ifeq, x_ifne, x_il1, x_il2, x_il3, x_imul, x_iret, x_ldc, s_own, s_isIn, bI_0]
      by_cases e : k = nI 3
      · rw [decide_eq_true e, Bool.true_and] at a3
        simp only [e, a3, ↓reduceIte]
        rw [e] at l121
        exact l121
      · simp only [e, ↓reduceIte]
        exact l121
    have l63 : wp (ev (d + 3)) (fun r1 h1 => r1 = some (.int (nI 0)) ∧ h1 = E g q) mo_town 63 [some (.ref 196), some (.int (nI t')), some (.int k), some (.int v)] [] (E g q) := by
      rw [b_mo_town_63]
      simp -implicitDefEqProofs (disch := first | assumption | omega) only [szS_0, szS_i, szS_r, szS_l, x_cons, x_goto, ob_some, kl_i, kl_r, kl_l, kl_n, push_n, push_s, pop_0, pop_i, pop_r, Int.reduceToNat, List.length_cons, List.length_nil, Nat.reduceAdd, Nat.reduceLeDiff, Nat.zero_add, true_and, nI_n0, nat_le, Nat.add_zero, rt_mo_town_0, rt_mo_town_1, rt_mo_town_b, x_al0, x_call, x_goto, x_icne, x_ifeq, x_ifne, x_il1, x_il2, x_il3, x_imul, x_iret, x_ldc, s_own, s_isIn, bI_0]
      by_cases e : k = nI 2
      · rw [decide_eq_true e, Bool.true_and] at a2
        simp only [e, a2, ↓reduceIte]
        rw [e] at l87
        exact l87
      · simp only [e, ↓reduceIte]
        exact l87
    have l36 : wp (ev (d + 3)) (fun r1 h1 => r1 = some (.int (nI 0)) ∧ h1 = E g q) mo_town 36 [some (.ref 196), some (.int (nI t')), some (.int k), some (.int v)] [] (E g q) := by
      rw [b_mo_town_36]
      simp -implicitDefEqProofs (disch := first | assumption | omega) only [szS_0, szS_i, szS_r, szS_l, x_cons, x_goto, ob_some, kl_i, kl_r, kl_l, kl_n, push_n, push_s, pop_0, pop_i, pop_r, Int.reduceToNat, List.length_cons, List.length_nil, Nat.reduceAdd, Nat.reduceLeDiff, Nat.zero_add, true_and, nI_n0, nat_le, Nat.add_zero, rt_mo_town_0, rt_mo_town_1, rt_mo_town_b, x_al0, x_call, x_goto, x_icne, x_ifeq, x_ifne, x_il1, x_il2, x_il3, x_imul, x_iret, x_ldc, s_own, s_isIn, bI_0]
      by_cases e : k = nI 1
      · rw [decide_eq_true e, Bool.true_and] at a1
        simp only [e, a1, ↓reduceIte]
        rw [e] at l63
        exact l63
      · simp only [e, ↓reduceIte]
        exact l63
    rw [b_mo_town_10]
    simp -implicitDefEqProofs (disch := first | assumption | omega) only [szS_0, szS_i, szS_r, szS_l, x_cons, x_goto, ob_some, kl_i, kl_r, kl_l, kl_n, push_n, push_s, pop_0, pop_i, pop_r, Int.reduceToNat, List.length_cons, List.length_nil, Nat.reduceAdd, Nat.reduceLeDiff, Nat.zero_add, true_and, nI_n0, nat_le, Nat.add_zero, rt_mo_town_0, rt_mo_town_1, rt_mo_town_b, x_al0, x_call, x_goto, x_icne, x_ifeq, x_ifne, x_il1, x_il2, x_il3, x_imul, x_iret, x_ldc, s_own, s_isIn, bI_0]
    by_cases e : k = nI 0
    · rw [decide_eq_true e, Bool.true_and] at a0
      simp only [e, a0, ↓reduceIte]
      rw [e] at l36
      exact l36
    · simp only [e, ↓reduceIte]
      exact l36
theorem s_mtown (hw : WI (g 197)) {t : Nat} {k v : Int32} (ht : t < 16) (h : tnB (g 197) (nI t) k v = true) : callC (ev (d + 4)) mo_town [.ref 196, .int (nI t), .int k, .int v] (E g q) P = P (some (.int (nI 1))) (E (upw (upw g 197 (tnR (g 197) (nI t) k v)) 196 (pu (g 196) 4 (nI 0))) q) := by
  refine call_eq (in_mo_town rfl ?_)
  have ex : ix (nI t) = t := ix_nI (by omega)
  unfold tnB at h
  rw [Bool.and_eq_true, ex] at h
  obtain ⟨h1, h2⟩ := h
  have end' : ∀ r, r = tnR (g 197) (nI t) k v → wp (ev (d + 3)) (fun r1 h1 => r1 = some (.int (nI 1)) ∧ h1 = E (upw (upw g 197 (tnR (g 197) (nI t) k v)) 196 (pu (g 196) 4 (nI 0))) q) mo_town 123 [some (.ref 196), some (.int (nI t)), some (.int k), some (.int v)] [] (E (upw g 197 r) q) := by
    intro r hr
    rw [hr, b_mo_town_123]
    simp -implicitDefEqProofs (disch := first | assumption | omega) only [szS_0, szS_i, szS_r, szS_l, x_cons, x_goto, ob_some, kl_i, kl_r, kl_l, kl_n, push_n, push_s, pop_0, pop_i, pop_r, Int.reduceToNat, List.length_cons, List.length_nil, Nat.reduceAdd, Nat.reduceLeDiff, Nat.zero_add, true_and, nI_n0, nat_le, Nat.add_zero, rt_mo_town_0, rt_mo_town_1, rt_mo_town_b, x_al0, x_call, x_goto, x_icne, x_ifeq, x_ifne, x_il1, x_il2, x_il3, x_imul, x_iret, x_ldc, s_forgets, pu_g, upw_o]
    all_goals first | rfl | exact ⟨rfl, rfl⟩ | exact ⟨rfl, trivial⟩ | exact ⟨trivial, rfl⟩ | trivial
  have n10 : (nI 1 = nI 0) = False := eq_false (by decide)
  have n20 : (nI 2 = nI 0) = False := eq_false (by decide)
  have n21 : (nI 2 = nI 1) = False := eq_false (by decide)
  have n30 : (nI 3 = nI 0) = False := eq_false (by decide)
  have n31 : (nI 3 = nI 1) = False := eq_false (by decide)
  have n32 : (nI 3 = nI 2) = False := eq_false (by decide)
  rw [b_mo_town_0]
  simp -implicitDefEqProofs (disch := first | assumption | omega) only [szS_0, szS_i, szS_r, szS_l, x_cons, x_goto, ob_some, kl_i, kl_r, kl_l, kl_n, push_n, push_s, pop_0, pop_i, pop_r, Int.reduceToNat, List.length_cons, List.length_nil, Nat.reduceAdd, Nat.reduceLeDiff, Nat.zero_add, true_and, nI_n0, nat_le, Nat.add_zero, rt_mo_town_0, rt_mo_town_1, rt_mo_town_b, x_al0, x_call, x_goto, x_icne, x_ifeq, x_ifne, x_il1, x_il2, x_il3, x_imul, x_iret, x_ldc, s_isTown, bI_0, h1, Bool.true_eq_false, ↓reduceIte, b_mo_town_10, s_isIn]
  rw [Bool.or_eq_true, Bool.or_eq_true, Bool.or_eq_true, Bool.and_eq_true, Bool.and_eq_true, Bool.and_eq_true, Bool.and_eq_true] at h2
  rcases h2 with ((⟨h2, h3⟩ | ⟨h2, h3⟩) | ⟨h2, h3⟩) | ⟨h2, h3⟩
  · have h2 := of_decide_eq_true h2
    subst h2
    simp -implicitDefEqProofs (disch := first | assumption | omega) only [h3, Bool.true_eq_false, ↓reduceIte, s_gives, pu_g, szS_0, szS_i, szS_r, szS_l, x_cons, x_goto, ob_some, kl_i, kl_r, kl_l, kl_n, push_n, push_s, pop_0, pop_i, pop_r, Int.reduceToNat, List.length_cons, List.length_nil, Nat.reduceAdd, Nat.reduceLeDiff, Nat.zero_add, true_and, nI_n0, nat_le, Nat.add_zero, rt_mo_town_0, rt_mo_town_1, rt_mo_town_b, x_al0, x_call, x_goto, x_icne, x_ifeq, x_ifne, x_il1, x_il2, x_il3, x_imul, x_iret, x_ldc]
    exact end' _ (by simp only [tnR, ↓reduceIte, ex])
  · have h2 := of_decide_eq_true h2
    subst h2
    simp -implicitDefEqProofs (disch := first | assumption | omega) only [n10, h3, Bool.true_eq_false, ↓reduceIte, s_gives, pu_g, szS_0, szS_i, szS_r, szS_l, x_cons, x_goto, ob_some, kl_i, kl_r, kl_l, kl_n, push_n, push_s, pop_0, pop_i, pop_r, Int.reduceToNat, List.length_cons, List.length_nil, Nat.reduceAdd, Nat.reduceLeDiff, Nat.zero_add, true_and, nI_n0, nat_le, Nat.add_zero, rt_mo_town_0, rt_mo_town_1, rt_mo_town_b, x_al0, x_call, x_goto, x_icne, x_ifeq, x_ifne, x_il1, x_il2, x_il3, x_imul, x_iret, x_ldc, b_mo_town_36, s_isIn, bI_0]
    exact end' _ (by simp only [tnR, n10, ↓reduceIte, ex])
  · have h2 := of_decide_eq_true h2
    subst h2
    simp -implicitDefEqProofs (disch := first | assumption | omega) only [n20, n21, h3, Bool.true_eq_false, ↓reduceIte, s_dams, pu_g, szS_0, szS_i, szS_r, szS_l, x_cons, x_goto, ob_some, kl_i, kl_r, kl_l, kl_n, push_n, push_s, pop_0, pop_i, pop_r, Int.reduceToNat, List.length_cons, List.length_nil, Nat.reduceAdd, Nat.reduceLeDiff, Nat.zero_add, true_and, nI_n0, nat_le, Nat.add_zero, rt_mo_town_0, rt_mo_town_1, rt_mo_town_b, x_al0, x_call, x_goto, x_icne, x_ifeq, x_ifne, x_il1, x_il2, x_il3, x_imul, x_iret, x_ldc, b_mo_town_36, b_mo_town_63, s_isIn, bI_0]
    exact end' _ (by simp only [tnR, n20, n21, ↓reduceIte, ex])
  · have h2 := of_decide_eq_true h2
    subst h2
    simp -implicitDefEqProofs (disch := first | assumption | omega) only [n30, n31, n32, h3, Bool.true_eq_false, ↓reduceIte, s_own, s_gives, pu_g, szS_0, szS_i, szS_r, szS_l, x_cons, x_goto, ob_some, kl_i, kl_r, kl_l, kl_n, push_n, push_s, pop_0, pop_i, pop_r, Int.reduceToNat, List.length_cons, List.length_nil, Nat.reduceAdd, Nat.reduceLeDiff, Nat.zero_add, true_and, nI_n0, nat_le, Nat.add_zero, rt_mo_town_0, rt_mo_town_1, rt_mo_town_b, x_al0, x_call, x_goto, x_icne, x_ifeq, x_ifne, x_il1, x_il2, x_il3, x_imul, x_iret, x_ldc, b_mo_town_36, b_mo_town_63, b_mo_town_87, s_isIn, bI_0]
    exact end' _ (by simp only [tnR, n30, n31, n32, ↓reduceIte, ex])
theorem s_mnode (hw : WI (g 197)) {n k : Int32} (H : P (some (.int (ndA (g 197) n k))) (E g q)) : callC (ev (d + 3)) mo_node [.ref 196, .int n, .int k] (E g q) P := by
  refine in_mo_node rfl ?_
  rw [b_mo_node_0]
  simp -implicitDefEqProofs (disch := first | assumption | omega) only [szS_0, szS_i, szS_r, szS_l, x_cons, x_goto, ob_some, kl_i, kl_r, kl_l, kl_n, push_n, push_s, pop_0, pop_i, pop_r, Int.reduceToNat, List.length_cons, List.length_nil, Nat.reduceAdd, Nat.reduceLeDiff, Nat.zero_add, true_and, nI_n0, nat_le, Nat.add_zero, rt_mo_node, x_al0, x_call, x_goto, x_iadd, x_ifeq, x_ifne, x_il1, x_il2, x_iret, x_isub, x_ldc, x_m1, s_isNode, bI_0]
  unfold ndA at H
  by_cases h1 : nodeB (g 197) n = false
  · rw [if_neg (by rw [h1]; exact Bool.false_ne_true)] at H
    simp -implicitDefEqProofs (disch := first | assumption | omega) only [h1, ↓reduceIte, szS_0, szS_i, szS_r, szS_l, x_cons, x_goto, ob_some, kl_i, kl_r, kl_l, kl_n, push_n, push_s, pop_0, pop_i, pop_r, Int.reduceToNat, List.length_cons, List.length_nil, Nat.reduceAdd, Nat.reduceLeDiff, Nat.zero_add, true_and, nI_n0, nat_le, Nat.add_zero, rt_mo_node, x_al0, x_call, x_goto, x_iadd, x_ifeq, x_ifne, x_il1, x_il2, x_iret, x_isub, x_ldc, x_m1]
    exact H
  · have h1 := bne_t h1
    obtain ⟨f, hf, rfl⟩ := nodeB_ex hw h1
    have h0 := wi_n hw
    have ha := wi_1 hw (n := f) (by omega)
    rw [if_pos h1, ix_nI (by omega)] at H
    simp -implicitDefEqProofs (disch := first | assumption | omega) only [h1, Bool.true_eq_false, ↓reduceIte, b_mo_node_10, szS_0, szS_i, szS_r, szS_l, x_cons, x_goto, ob_some, kl_i, kl_r, kl_l, kl_n, push_n, push_s, pop_0, pop_i, pop_r, Int.reduceToNat, List.length_cons, List.length_nil, Nat.reduceAdd, Nat.reduceLeDiff, Nat.zero_add, true_and, nI_n0, nat_le, Nat.add_zero, rt_mo_node, x_al0, x_call, x_goto, x_iadd, x_ifeq, x_ifne, x_il1, x_il2, x_iret, x_isub, x_ldc, x_m1, s_isIn, bI_0]
    by_cases h2 : nI 0 ≤ k ∧ k ≤ nI 1
    · obtain ⟨k', hk, rfl⟩ := int_is h2 (by decide)
      rw [if_pos h2, ix_nI (by omega)] at H
      simp -implicitDefEqProofs (disch := first | assumption | omega) only [decide_eq_true h2, Bool.true_eq_false, ↓reduceIte, s_own, szS_0, szS_i, szS_r, szS_l, x_cons, x_goto, ob_some, kl_i, kl_r, kl_l, kl_n, push_n, push_s, pop_0, pop_i, pop_r, Int.reduceToNat, List.length_cons, List.length_nil, Nat.reduceAdd, Nat.reduceLeDiff, Nat.zero_add, true_and, nI_n0, nat_le, Nat.add_zero, rt_mo_node, x_al0, x_call, x_goto, x_iadd, x_ifeq, x_ifne, x_il1, x_il2, x_iret, x_isub, x_ldc, x_m1]
      exact H
    · rw [if_neg h2] at H
      simp -implicitDefEqProofs (disch := first | assumption | omega) only [decide_eq_false h2, ↓reduceIte, b_mo_node_26, szS_0, szS_i, szS_r, szS_l, x_cons, x_goto, ob_some, kl_i, kl_r, kl_l, kl_n, push_n, push_s, pop_0, pop_i, pop_r, Int.reduceToNat, List.length_cons, List.length_nil, Nat.reduceAdd, Nat.reduceLeDiff, Nat.zero_add, true_and, nI_n0, nat_le, Nat.add_zero, rt_mo_node, x_al0, x_call, x_goto, x_iadd, x_ifeq, x_ifne, x_il1, x_il2, x_iret, x_isub, x_ldc, x_m1, s_own, s_isIn, bI_0]
      by_cases h3 : nI 10 ≤ k ∧ k ≤ nI 9 + g 197 (10 + 20 * f + 1)
      · rw [if_pos h3] at H
        have h4 := h3
        rw [ha.1, nI_add] at h4
        obtain ⟨k', hk1, hk2, rfl⟩ := int_in h4 (by decide) (by omega)
        rw [ix_nI (by omega)] at H
        simp -implicitDefEqProofs (disch := first | assumption | omega) only [decide_eq_true h3, Bool.true_eq_false, ↓reduceIte, nI_sub, s_goesTo, b_mo_node_57, szS_0, szS_i, szS_r, szS_l, x_cons, x_goto, ob_some, kl_i, kl_r, kl_l, kl_n, push_n, push_s, pop_0, pop_i, pop_r, Int.reduceToNat, List.length_cons, List.length_nil, Nat.reduceAdd, Nat.reduceLeDiff, Nat.zero_add, true_and, nI_n0, nat_le, Nat.add_zero, rt_mo_node, x_al0, x_call, x_goto, x_iadd, x_ifeq, x_ifne, x_il1, x_il2, x_iret, x_isub, x_ldc, x_m1]
        exact H
      · rw [if_neg h3] at H
        simp -implicitDefEqProofs (disch := first | assumption | omega) only [decide_eq_false h3, ↓reduceIte, b_mo_node_56, b_mo_node_57, szS_0, szS_i, szS_r, szS_l, x_cons, x_goto, ob_some, kl_i, kl_r, kl_l, kl_n, push_n, push_s, pop_0, pop_i, pop_r, Int.reduceToNat, List.length_cons, List.length_nil, Nat.reduceAdd, Nat.reduceLeDiff, Nat.zero_add, true_and, nI_n0, nat_le, Nat.add_zero, rt_mo_node, x_al0, x_call, x_goto, x_iadd, x_ifeq, x_ifne, x_il1, x_il2, x_iret, x_isub, x_ldc, x_m1]
        exact H
theorem s_mfork (hw : WI (g 197)) {V : LW} (hL : LK (g 197) 0 okV V) {n k : Int32} (H : ∀ g', fr [205, 206, 207] g g' → P (some (.int (fkA V (g 197) n k))) (E g' q)) : callC (ev (d + 8)) mo_fork [.ref 196, .int n, .int k] (E g q) P := by
  refine in_mo_fork rfl ?_
  rw [b_mo_fork_0]
  simp -implicitDefEqProofs (disch := first | assumption | omega) only [szS_0, szS_i, szS_r, szS_l, x_cons, x_goto, ob_some, kl_i, kl_r, kl_l, kl_n, push_n, push_s, pop_0, pop_i, pop_r, Int.reduceToNat, List.length_cons, List.length_nil, Nat.reduceAdd, Nat.reduceLeDiff, Nat.zero_add, true_and, nI_n0, nat_le, Nat.add_zero, rt_mo_fork, x_al0, x_call, x_goto, x_iadd, x_icne, x_ifeq, x_ifne, x_il1, x_il2, x_iret, x_isub, x_ldc, x_m1, s_isFork, bI_0]
  unfold fkA at H
  by_cases h1 : forkB (g 197) n = false
  · rw [if_neg (by rw [h1]; exact Bool.false_ne_true)] at H
    simp only [h1, ↓reduceIte]
    exact H g fr_r
  · have h1 := bne_t h1
    obtain ⟨f, hf, rfl, hs⟩ := forkB_ex hw h1
    have h0 := wi_n hw
    have ha := wi_1 hw (n := f) (by omega)
    rw [if_pos h1, ix_nI (by omega)] at H
    simp -implicitDefEqProofs (disch := first | assumption | omega) only [h1, Bool.true_eq_false, ↓reduceIte, b_mo_fork_10, szS_0, szS_i, szS_r, szS_l, x_cons, x_goto, ob_some, kl_i, kl_r, kl_l, kl_n, push_n, push_s, pop_0, pop_i, pop_r, Int.reduceToNat, List.length_cons, List.length_nil, Nat.reduceAdd, Nat.reduceLeDiff, Nat.zero_add, true_and, nI_n0, nat_le, Nat.add_zero, rt_mo_fork, x_al0, x_call, x_goto, x_iadd, x_icne, x_ifeq, x_ifne, x_il1, x_il2, x_iret, x_isub, x_ldc, x_m1]
    by_cases k0 : k = nI 0
    · rw [if_pos k0] at H
      simp -implicitDefEqProofs (disch := first | assumption | omega) only [k0, ↓reduceIte, s_own, szS_0, szS_i, szS_r, szS_l, x_cons, x_goto, ob_some, kl_i, kl_r, kl_l, kl_n, push_n, push_s, pop_0, pop_i, pop_r, Int.reduceToNat, List.length_cons, List.length_nil, Nat.reduceAdd, Nat.reduceLeDiff, Nat.zero_add, true_and, nI_n0, nat_le, Nat.add_zero, rt_mo_fork, x_al0, x_call, x_goto, x_iadd, x_icne, x_ifeq, x_ifne, x_il1, x_il2, x_iret, x_isub, x_ldc, x_m1]
      exact H g fr_r
    · rw [if_neg k0] at H
      simp -implicitDefEqProofs (disch := first | assumption | omega) only [k0, ↓reduceIte, b_mo_fork_21, szS_0, szS_i, szS_r, szS_l, x_cons, x_goto, ob_some, kl_i, kl_r, kl_l, kl_n, push_n, push_s, pop_0, pop_i, pop_r, Int.reduceToNat, List.length_cons, List.length_nil, Nat.reduceAdd, Nat.reduceLeDiff, Nat.zero_add, true_and, nI_n0, nat_le, Nat.add_zero, rt_mo_fork, x_al0, x_call, x_goto, x_iadd, x_icne, x_ifeq, x_ifne, x_il1, x_il2, x_iret, x_isub, x_ldc, x_m1]
      by_cases k1 : k = nI 1
      · rw [if_pos k1] at H
        simp -implicitDefEqProofs (disch := first | assumption | omega) only [k1, ↓reduceIte, s_own, szS_0, szS_i, szS_r, szS_l, x_cons, x_goto, ob_some, kl_i, kl_r, kl_l, kl_n, push_n, push_s, pop_0, pop_i, pop_r, Int.reduceToNat, List.length_cons, List.length_nil, Nat.reduceAdd, Nat.reduceLeDiff, Nat.zero_add, true_and, nI_n0, nat_le, Nat.add_zero, rt_mo_fork, x_al0, x_call, x_goto, x_iadd, x_icne, x_ifeq, x_ifne, x_il1, x_il2, x_iret, x_isub, x_ldc, x_m1]
        exact H g fr_r
      · rw [if_neg k1] at H
        simp -implicitDefEqProofs (disch := first | assumption | omega) only [k1, ↓reduceIte, b_mo_fork_34, szS_0, szS_i, szS_r, szS_l, x_cons, x_goto, ob_some, kl_i, kl_r, kl_l, kl_n, push_n, push_s, pop_0, pop_i, pop_r, Int.reduceToNat, List.length_cons, List.length_nil, Nat.reduceAdd, Nat.reduceLeDiff, Nat.zero_add, true_and, nI_n0, nat_le, Nat.add_zero, rt_mo_fork, x_al0, x_call, x_goto, x_iadd, x_icne, x_ifeq, x_ifne, x_il1, x_il2, x_iret, x_isub, x_ldc, x_m1, s_own, s_isIn, bI_0]
        by_cases h3 : nI 10 ≤ k ∧ k ≤ nI 9 + g 197 (10 + 20 * f + 1)
        · rw [if_pos h3] at H
          have h4 := h3
          rw [ha.1, nI_add] at h4
          obtain ⟨k', hk1, hk2, rfl⟩ := int_in h4 (by decide) (by omega)
          rw [ix_nI (by omega)] at H
          simp -implicitDefEqProofs (disch := first | assumption | omega) only [decide_eq_true h3, Bool.true_eq_false, ↓reduceIte, nI_sub, szS_0, szS_i, szS_r, szS_l, x_cons, x_goto, ob_some, kl_i, kl_r, kl_l, kl_n, push_n, push_s, pop_0, pop_i, pop_r, Int.reduceToNat, List.length_cons, List.length_nil, Nat.reduceAdd, Nat.reduceLeDiff, Nat.zero_add, true_and, nI_n0, nat_le, Nat.add_zero, rt_mo_fork, x_al0, x_call, x_goto, x_iadd, x_icne, x_ifeq, x_ifne, x_il1, x_il2, x_iret, x_isub, x_ldc, x_m1]
          refine s_votesFor hw hL hf (by unfold am; omega) fun g1 f1 => ?_
          simp -implicitDefEqProofs (disch := first | assumption | omega) only [szS_0, szS_i, szS_r, szS_l, x_cons, x_goto, ob_some, kl_i, kl_r, kl_l, kl_n, push_n, push_s, pop_0, pop_i, pop_r, Int.reduceToNat, List.length_cons, List.length_nil, Nat.reduceAdd, Nat.reduceLeDiff, Nat.zero_add, true_and, nI_n0, nat_le, Nat.add_zero, rt_mo_fork, x_al0, x_call, x_goto, x_iadd, x_icne, x_ifeq, x_ifne, x_il1, x_il2, x_iret, x_isub, x_ldc, x_m1]
          exact H g1 f1
        · rw [if_neg h3] at H
          simp -implicitDefEqProofs (disch := first | assumption | omega) only [decide_eq_false h3, ↓reduceIte, b_mo_fork_62, szS_0, szS_i, szS_r, szS_l, x_cons, x_goto, ob_some, kl_i, kl_r, kl_l, kl_n, push_n, push_s, pop_0, pop_i, pop_r, Int.reduceToNat, List.length_cons, List.length_nil, Nat.reduceAdd, Nat.reduceLeDiff, Nat.zero_add, true_and, nI_n0, nat_le, Nat.add_zero, rt_mo_fork, x_al0, x_call, x_goto, x_iadd, x_icne, x_ifeq, x_ifne, x_il1, x_il2, x_iret, x_isub, x_ldc, x_m1, s_own, s_isIn, bI_0]
          by_cases h5 : nI 20 ≤ k ∧ k ≤ nI 19 + g 197 (10 + 20 * f + 1)
          · rw [if_pos h5] at H
            have h4 := h5
            rw [ha.1, nI_add] at h4
            obtain ⟨k', hk1, hk2, rfl⟩ := int_in h4 (by decide) (by omega)
            rw [ix_nI (by omega)] at H
            have e : 7 + k' - 20 = 7 + (k' - 20) := by omega
            simp -implicitDefEqProofs (disch := first | assumption | omega) only [decide_eq_true h5, Bool.true_eq_false, ↓reduceIte, nI_add, nI_sub, e, s_own, b_mo_fork_96, szS_0, szS_i, szS_r, szS_l, x_cons, x_goto, ob_some, kl_i, kl_r, kl_l, kl_n, push_n, push_s, pop_0, pop_i, pop_r, Int.reduceToNat, List.length_cons, List.length_nil, Nat.reduceAdd, Nat.reduceLeDiff, Nat.zero_add, true_and, nI_n0, nat_le, Nat.add_zero, rt_mo_fork, x_al0, x_call, x_goto, x_iadd, x_icne, x_ifeq, x_ifne, x_il1, x_il2, x_iret, x_isub, x_ldc, x_m1]
            exact H g fr_r
          · rw [if_neg h5] at H
            simp -implicitDefEqProofs (disch := first | assumption | omega) only [decide_eq_false h5, ↓reduceIte, b_mo_fork_95, b_mo_fork_96, szS_0, szS_i, szS_r, szS_l, x_cons, x_goto, ob_some, kl_i, kl_r, kl_l, kl_n, push_n, push_s, pop_0, pop_i, pop_r, Int.reduceToNat, List.length_cons, List.length_nil, Nat.reduceAdd, Nat.reduceLeDiff, Nat.zero_add, true_and, nI_n0, nat_le, Nat.add_zero, rt_mo_fork, x_al0, x_call, x_goto, x_iadd, x_icne, x_ifeq, x_ifne, x_il1, x_il2, x_iret, x_isub, x_ldc, x_m1]
            exact H g fr_r
theorem s_mof (hw : WI (g 197)) {M : LW} (hM : LK (g 197) 1 okM M) {t k : Int32} (H : ∀ g', fr [205, 206, 207] g g' → P (some (.int (ofA M (g 197) t k))) (E g' q)) : callC (ev (d + 6)) mo_of [.ref 196, .int t, .int k] (E g q) P := by
  refine in_mo_of rfl ?_
  unfold ofA at H
  rw [b_mo_of_0]
  simp -implicitDefEqProofs (disch := first | assumption | omega) only [szS_0, szS_i, szS_r, szS_l, x_cons, x_goto, ob_some, kl_i, kl_r, kl_l, kl_n, push_n, push_s, pop_0, pop_i, pop_r, Int.reduceToNat, List.length_cons, List.length_nil, Nat.reduceAdd, Nat.reduceLeDiff, Nat.zero_add, true_and, nI_n0, nat_le, Nat.add_zero, rt_mo_of, x_al0, x_call, x_goto, x_icne, x_ifeq, x_il1, x_il2, x_iret, x_ldc, x_m1, s_isTown, s_isIn, bI_0]
  by_cases h1 : townB (g 197) t = false
  · rw [if_neg (by rw [h1, Bool.false_and]; exact Bool.false_ne_true)] at H
    simp -implicitDefEqProofs (disch := first | assumption | omega) only [h1, ↓reduceIte, b_mo_of_41, b_mo_of_42, szS_0, szS_i, szS_r, szS_l, x_cons, x_goto, ob_some, kl_i, kl_r, kl_l, kl_n, push_n, push_s, pop_0, pop_i, pop_r, Int.reduceToNat, List.length_cons, List.length_nil, Nat.reduceAdd, Nat.reduceLeDiff, Nat.zero_add, true_and, nI_n0, nat_le, Nat.add_zero, rt_mo_of, x_al0, x_call, x_goto, x_icne, x_ifeq, x_il1, x_il2, x_iret, x_ldc, x_m1]
    exact H g fr_r
  · have h1 := bne_t h1
    obtain ⟨t', ht, rfl, hs⟩ := townB_ex hw h1
    have h0 := wi_n hw
    rw [h1, Bool.true_and, ix_nI (by omega)] at H
    by_cases h2 : nI 0 ≤ k ∧ k ≤ nI 8
    · rw [if_pos (decide_eq_true h2)] at H
      obtain ⟨k', hk, rfl⟩ := int_is h2 (by decide)
      simp -implicitDefEqProofs (disch := first | assumption | omega) only [h1, decide_eq_true h2, Bool.true_eq_false, ↓reduceIte, nI_eqE, szS_0, szS_i, szS_r, szS_l, x_cons, x_goto, ob_some, kl_i, kl_r, kl_l, kl_n, push_n, push_s, pop_0, pop_i, pop_r, Int.reduceToNat, List.length_cons, List.length_nil, Nat.reduceAdd, Nat.reduceLeDiff, Nat.zero_add, true_and, nI_n0, nat_le, Nat.add_zero, rt_mo_of, x_al0, x_call, x_goto, x_icne, x_ifeq, x_il1, x_il2, x_iret, x_ldc, x_m1]
      by_cases k8 : k' = 8
      · rw [if_pos (by rw [k8])] at H
        simp only [k8, ↓reduceIte]
        refine s_movers hw hM (by omega) fun g1 f1 => ?_
        simp -implicitDefEqProofs (disch := first | assumption | omega) only [b_mo_of_42, szS_0, szS_i, szS_r, szS_l, x_cons, x_goto, ob_some, kl_i, kl_r, kl_l, kl_n, push_n, push_s, pop_0, pop_i, pop_r, Int.reduceToNat, List.length_cons, List.length_nil, Nat.reduceAdd, Nat.reduceLeDiff, Nat.zero_add, true_and, nI_n0, nat_le, Nat.add_zero, rt_mo_of, x_al0, x_call, x_goto, x_icne, x_ifeq, x_il1, x_il2, x_iret, x_ldc, x_m1]
        exact H g1 f1
      · rw [if_neg (by rw [nI_eqE (by omega) (by decide)]; exact k8), ix_nI (by omega)] at H
        simp -implicitDefEqProofs (disch := first | assumption | omega) only [k8, ↓reduceIte, b_mo_of_32, b_mo_of_42, szS_0, szS_i, szS_r, szS_l, x_cons, x_goto, ob_some, kl_i, kl_r, kl_l, kl_n, push_n, push_s, pop_0, pop_i, pop_r, Int.reduceToNat, List.length_cons, List.length_nil, Nat.reduceAdd, Nat.reduceLeDiff, Nat.zero_add, true_and, nI_n0, nat_le, Nat.add_zero, rt_mo_of, x_al0, x_call, x_goto, x_icne, x_ifeq, x_il1, x_il2, x_iret, x_ldc, x_m1, s_told]
        exact H g fr_r
    · rw [if_neg (by rw [decide_eq_false h2]; exact Bool.false_ne_true)] at H
      simp -implicitDefEqProofs (disch := first | assumption | omega) only [h1, decide_eq_false h2, Bool.true_eq_false, ↓reduceIte, b_mo_of_41, b_mo_of_42, szS_0, szS_i, szS_r, szS_l, x_cons, x_goto, ob_some, kl_i, kl_r, kl_l, kl_n, push_n, push_s, pop_0, pop_i, pop_r, Int.reduceToNat, List.length_cons, List.length_nil, Nat.reduceAdd, Nat.reduceLeDiff, Nat.zero_add, true_and, nI_n0, nat_le, Nat.add_zero, rt_mo_of, x_al0, x_call, x_goto, x_icne, x_ifeq, x_il1, x_il2, x_iret, x_ldc, x_m1]
      exact H g fr_r
theorem s_mvotes (hw : WI (g 197)) {V : LW} (hL : LK (g 197) 0 okV V) {t f a : Int32} (H : ∀ g', fr [205, 206, 207] g g' → P (some (.int (vtA V (g 197) t f a))) (E g' q)) : callC (ev (d + 7)) mo_votes [.ref 196, .int t, .int f, .int a] (E g q) P := by
  refine in_mo_votes rfl ?_
  unfold vtA at H
  rw [b_mo_votes_0]
  simp -implicitDefEqProofs (disch := first | assumption | omega) only [szS_0, szS_i, szS_r, szS_l, x_cons, x_goto, ob_some, kl_i, kl_r, kl_l, kl_n, push_n, push_s, pop_0, pop_i, pop_r, Int.reduceToNat, List.length_cons, List.length_nil, Nat.reduceAdd, Nat.reduceLeDiff, Nat.zero_add, true_and, nI_n0, nat_le, Nat.add_zero, rt_mo_votes, x_al0, x_call, x_goto, x_ifeq, x_il1, x_il2, x_il3, x_iret, x_m1, s_isTown, s_isArm, bI_0]
  by_cases h1 : townB (g 197) t = false
  · rw [if_neg (by rw [h1, Bool.false_and]; exact Bool.false_ne_true)] at H
    simp -implicitDefEqProofs (disch := first | assumption | omega) only [h1, ↓reduceIte, b_mo_votes_27, b_mo_votes_28, szS_0, szS_i, szS_r, szS_l, x_cons, x_goto, ob_some, kl_i, kl_r, kl_l, kl_n, push_n, push_s, pop_0, pop_i, pop_r, Int.reduceToNat, List.length_cons, List.length_nil, Nat.reduceAdd, Nat.reduceLeDiff, Nat.zero_add, true_and, nI_n0, nat_le, Nat.add_zero, rt_mo_votes, x_al0, x_call, x_goto, x_ifeq, x_il1, x_il2, x_il3, x_iret, x_m1]
    exact H g fr_r
  · have h1 := bne_t h1
    by_cases h2 : armB (g 197) f a = false
    · rw [if_neg (by rw [h2, Bool.and_false]; exact Bool.false_ne_true)] at H
      simp -implicitDefEqProofs (disch := first | assumption | omega) only [h1, h2, Bool.true_eq_false, ↓reduceIte, b_mo_votes_27, b_mo_votes_28, szS_0, szS_i, szS_r, szS_l, x_cons, x_goto, ob_some, kl_i, kl_r, kl_l, kl_n, push_n, push_s, pop_0, pop_i, pop_r, Int.reduceToNat, List.length_cons, List.length_nil, Nat.reduceAdd, Nat.reduceLeDiff, Nat.zero_add, true_and, nI_n0, nat_le, Nat.add_zero, rt_mo_votes, x_al0, x_call, x_goto, x_ifeq, x_il1, x_il2, x_il3, x_iret, x_m1]
      exact H g fr_r
    · have h2 := bne_t h2
      rw [h1, h2, Bool.true_and, if_pos rfl] at H
      obtain ⟨t', ht, rfl, hs⟩ := townB_ex hw h1
      obtain ⟨f', a', hf, rfl, hf0, ha, rfl⟩ := armB_ex hw h2
      have h0 := wi_n hw
      have ham := am_le hw (n := f') (by omega)
      rw [ix_nI (by omega), ix_nI (by omega), ix_nI (by omega)] at H
      simp -implicitDefEqProofs (disch := first | assumption | omega) only [h1, h2, Bool.true_eq_false, ↓reduceIte]
      refine s_votesOf hw hL (by omega) (by omega) ha fun g1 f1 => ?_
      simp -implicitDefEqProofs (disch := first | assumption | omega) only [b_mo_votes_28, szS_0, szS_i, szS_r, szS_l, x_cons, x_goto, ob_some, kl_i, kl_r, kl_l, kl_n, push_n, push_s, pop_0, pop_i, pop_r, Int.reduceToNat, List.length_cons, List.length_nil, Nat.reduceAdd, Nat.reduceLeDiff, Nat.zero_add, true_and, nI_n0, nat_le, Nat.add_zero, rt_mo_votes, x_al0, x_call, x_goto, x_ifeq, x_il1, x_il2, x_il3, x_iret, x_m1]
      exact H g1 f1
theorem s_mcame (hw : WI (g 197)) {i j : Int32} (H : P (some (.int (caA (g 197) i j))) (E g q)) : callC (ev (d + 3)) mo_came [.ref 196, .int i, .int j] (E g q) P := by
  refine in_mo_came rfl ?_
  unfold caA at H
  rw [b_mo_came_0]
  simp -implicitDefEqProofs (disch := first | assumption | omega) only [szS_0, szS_i, szS_r, szS_l, x_cons, x_goto, ob_some, kl_i, kl_r, kl_l, kl_n, push_n, push_s, pop_0, pop_i, pop_r, Int.reduceToNat, List.length_cons, List.length_nil, Nat.reduceAdd, Nat.reduceLeDiff, Nat.zero_add, true_and, nI_n0, nat_le, Nat.add_zero, rt_mo_came, x_al0, x_call, x_getf, x_goto, x_iadd, x_iaload, x_ifeq, x_il1, x_il2, x_imul, x_iret, x_ldc, x_m1, s_isNode, bI_0]
  by_cases h1 : nodeB (g 197) i = false
  · rw [if_neg (by rw [h1, Bool.false_and]; exact Bool.false_ne_true)] at H
    simp -implicitDefEqProofs (disch := first | assumption | omega) only [h1, ↓reduceIte, b_mo_came_34, b_mo_came_35, szS_0, szS_i, szS_r, szS_l, x_cons, x_goto, ob_some, kl_i, kl_r, kl_l, kl_n, push_n, push_s, pop_0, pop_i, pop_r, Int.reduceToNat, List.length_cons, List.length_nil, Nat.reduceAdd, Nat.reduceLeDiff, Nat.zero_add, true_and, nI_n0, nat_le, Nat.add_zero, rt_mo_came, x_al0, x_call, x_getf, x_goto, x_iadd, x_iaload, x_ifeq, x_il1, x_il2, x_imul, x_iret, x_ldc, x_m1]
    exact H
  · have h1 := bne_t h1
    by_cases h2 : nodeB (g 197) j = false
    · rw [if_neg (by rw [h2, Bool.and_false]; exact Bool.false_ne_true)] at H
      simp -implicitDefEqProofs (disch := first | assumption | omega) only [h1, h2, Bool.true_eq_false, ↓reduceIte, b_mo_came_34, b_mo_came_35, szS_0, szS_i, szS_r, szS_l, x_cons, x_goto, ob_some, kl_i, kl_r, kl_l, kl_n, push_n, push_s, pop_0, pop_i, pop_r, Int.reduceToNat, List.length_cons, List.length_nil, Nat.reduceAdd, Nat.reduceLeDiff, Nat.zero_add, true_and, nI_n0, nat_le, Nat.add_zero, rt_mo_came, x_al0, x_call, x_getf, x_goto, x_iadd, x_iaload, x_ifeq, x_il1, x_il2, x_imul, x_iret, x_ldc, x_m1]
      exact H
    · have h2 := bne_t h2
      rw [h1, h2, Bool.true_and, if_pos rfl] at H
      obtain ⟨i', hi, rfl⟩ := nodeB_ex hw h1
      obtain ⟨j', hj, rfl⟩ := nodeB_ex hw h2
      have h0 := wi_n hw
      rw [ix_nI (by omega), ix_nI (by omega)] at H
      simp -implicitDefEqProofs (disch := first | assumption | omega) only [h1, h2, Bool.true_eq_false, ↓reduceIte, nI_mul, nI_add, fd_196_0, fd_196_1, fd_196_2, fd_196_3, fd_196_4, sf_196_4, fd_196_5, sf_196_5, fd_196_6, fd_196_7, fd_196_8, fd_196_9, fd_196_10, fd_196_11, fd_196_12, sf_196_12, fd_196_13, sf_196_13, fd_196_14, sf_196_14, fd_196_15, sf_196_15, fd_196_16, sf_196_16, fd_196_17, sf_196_17, fd_196_18, sf_196_18, fd_196_19, sf_196_19, fd_196_20, sf_196_20, fd_196_21, sf_196_21, fd_196_22, sf_196_22, fd_196_23, sf_196_23, fd_196_24, sf_196_24, fd_196_25, sf_196_25, fd_196_26, sf_196_26, fd_196_27, fd_196_28, fd_196_29, fd_196_30, sf_196_30, fd_196_31, fd_196_32, fd_196_33, fd_196_34, fd_196_35, fd_196_36, fd_196_37, sf_196_37, fd_196_38, fd_196_39, sf_196_39, fd_196_40, sf_196_40, fd_196_41, sf_196_41, fd_196_42, fd_196_43, fd_196_44, ld_197, sd_197, ln_197, b_mo_came_35, szS_0, szS_i, szS_r, szS_l, x_cons, x_goto, ob_some, kl_i, kl_r, kl_l, kl_n, push_n, push_s, pop_0, pop_i, pop_r, Int.reduceToNat, List.length_cons, List.length_nil, Nat.reduceAdd, Nat.reduceLeDiff, Nat.zero_add, true_and, nI_n0, nat_le, Nat.add_zero, rt_mo_came, x_al0, x_call, x_getf, x_goto, x_iadd, x_iaload, x_ifeq, x_il1, x_il2, x_imul, x_iret, x_ldc, x_m1]
      exact H
theorem s_mbook (hw : WI (g 197)) {i k : Int32} (H : P (some (.int (bkA (g 197) i k))) (E g q)) : callC (ev (d + 2)) mo_book [.ref 196, .int i, .int k] (E g q) P := by
  refine in_mo_book rfl ?_
  unfold bkA at H
  have h2 := wi_2 hw
  rw [b_mo_book_0]
  simp -implicitDefEqProofs (disch := first | assumption | omega) only [szS_0, szS_i, szS_r, szS_l, x_cons, x_goto, ob_some, kl_i, kl_r, kl_l, kl_n, push_n, push_s, pop_0, pop_i, pop_r, Int.reduceToNat, List.length_cons, List.length_nil, Nat.reduceAdd, Nat.reduceLeDiff, Nat.zero_add, true_and, nI_n0, nat_le, Nat.add_zero, rt_mo_book, x_al0, x_call, x_getf, x_goto, x_iadd, x_iaload, x_ifeq, x_il1, x_il2, x_imul, x_iret, x_isub, x_ldc, x_m1, fd_196_0, fd_196_1, fd_196_2, fd_196_3, fd_196_4, sf_196_4, fd_196_5, sf_196_5, fd_196_6, fd_196_7, fd_196_8, fd_196_9, fd_196_10, fd_196_11, fd_196_12, sf_196_12, fd_196_13, sf_196_13, fd_196_14, sf_196_14, fd_196_15, sf_196_15, fd_196_16, sf_196_16, fd_196_17, sf_196_17, fd_196_18, sf_196_18, fd_196_19, sf_196_19, fd_196_20, sf_196_20, fd_196_21, sf_196_21, fd_196_22, sf_196_22, fd_196_23, sf_196_23, fd_196_24, sf_196_24, fd_196_25, sf_196_25, fd_196_26, sf_196_26, fd_196_27, fd_196_28, fd_196_29, fd_196_30, sf_196_30, fd_196_31, fd_196_32, fd_196_33, fd_196_34, fd_196_35, fd_196_36, fd_196_37, sf_196_37, fd_196_38, fd_196_39, sf_196_39, fd_196_40, sf_196_40, fd_196_41, sf_196_41, fd_196_42, fd_196_43, fd_196_44, ld_197, sd_197, ln_197, s_isIn, bI_0]
  by_cases h1 : nI 0 ≤ i ∧ i ≤ g 197 2 - nI 1
  · by_cases h3 : nI 0 ≤ k ∧ k ≤ nI 3
    · rw [decide_eq_true h1, decide_eq_true h3, Bool.true_and, if_pos rfl] at H
      have h4 := h1
      have hi : ∃ i', i' < 150 ∧ i = nI i' := by
        rw [h2.1] at h4
        refine nI_is h4.1 ?_ (by decide)
        have h5 := h4.2
        rw [leE, nI_sI (by omega) (by decide)] at h5
        rw [ltE, nI_I (by decide)]
        omega
      obtain ⟨i', hi, rfl⟩ := hi
      obtain ⟨k', hk, rfl⟩ := int_is h3 (by decide)
      rw [ix_nI (by omega), ix_nI (by omega)] at H
      simp -implicitDefEqProofs (disch := first | assumption | omega) only [decide_eq_true h1, decide_eq_true h3, Bool.true_eq_false, ↓reduceIte, nI_mul, nI_add, fd_196_0, fd_196_1, fd_196_2, fd_196_3, fd_196_4, sf_196_4, fd_196_5, sf_196_5, fd_196_6, fd_196_7, fd_196_8, fd_196_9, fd_196_10, fd_196_11, fd_196_12, sf_196_12, fd_196_13, sf_196_13, fd_196_14, sf_196_14, fd_196_15, sf_196_15, fd_196_16, sf_196_16, fd_196_17, sf_196_17, fd_196_18, sf_196_18, fd_196_19, sf_196_19, fd_196_20, sf_196_20, fd_196_21, sf_196_21, fd_196_22, sf_196_22, fd_196_23, sf_196_23, fd_196_24, sf_196_24, fd_196_25, sf_196_25, fd_196_26, sf_196_26, fd_196_27, fd_196_28, fd_196_29, fd_196_30, sf_196_30, fd_196_31, fd_196_32, fd_196_33, fd_196_34, fd_196_35, fd_196_36, fd_196_37, sf_196_37, fd_196_38, fd_196_39, sf_196_39, fd_196_40, sf_196_40, fd_196_41, sf_196_41, fd_196_42, fd_196_43, fd_196_44, ld_197, sd_197, ln_197, b_mo_book_43, szS_0, szS_i, szS_r, szS_l, x_cons, x_goto, ob_some, kl_i, kl_r, kl_l, kl_n, push_n, push_s, pop_0, pop_i, pop_r, Int.reduceToNat, List.length_cons, List.length_nil, Nat.reduceAdd, Nat.reduceLeDiff, Nat.zero_add, true_and, nI_n0, nat_le, Nat.add_zero, rt_mo_book, x_al0, x_call, x_getf, x_goto, x_iadd, x_iaload, x_ifeq, x_il1, x_il2, x_imul, x_iret, x_isub, x_ldc, x_m1]
      exact H
    · rw [decide_eq_true h1, decide_eq_false h3, Bool.and_false, if_neg Bool.false_ne_true] at H
      simp -implicitDefEqProofs (disch := first | assumption | omega) only [decide_eq_true h1, decide_eq_false h3, Bool.true_eq_false, ↓reduceIte, b_mo_book_42, b_mo_book_43, szS_0, szS_i, szS_r, szS_l, x_cons, x_goto, ob_some, kl_i, kl_r, kl_l, kl_n, push_n, push_s, pop_0, pop_i, pop_r, Int.reduceToNat, List.length_cons, List.length_nil, Nat.reduceAdd, Nat.reduceLeDiff, Nat.zero_add, true_and, nI_n0, nat_le, Nat.add_zero, rt_mo_book, x_al0, x_call, x_getf, x_goto, x_iadd, x_iaload, x_ifeq, x_il1, x_il2, x_imul, x_iret, x_isub, x_ldc, x_m1]
      exact H
  · rw [decide_eq_false h1, Bool.false_and, if_neg Bool.false_ne_true] at H
    simp -implicitDefEqProofs (disch := first | assumption | omega) only [decide_eq_false h1, ↓reduceIte, b_mo_book_42, b_mo_book_43, szS_0, szS_i, szS_r, szS_l, x_cons, x_goto, ob_some, kl_i, kl_r, kl_l, kl_n, push_n, push_s, pop_0, pop_i, pop_r, Int.reduceToNat, List.length_cons, List.length_nil, Nat.reduceAdd, Nat.reduceLeDiff, Nat.zero_add, true_and, nI_n0, nat_le, Nat.add_zero, rt_mo_book, x_al0, x_call, x_getf, x_goto, x_iadd, x_iaload, x_ifeq, x_il1, x_il2, x_imul, x_iret, x_isub, x_ldc, x_m1]
    exact H
theorem s_mtwice (hw : WI (g 197)) {f : Int32} (H : P (some (.int (twA (g 197) f))) (E g q)) : callC (ev (d + 6)) mo_twice [.ref 196, .int f] (E g q) P := by
  refine in_mo_twice rfl ?_
  unfold twA at H
  rw [b_mo_twice_0]
  simp -implicitDefEqProofs (disch := first | assumption | omega) only [szS_0, szS_i, szS_r, szS_l, x_cons, x_goto, ob_some, kl_i, kl_r, kl_l, kl_n, push_n, push_s, pop_0, pop_i, pop_r, Int.reduceToNat, List.length_cons, List.length_nil, Nat.reduceAdd, Nat.reduceLeDiff, Nat.zero_add, true_and, nI_n0, nat_le, Nat.add_zero, rt_mo_twice, x_al0, x_call, x_goto, x_ifeq, x_il1, x_iret, x_m1, s_isFork, bI_0]
  by_cases h1 : forkB (g 197) f = false
  · rw [if_neg (by rw [h1]; exact Bool.false_ne_true)] at H
    simp -implicitDefEqProofs (disch := first | assumption | omega) only [h1, ↓reduceIte, b_mo_twice_16, b_mo_twice_17, szS_0, szS_i, szS_r, szS_l, x_cons, x_goto, ob_some, kl_i, kl_r, kl_l, kl_n, push_n, push_s, pop_0, pop_i, pop_r, Int.reduceToNat, List.length_cons, List.length_nil, Nat.reduceAdd, Nat.reduceLeDiff, Nat.zero_add, true_and, nI_n0, nat_le, Nat.add_zero, rt_mo_twice, x_al0, x_call, x_goto, x_ifeq, x_il1, x_iret, x_m1]
    exact H
  · have h1 := bne_t h1
    rw [if_pos h1] at H
    obtain ⟨f', hf, rfl, hs⟩ := forkB_ex hw h1
    have h0 := wi_n hw
    have hf16 : f' < 16 := by omega
    rw [ix_nI (by omega)] at H
    simp -implicitDefEqProofs (disch := first | assumption | omega) only [h1, Bool.true_eq_false, ↓reduceIte, s_twiceOf, b_mo_twice_17, szS_0, szS_i, szS_r, szS_l, x_cons, x_goto, ob_some, kl_i, kl_r, kl_l, kl_n, push_n, push_s, pop_0, pop_i, pop_r, Int.reduceToNat, List.length_cons, List.length_nil, Nat.reduceAdd, Nat.reduceLeDiff, Nat.zero_add, true_and, nI_n0, nat_le, Nat.add_zero, rt_mo_twice, x_al0, x_call, x_goto, x_ifeq, x_il1, x_iret, x_m1]
    exact H
end MP
