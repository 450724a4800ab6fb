/-! more of the reference's calls -/
/-- the heads of a set's nodes below n -/
def hsF (w : Nat → Int32) (s : Nat) : Nat → Nat
  | 0 => 0
  | n + 1 => hsF w s n + (if s.testBit n = true then fd w n 10 else 0)
theorem hsF_l {w : Nat → Int32} {s : Nat} : ∀ n, hsF w s n ≤ sumH w n
  | 0 => Nat.le_refl _
  | n + 1 => by
    have := hsF_l (w := w) (s := s) n
    unfold hsF sumH
    split <;> omega
def lkA (w : Nat → Int32) (b : Int32) (k : Int32) : Int32 :=
  if nI 0 ≤ k ∧ k ≤ nI 7 then w (if k = nI 6 then 1205 else if k = nI 7 then 1206 else ix k) else if k = nI 8 then b else if k = nI 9 then nI (hsF w (tws w (nn w)) (nn w)) else if nI 10 ≤ k ∧ k ≤ nI 13 then w (ix k - 4) else -1
def rwB (a b c e : Int32) : Bool := decide (nI 0 ≤ a ∧ a ≤ nI 99) && (decide (nI 0 ≤ b ∧ b ≤ nI 99) && (decide (nI 0 ≤ c ∧ c ≤ nI 99) && (decide (nI 1 ≤ a + b + c ∧ a + b + c ≤ nI 99) && decide (nI 0 ≤ e ∧ e ≤ a + b + c - nI 1))))
/-- which arm is due: its share x, has y; n days in all, d + 1 gone -/
def duF (a b c n : Nat) (x y z d : Nat) (k : Nat) : Int32 := if k = 0 then nI (a * (d + 1)) - nI (n * x) else if k = 1 then nI (b * (d + 1)) - nI (n * y) else nI (c * (d + 1)) - nI (n * z)
def dueA (D : Nat → Int32) : Nat := if D 1 ≤ D 0 then (if D 2 ≤ D 0 then 0 else 2) else (if D 2 ≤ D 1 then 1 else 2)
/-- how many days each has -/
def rwS (a b c n : Nat) : Nat → Nat × Nat × Nat
  | 0 => (0, 0, 0)
  | d + 1 => if dueA (duF a b c n (rwS a b c n d).1 (rwS a b c n d).2.1 (rwS a b c n d).2.2 d) = 0 then ((rwS a b c n d).1 + 1, (rwS a b c n d).2.1, (rwS a b c n d).2.2)
    else if dueA (duF a b c n (rwS a b c n d).1 (rwS a b c n d).2.1 (rwS a b c n d).2.2 d) = 1 then ((rwS a b c n d).1, (rwS a b c n d).2.1 + 1, (rwS a b c n d).2.2)
    else ((rwS a b c n d).1, (rwS a b c n d).2.1, (rwS a b c n d).2.2 + 1)
def rwV (a b c n d : Nat) : Nat := dueA (duF a b c n (rwS a b c n d).1 (rwS a b c n d).2.1 (rwS a b c n d).2.2 d)
def rwA (a b c e : Int32) : Int32 := if rwB a b c e = true then nI (rwV (ix a) (ix b) (ix c) (ix a + ix b + ix c) (ix e)) else -1
theorem rwS_l {a b c n : Nat} : ∀ d, (rwS a b c n d).1 ≤ d ∧ (rwS a b c n d).2.1 ≤ d ∧ (rwS a b c n d).2.2 ≤ d
  | 0 => ⟨Nat.le_refl _, Nat.le_refl _, Nat.le_refl _⟩
  | d + 1 => by
    have := rwS_l (a := a) (b := b) (c := c) (n := n) d
    unfold rwS
    split
    · exact ⟨by show _ + 1 ≤ _; omega, by show (rwS a b c n d).2.1 ≤ _; omega, by show (rwS a b c n d).2.2 ≤ _; omega⟩
    · split
      · exact ⟨by show (rwS a b c n d).1 ≤ _; omega, by show _ + 1 ≤ _; omega, by show (rwS a b c n d).2.2 ≤ _; omega⟩
      · exact ⟨by show (rwS a b c n d).1 ≤ _; omega, by show (rwS a b c n d).2.1 ≤ _; omega, by show _ + 1 ≤ _; omega⟩
/-- the image's rows -/
def imR (w : Nat → Int32) (old : Nat → Int32) : Nat → Int32 := fun k => if k < 2955 then w k else old k
section MQ
variable {d : Nat} {g : Nat → Nat → Int32} {q : Nat → Nat → Int64} {P : QT}
theorem hs_lp (hw : WI (g 197)) {s : Nat} (hs : s < 2147483648) (H : P (some (.int (nI (hsF (g 197) s (nn (g 197)))))) (E g q)) : ∀ (j n : Nat), n + j = nn (g 197) →
    wp (ev (d + 1)) P mo_headsOf 4 [some (.ref 196), some (.int (nI s)), some (.int (nI (hsF (g 197) s n))), some (.int (nI n))] [] (E g q) := by
  have h0 := wi_n hw
  intro j
  induction j with
  | zero =>
    intro n hn
    have hn : n = nn (g 197) := hn
    rw [hn, b_mo_headsOf_4]
    simp -implicitDefEqProofs (disch := first | assumption | omega) only [szS_0, szS_i, szS_r, szS_l, x_cons, x_goto, ob_some, kl_i, kl_r, kl_l, kl_n, push_n, push_s, pop_0, pop_i, pop_r, Int.reduceToNat, List.length_cons, List.length_nil, Nat.reduceAdd, Nat.reduceLeDiff, Nat.zero_add, true_and, nI_n0, nat_le, Nat.add_zero, i_1, rt_mo_headsOf, x_al0, x_call, x_getf, x_goto, x_iadd, x_iaload, x_iand, x_icge, x_icne, x_il1, x_il2, x_il3, x_inc3, x_iret, x_is2, x_is3, x_ishr, x_ldc, fd_196_0, fd_196_1, fd_196_2, fd_196_3, fd_196_4, sf_196_4, fd_196_5, sf_196_5, fd_196_6, fd_196_7, fd_196_8, fd_196_9, fd_196_10, fd_196_11, fd_196_12, sf_196_12, fd_196_13, sf_196_13, fd_196_14, sf_196_14, fd_196_15, sf_196_15, fd_196_16, sf_196_16, fd_196_17, sf_196_17, fd_196_18, sf_196_18, fd_196_19, sf_196_19, fd_196_20, sf_196_20, fd_196_21, sf_196_21, fd_196_22, sf_196_22, fd_196_23, sf_196_23, fd_196_24, sf_196_24, fd_196_25, sf_196_25, fd_196_26, sf_196_26, fd_196_27, fd_196_28, fd_196_29, fd_196_30, sf_196_30, fd_196_31, fd_196_32, fd_196_33, fd_196_34, fd_196_35, fd_196_36, fd_196_37, sf_196_37, fd_196_38, fd_196_39, sf_196_39, fd_196_40, sf_196_40, fd_196_41, sf_196_41, fd_196_42, fd_196_43, fd_196_44, ld_197, sd_197, ln_197, h0.1, nI_ltE, Nat.lt_irrefl, ↓reduceIte, b_mo_headsOf_43]
    exact H
  | succ j ih =>
    intro n hn
    have hn' : n < nn (g 197) := by omega
    have hy := wi_y hw (n := n) (by omega)
    have hi := ih (n + 1) (by omega)
    have e1 : hsF (g 197) s (n + 1) = hsF (g 197) s n + (if s.testBit n = true then fd (g 197) n 10 else 0) := rfl
    rw [e1] at hi
    rw [b_mo_headsOf_4]
    simp -implicitDefEqProofs (disch := first | assumption | omega) only [szS_0, szS_i, szS_r, szS_l, x_cons, x_goto, ob_some, kl_i, kl_r, kl_l, kl_n, push_n, push_s, pop_0, pop_i, pop_r, Int.reduceToNat, List.length_cons, List.length_nil, Nat.reduceAdd, Nat.reduceLeDiff, Nat.zero_add, true_and, nI_n0, nat_le, Nat.add_zero, i_1, rt_mo_headsOf, x_al0, x_call, x_getf, x_goto, x_iadd, x_iaload, x_iand, x_icge, x_icne, x_il1, x_il2, x_il3, x_inc3, x_iret, x_is2, x_is3, x_ishr, x_ldc, fd_196_0, fd_196_1, fd_196_2, fd_196_3, fd_196_4, sf_196_4, fd_196_5, sf_196_5, fd_196_6, fd_196_7, fd_196_8, fd_196_9, fd_196_10, fd_196_11, fd_196_12, sf_196_12, fd_196_13, sf_196_13, fd_196_14, sf_196_14, fd_196_15, sf_196_15, fd_196_16, sf_196_16, fd_196_17, sf_196_17, fd_196_18, sf_196_18, fd_196_19, sf_196_19, fd_196_20, sf_196_20, fd_196_21, sf_196_21, fd_196_22, sf_196_22, fd_196_23, sf_196_23, fd_196_24, sf_196_24, fd_196_25, sf_196_25, fd_196_26, sf_196_26, fd_196_27, fd_196_28, fd_196_29, fd_196_30, sf_196_30, fd_196_31, fd_196_32, fd_196_33, fd_196_34, fd_196_35, fd_196_36, fd_196_37, sf_196_37, fd_196_38, fd_196_39, sf_196_39, fd_196_40, sf_196_40, fd_196_41, sf_196_41, fd_196_42, fd_196_43, fd_196_44, ld_197, sd_197, ln_197, h0.1, nI_ltE, hn', ↓reduceIte, nI_bt, tbI_1]
    by_cases h : s.testBit n = true
    · rw [if_pos h] at hi
      simp -implicitDefEqProofs (disch := first | assumption | omega) only [h, ↓reduceIte, szS_0, szS_i, szS_r, szS_l, x_cons, x_goto, ob_some, kl_i, kl_r, kl_l, kl_n, push_n, push_s, pop_0, pop_i, pop_r, Int.reduceToNat, List.length_cons, List.length_nil, Nat.reduceAdd, Nat.reduceLeDiff, Nat.zero_add, true_and, nI_n0, nat_le, Nat.add_zero, i_1, rt_mo_headsOf, x_al0, x_call, x_getf, x_goto, x_iadd, x_iaload, x_iand, x_icge, x_icne, x_il1, x_il2, x_il3, x_inc3, x_iret, x_is2, x_is3, x_ishr, x_ldc, s_own, hy.1.1, b_mo_headsOf_35, nI_add]
      exact hi
    · rw [if_neg h] at hi
      simp -implicitDefEqProofs (disch := first | assumption | omega) only [h, ↓reduceIte, szS_0, szS_i, szS_r, szS_l, x_cons, x_goto, ob_some, kl_i, kl_r, kl_l, kl_n, push_n, push_s, pop_0, pop_i, pop_r, Int.reduceToNat, List.length_cons, List.length_nil, Nat.reduceAdd, Nat.reduceLeDiff, Nat.zero_add, true_and, nI_n0, nat_le, Nat.add_zero, i_1, rt_mo_headsOf, x_al0, x_call, x_getf, x_goto, x_iadd, x_iaload, x_iand, x_icge, x_icne, x_il1, x_il2, x_il3, x_inc3, x_iret, x_is2, x_is3, x_ishr, x_ldc, b_mo_headsOf_34, b_mo_headsOf_35, nI_add, Bool.false_eq_true]
      exact hi
theorem s_headsOf (hw : WI (g 197)) {s : Nat} (hs : s < 2147483648) : callC (ev (d + 2)) mo_headsOf [.ref 196, .int (nI s)] (E g q) P = P (some (.int (nI (hsF (g 197) s (nn (g 197)))))) (E g q) := by
  refine call_eq (in_mo_headsOf rfl ?_)
  rw [b_mo_headsOf_0]
  simp -implicitDefEqProofs (disch := first | assumption | omega) only [szS_0, szS_i, szS_r, szS_l, x_cons, x_goto, ob_some, kl_i, kl_r, kl_l, kl_n, push_n, push_s, pop_0, pop_i, pop_r, Int.reduceToNat, List.length_cons, List.length_nil, Nat.reduceAdd, Nat.reduceLeDiff, Nat.zero_add, true_and, nI_n0, nat_le, Nat.add_zero, i_1, rt_mo_headsOf, x_al0, x_call, x_getf, x_goto, x_iadd, x_iaload, x_iand, x_icge, x_icne, x_il1, x_il2, x_il3, x_inc3, x_iret, x_is2, x_is3, x_ishr, x_ldc]
  exact hs_lp hw hs ⟨rfl, rfl⟩ (nn (g 197)) 0 (Nat.zero_add _)
theorem s_mlook (hw : WI (g 197)) {k : Int32} (H : P (some (.int (lkA (g 197) (g 196 4) k))) (E g q)) : callC (ev (d + 5)) mo_look [.ref 196, .int k] (E g q) P := by
  refine in_mo_look rfl ?_
  have h0 := wi_n hw
  have htl := tws_lt (g 197) (n := nn (g 197)) (by omega)
  rw [b_mo_look_0]
  simp only [x_cons, x_il1, x_tsw]
  by_cases h1 : nI 0 ≤ k ∧ k ≤ nI 9
  · obtain ⟨k', hk, rfl⟩ := int_is h1 (by decide)
    have : k' = 0 ∨ k' = 1 ∨ k' = 2 ∨ k' = 3 ∨ k' = 4 ∨ k' = 5 ∨ k' = 6 ∨ k' = 7 ∨ k' = 8 ∨ k' = 9 := by omega
    rcases this with rfl | rfl | rfl | rfl | rfl | rfl | rfl | rfl | rfl | rfl
    · show wp (ev (d + 4)) _ mo_look 56 _ _ _
      simp -implicitDefEqProofs (disch := first | assumption | omega) only [szS_0, szS_i, szS_r, szS_l, x_cons, x_goto, ob_some, kl_i, kl_r, kl_l, kl_n, push_n, push_s, pop_0, pop_i, pop_r, Int.reduceToNat, List.length_cons, List.length_nil, Nat.reduceAdd, Nat.reduceLeDiff, Nat.zero_add, true_and, nI_n0, nat_le, Nat.add_zero, rt_mo_look, x_al0, x_call, x_getf, x_goto, x_iadd, x_iaload, x_ifeq, x_il1, x_iret, x_isub, x_ldc, x_m1, x_tsw, b_mo_look_0, b_mo_look_56, b_mo_look_63, b_mo_look_70, b_mo_look_77, b_mo_look_84, b_mo_look_91, b_mo_look_98, b_mo_look_107, b_mo_look_116, b_mo_look_121, b_mo_look_130, b_mo_look_156, b_mo_look_157, fd_196_0, fd_196_1, fd_196_2, fd_196_3, fd_196_4, sf_196_4, fd_196_5, sf_196_5, fd_196_6, fd_196_7, fd_196_8, fd_196_9, fd_196_10, fd_196_11, fd_196_12, sf_196_12, fd_196_13, sf_196_13, fd_196_14, sf_196_14, fd_196_15, sf_196_15, fd_196_16, sf_196_16, fd_196_17, sf_196_17, fd_196_18, sf_196_18, fd_196_19, sf_196_19, fd_196_20, sf_196_20, fd_196_21, sf_196_21, fd_196_22, sf_196_22, fd_196_23, sf_196_23, fd_196_24, sf_196_24, fd_196_25, sf_196_25, fd_196_26, sf_196_26, fd_196_27, fd_196_28, fd_196_29, fd_196_30, sf_196_30, fd_196_31, fd_196_32, fd_196_33, fd_196_34, fd_196_35, fd_196_36, fd_196_37, sf_196_37, fd_196_38, fd_196_39, sf_196_39, fd_196_40, sf_196_40, fd_196_41, sf_196_41, fd_196_42, fd_196_43, fd_196_44, ld_197, sd_197, ln_197]
      exact H
    · show wp (ev (d + 4)) _ mo_look 63 _ _ _
      simp -implicitDefEqProofs (disch := first | assumption | omega) only [szS_0, szS_i, szS_r, szS_l, x_cons, x_goto, ob_some, kl_i, kl_r, kl_l, kl_n, push_n, push_s, pop_0, pop_i, pop_r, Int.reduceToNat, List.length_cons, List.length_nil, Nat.reduceAdd, Nat.reduceLeDiff, Nat.zero_add, true_and, nI_n0, nat_le, Nat.add_zero, rt_mo_look, x_al0, x_call, x_getf, x_goto, x_iadd, x_iaload, x_ifeq, x_il1, x_iret, x_isub, x_ldc, x_m1, x_tsw, b_mo_look_0, b_mo_look_56, b_mo_look_63, b_mo_look_70, b_mo_look_77, b_mo_look_84, b_mo_look_91, b_mo_look_98, b_mo_look_107, b_mo_look_116, b_mo_look_121, b_mo_look_130, b_mo_look_156, b_mo_look_157, fd_196_0, fd_196_1, fd_196_2, fd_196_3, fd_196_4, sf_196_4, fd_196_5, sf_196_5, fd_196_6, fd_196_7, fd_196_8, fd_196_9, fd_196_10, fd_196_11, fd_196_12, sf_196_12, fd_196_13, sf_196_13, fd_196_14, sf_196_14, fd_196_15, sf_196_15, fd_196_16, sf_196_16, fd_196_17, sf_196_17, fd_196_18, sf_196_18, fd_196_19, sf_196_19, fd_196_20, sf_196_20, fd_196_21, sf_196_21, fd_196_22, sf_196_22, fd_196_23, sf_196_23, fd_196_24, sf_196_24, fd_196_25, sf_196_25, fd_196_26, sf_196_26, fd_196_27, fd_196_28, fd_196_29, fd_196_30, sf_196_30, fd_196_31, fd_196_32, fd_196_33, fd_196_34, fd_196_35, fd_196_36, fd_196_37, sf_196_37, fd_196_38, fd_196_39, sf_196_39, fd_196_40, sf_196_40, fd_196_41, sf_196_41, fd_196_42, fd_196_43, fd_196_44, ld_197, sd_197, ln_197]
      exact H
    · show wp (ev (d + 4)) _ mo_look 70 _ _ _
      simp -implicitDefEqProofs (disch := first | assumption | omega) only [szS_0, szS_i, szS_r, szS_l, x_cons, x_goto, ob_some, kl_i, kl_r, kl_l, kl_n, push_n, push_s, pop_0, pop_i, pop_r, Int.reduceToNat, List.length_cons, List.length_nil, Nat.reduceAdd, Nat.reduceLeDiff, Nat.zero_add, true_and, nI_n0, nat_le, Nat.add_zero, rt_mo_look, x_al0, x_call, x_getf, x_goto, x_iadd, x_iaload, x_ifeq, x_il1, x_iret, x_isub, x_ldc, x_m1, x_tsw, b_mo_look_0, b_mo_look_56, b_mo_look_63, b_mo_look_70, b_mo_look_77, b_mo_look_84, b_mo_look_91, b_mo_look_98, b_mo_look_107, b_mo_look_116, b_mo_look_121, b_mo_look_130, b_mo_look_156, b_mo_look_157, fd_196_0, fd_196_1, fd_196_2, fd_196_3, fd_196_4, sf_196_4, fd_196_5, sf_196_5, fd_196_6, fd_196_7, fd_196_8, fd_196_9, fd_196_10, fd_196_11, fd_196_12, sf_196_12, fd_196_13, sf_196_13, fd_196_14, sf_196_14, fd_196_15, sf_196_15, fd_196_16, sf_196_16, fd_196_17, sf_196_17, fd_196_18, sf_196_18, fd_196_19, sf_196_19, fd_196_20, sf_196_20, fd_196_21, sf_196_21, fd_196_22, sf_196_22, fd_196_23, sf_196_23, fd_196_24, sf_196_24, fd_196_25, sf_196_25, fd_196_26, sf_196_26, fd_196_27, fd_196_28, fd_196_29, fd_196_30, sf_196_30, fd_196_31, fd_196_32, fd_196_33, fd_196_34, fd_196_35, fd_196_36, fd_196_37, sf_196_37, fd_196_38, fd_196_39, sf_196_39, fd_196_40, sf_196_40, fd_196_41, sf_196_41, fd_196_42, fd_196_43, fd_196_44, ld_197, sd_197, ln_197]
      exact H
    · show wp (ev (d + 4)) _ mo_look 77 _ _ _
      simp -implicitDefEqProofs (disch := first | assumption | omega) only [szS_0, szS_i, szS_r, szS_l, x_cons, x_goto, ob_some, kl_i, kl_r, kl_l, kl_n, push_n, push_s, pop_0, pop_i, pop_r, Int.reduceToNat, List.length_cons, List.length_nil, Nat.reduceAdd, Nat.reduceLeDiff, Nat.zero_add, true_and, nI_n0, nat_le, Nat.add_zero, rt_mo_look, x_al0, x_call, x_getf, x_goto, x_iadd, x_iaload, x_ifeq, x_il1, x_iret, x_isub, x_ldc, x_m1, x_tsw, b_mo_look_0, b_mo_look_56, b_mo_look_63, b_mo_look_70, b_mo_look_77, b_mo_look_84, b_mo_look_91, b_mo_look_98, b_mo_look_107, b_mo_look_116, b_mo_look_121, b_mo_look_130, b_mo_look_156, b_mo_look_157, fd_196_0, fd_196_1, fd_196_2, fd_196_3, fd_196_4, sf_196_4, fd_196_5, sf_196_5, fd_196_6, fd_196_7, fd_196_8, fd_196_9, fd_196_10, fd_196_11, fd_196_12, sf_196_12, fd_196_13, sf_196_13, fd_196_14, sf_196_14, fd_196_15, sf_196_15, fd_196_16, sf_196_16, fd_196_17, sf_196_17, fd_196_18, sf_196_18, fd_196_19, sf_196_19, fd_196_20, sf_196_20, fd_196_21, sf_196_21, fd_196_22, sf_196_22, fd_196_23, sf_196_23, fd_196_24, sf_196_24, fd_196_25, sf_196_25, fd_196_26, sf_196_26, fd_196_27, fd_196_28, fd_196_29, fd_196_30, sf_196_30, fd_196_31, fd_196_32, fd_196_33, fd_196_34, fd_196_35, fd_196_36, fd_196_37, sf_196_37, fd_196_38, fd_196_39, sf_196_39, fd_196_40, sf_196_40, fd_196_41, sf_196_41, fd_196_42, fd_196_43, fd_196_44, ld_197, sd_197, ln_197]
      exact H
    · show wp (ev (d + 4)) _ mo_look 84 _ _ _
      simp -implicitDefEqProofs (disch := first | assumption | omega) only [szS_0, szS_i, szS_r, szS_l, x_cons, x_goto, ob_some, kl_i, kl_r, kl_l, kl_n, push_n, push_s, pop_0, pop_i, pop_r, Int.reduceToNat, List.length_cons, List.length_nil, Nat.reduceAdd, Nat.reduceLeDiff, Nat.zero_add, true_and, nI_n0, nat_le, Nat.add_zero, rt_mo_look, x_al0, x_call, x_getf, x_goto, x_iadd, x_iaload, x_ifeq, x_il1, x_iret, x_isub, x_ldc, x_m1, x_tsw, b_mo_look_0, b_mo_look_56, b_mo_look_63, b_mo_look_70, b_mo_look_77, b_mo_look_84, b_mo_look_91, b_mo_look_98, b_mo_look_107, b_mo_look_116, b_mo_look_121, b_mo_look_130, b_mo_look_156, b_mo_look_157, fd_196_0, fd_196_1, fd_196_2, fd_196_3, fd_196_4, sf_196_4, fd_196_5, sf_196_5, fd_196_6, fd_196_7, fd_196_8, fd_196_9, fd_196_10, fd_196_11, fd_196_12, sf_196_12, fd_196_13, sf_196_13, fd_196_14, sf_196_14, fd_196_15, sf_196_15, fd_196_16, sf_196_16, fd_196_17, sf_196_17, fd_196_18, sf_196_18, fd_196_19, sf_196_19, fd_196_20, sf_196_20, fd_196_21, sf_196_21, fd_196_22, sf_196_22, fd_196_23, sf_196_23, fd_196_24, sf_196_24, fd_196_25, sf_196_25, fd_196_26, sf_196_26, fd_196_27, fd_196_28, fd_196_29, fd_196_30, sf_196_30, fd_196_31, fd_196_32, fd_196_33, fd_196_34, fd_196_35, fd_196_36, fd_196_37, sf_196_37, fd_196_38, fd_196_39, sf_196_39, fd_196_40, sf_196_40, fd_196_41, sf_196_41, fd_196_42, fd_196_43, fd_196_44, ld_197, sd_197, ln_197]
      exact H
    · show wp (ev (d + 4)) _ mo_look 91 _ _ _
      simp -implicitDefEqProofs (disch := first | assumption | omega) only [szS_0, szS_i, szS_r, szS_l, x_cons, x_goto, ob_some, kl_i, kl_r, kl_l, kl_n, push_n, push_s, pop_0, pop_i, pop_r, Int.reduceToNat, List.length_cons, List.length_nil, Nat.reduceAdd, Nat.reduceLeDiff, Nat.zero_add, true_and, nI_n0, nat_le, Nat.add_zero, rt_mo_look, x_al0, x_call, x_getf, x_goto, x_iadd, x_iaload, x_ifeq, x_il1, x_iret, x_isub, x_ldc, x_m1, x_tsw, b_mo_look_0, b_mo_look_56, b_mo_look_63, b_mo_look_70, b_mo_look_77, b_mo_look_84, b_mo_look_91, b_mo_look_98, b_mo_look_107, b_mo_look_116, b_mo_look_121, b_mo_look_130, b_mo_look_156, b_mo_look_157, fd_196_0, fd_196_1, fd_196_2, fd_196_3, fd_196_4, sf_196_4, fd_196_5, sf_196_5, fd_196_6, fd_196_7, fd_196_8, fd_196_9, fd_196_10, fd_196_11, fd_196_12, sf_196_12, fd_196_13, sf_196_13, fd_196_14, sf_196_14, fd_196_15, sf_196_15, fd_196_16, sf_196_16, fd_196_17, sf_196_17, fd_196_18, sf_196_18, fd_196_19, sf_196_19, fd_196_20, sf_196_20, fd_196_21, sf_196_21, fd_196_22, sf_196_22, fd_196_23, sf_196_23, fd_196_24, sf_196_24, fd_196_25, sf_196_25, fd_196_26, sf_196_26, fd_196_27, fd_196_28, fd_196_29, fd_196_30, sf_196_30, fd_196_31, fd_196_32, fd_196_33, fd_196_34, fd_196_35, fd_196_36, fd_196_37, sf_196_37, fd_196_38, fd_196_39, sf_196_39, fd_196_40, sf_196_40, fd_196_41, sf_196_41, fd_196_42, fd_196_43, fd_196_44, ld_197, sd_197, ln_197]
      exact H
    · show wp (ev (d + 4)) _ mo_look 98 _ _ _
      simp -implicitDefEqProofs (disch := first | assumption | omega) only [szS_0, szS_i, szS_r, szS_l, x_cons, x_goto, ob_some, kl_i, kl_r, kl_l, kl_n, push_n, push_s, pop_0, pop_i, pop_r, Int.reduceToNat, List.length_cons, List.length_nil, Nat.reduceAdd, Nat.reduceLeDiff, Nat.zero_add, true_and, nI_n0, nat_le, Nat.add_zero, rt_mo_look, x_al0, x_call, x_getf, x_goto, x_iadd, x_iaload, x_ifeq, x_il1, x_iret, x_isub, x_ldc, x_m1, x_tsw, b_mo_look_0, b_mo_look_56, b_mo_look_63, b_mo_look_70, b_mo_look_77, b_mo_look_84, b_mo_look_91, b_mo_look_98, b_mo_look_107, b_mo_look_116, b_mo_look_121, b_mo_look_130, b_mo_look_156, b_mo_look_157, fd_196_0, fd_196_1, fd_196_2, fd_196_3, fd_196_4, sf_196_4, fd_196_5, sf_196_5, fd_196_6, fd_196_7, fd_196_8, fd_196_9, fd_196_10, fd_196_11, fd_196_12, sf_196_12, fd_196_13, sf_196_13, fd_196_14, sf_196_14, fd_196_15, sf_196_15, fd_196_16, sf_196_16, fd_196_17, sf_196_17, fd_196_18, sf_196_18, fd_196_19, sf_196_19, fd_196_20, sf_196_20, fd_196_21, sf_196_21, fd_196_22, sf_196_22, fd_196_23, sf_196_23, fd_196_24, sf_196_24, fd_196_25, sf_196_25, fd_196_26, sf_196_26, fd_196_27, fd_196_28, fd_196_29, fd_196_30, sf_196_30, fd_196_31, fd_196_32, fd_196_33, fd_196_34, fd_196_35, fd_196_36, fd_196_37, sf_196_37, fd_196_38, fd_196_39, sf_196_39, fd_196_40, sf_196_40, fd_196_41, sf_196_41, fd_196_42, fd_196_43, fd_196_44, ld_197, sd_197, ln_197]
      exact H
    · show wp (ev (d + 4)) _ mo_look 107 _ _ _
      simp -implicitDefEqProofs (disch := first | assumption | omega) only [szS_0, szS_i, szS_r, szS_l, x_cons, x_goto, ob_some, kl_i, kl_r, kl_l, kl_n, push_n, push_s, pop_0, pop_i, pop_r, Int.reduceToNat, List.length_cons, List.length_nil, Nat.reduceAdd, Nat.reduceLeDiff, Nat.zero_add, true_and, nI_n0, nat_le, Nat.add_zero, rt_mo_look, x_al0, x_call, x_getf, x_goto, x_iadd, x_iaload, x_ifeq, x_il1, x_iret, x_isub, x_ldc, x_m1, x_tsw, b_mo_look_0, b_mo_look_56, b_mo_look_63, b_mo_look_70, b_mo_look_77, b_mo_look_84, b_mo_look_91, b_mo_look_98, b_mo_look_107, b_mo_look_116, b_mo_look_121, b_mo_look_130, b_mo_look_156, b_mo_look_157, fd_196_0, fd_196_1, fd_196_2, fd_196_3, fd_196_4, sf_196_4, fd_196_5, sf_196_5, fd_196_6, fd_196_7, fd_196_8, fd_196_9, fd_196_10, fd_196_11, fd_196_12, sf_196_12, fd_196_13, sf_196_13, fd_196_14, sf_196_14, fd_196_15, sf_196_15, fd_196_16, sf_196_16, fd_196_17, sf_196_17, fd_196_18, sf_196_18, fd_196_19, sf_196_19, fd_196_20, sf_196_20, fd_196_21, sf_196_21, fd_196_22, sf_196_22, fd_196_23, sf_196_23, fd_196_24, sf_196_24, fd_196_25, sf_196_25, fd_196_26, sf_196_26, fd_196_27, fd_196_28, fd_196_29, fd_196_30, sf_196_30, fd_196_31, fd_196_32, fd_196_33, fd_196_34, fd_196_35, fd_196_36, fd_196_37, sf_196_37, fd_196_38, fd_196_39, sf_196_39, fd_196_40, sf_196_40, fd_196_41, sf_196_41, fd_196_42, fd_196_43, fd_196_44, ld_197, sd_197, ln_197]
      exact H
    · show wp (ev (d + 4)) _ mo_look 116 _ _ _
      simp -implicitDefEqProofs (disch := first | assumption | omega) only [szS_0, szS_i, szS_r, szS_l, x_cons, x_goto, ob_some, kl_i, kl_r, kl_l, kl_n, push_n, push_s, pop_0, pop_i, pop_r, Int.reduceToNat, List.length_cons, List.length_nil, Nat.reduceAdd, Nat.reduceLeDiff, Nat.zero_add, true_and, nI_n0, nat_le, Nat.add_zero, rt_mo_look, x_al0, x_call, x_getf, x_goto, x_iadd, x_iaload, x_ifeq, x_il1, x_iret, x_isub, x_ldc, x_m1, x_tsw, b_mo_look_0, b_mo_look_56, b_mo_look_63, b_mo_look_70, b_mo_look_77, b_mo_look_84, b_mo_look_91, b_mo_look_98, b_mo_look_107, b_mo_look_116, b_mo_look_121, b_mo_look_130, b_mo_look_156, b_mo_look_157, fd_196_0, fd_196_1, fd_196_2, fd_196_3, fd_196_4, sf_196_4, fd_196_5, sf_196_5, fd_196_6, fd_196_7, fd_196_8, fd_196_9, fd_196_10, fd_196_11, fd_196_12, sf_196_12, fd_196_13, sf_196_13, fd_196_14, sf_196_14, fd_196_15, sf_196_15, fd_196_16, sf_196_16, fd_196_17, sf_196_17, fd_196_18, sf_196_18, fd_196_19, sf_196_19, fd_196_20, sf_196_20, fd_196_21, sf_196_21, fd_196_22, sf_196_22, fd_196_23, sf_196_23, fd_196_24, sf_196_24, fd_196_25, sf_196_25, fd_196_26, sf_196_26, fd_196_27, fd_196_28, fd_196_29, fd_196_30, sf_196_30, fd_196_31, fd_196_32, fd_196_33, fd_196_34, fd_196_35, fd_196_36, fd_196_37, sf_196_37, fd_196_38, fd_196_39, sf_196_39, fd_196_40, sf_196_40, fd_196_41, sf_196_41, fd_196_42, fd_196_43, fd_196_44, ld_197, sd_197, ln_197]
      exact H
    · show wp (ev (d + 4)) _ mo_look 121 _ _ _
      simp -implicitDefEqProofs (disch := first | assumption | omega) only [szS_0, szS_i, szS_r, szS_l, x_cons, x_goto, ob_some, kl_i, kl_r, kl_l, kl_n, push_n, push_s, pop_0, pop_i, pop_r, Int.reduceToNat, List.length_cons, List.length_nil, Nat.reduceAdd, Nat.reduceLeDiff, Nat.zero_add, true_and, nI_n0, nat_le, Nat.add_zero, rt_mo_look, x_al0, x_call, x_getf, x_goto, x_iadd, x_iaload, x_ifeq, x_il1, x_iret, x_isub, x_ldc, x_m1, x_tsw, b_mo_look_0, b_mo_look_56, b_mo_look_63, b_mo_look_70, b_mo_look_77, b_mo_look_84, b_mo_look_91, b_mo_look_98, b_mo_look_107, b_mo_look_116, b_mo_look_121, b_mo_look_130, b_mo_look_156, b_mo_look_157, fd_196_0, fd_196_1, fd_196_2, fd_196_3, fd_196_4, sf_196_4, fd_196_5, sf_196_5, fd_196_6, fd_196_7, fd_196_8, fd_196_9, fd_196_10, fd_196_11, fd_196_12, sf_196_12, fd_196_13, sf_196_13, fd_196_14, sf_196_14, fd_196_15, sf_196_15, fd_196_16, sf_196_16, fd_196_17, sf_196_17, fd_196_18, sf_196_18, fd_196_19, sf_196_19, fd_196_20, sf_196_20, fd_196_21, sf_196_21, fd_196_22, sf_196_22, fd_196_23, sf_196_23, fd_196_24, sf_196_24, fd_196_25, sf_196_25, fd_196_26, sf_196_26, fd_196_27, fd_196_28, fd_196_29, fd_196_30, sf_196_30, fd_196_31, fd_196_32, fd_196_33, fd_196_34, fd_196_35, fd_196_36, fd_196_37, sf_196_37, fd_196_38, fd_196_39, sf_196_39, fd_196_40, sf_196_40, fd_196_41, sf_196_41, fd_196_42, fd_196_43, fd_196_44, ld_197, sd_197, ln_197, s_towns, s_headsOf]
      exact H
  · have hc : k.toInt < 0 ∨ 9 < k.toInt := by
      rw [leE, leE, nI_I (by decide), nI_I (by decide)] at h1
      omega
    have e1 : ¬ (nI 0 ≤ k ∧ k ≤ nI 7) := by
      rw [leE, leE, nI_I (by decide), nI_I (by decide)]
      omega
    have e2 : ¬ k = nI 8 := fun e => by
      rw [e, nI_I (by decide)] at hc
      omega
    have e3 : ¬ k = nI 9 := fun e => by
      rw [e, nI_I (by decide)] at hc
      omega
    unfold lkA at H
    rw [if_neg e1, if_neg e2, if_neg e3] at H
    rw [if_pos hc]
    show wp (ev (d + 4)) _ mo_look 130 _ _ _
    rw [b_mo_look_130]
    simp -implicitDefEqProofs (disch := first | assumption | omega) only [szS_0, szS_i, szS_r, szS_l, x_cons, x_goto, ob_some, kl_i, kl_r, kl_l, kl_n, push_n, push_s, pop_0, pop_i, pop_r, Int.reduceToNat, List.length_cons, List.length_nil, Nat.reduceAdd, Nat.reduceLeDiff, Nat.zero_add, true_and, nI_n0, nat_le, Nat.add_zero, rt_mo_look, x_al0, x_call, x_getf, x_goto, x_iadd, x_iaload, x_ifeq, x_il1, x_iret, x_isub, x_ldc, x_m1, x_tsw, s_isIn, bI_0]
    by_cases h2 : nI 10 ≤ k ∧ k ≤ nI 13
    · rw [if_pos h2] at H
      obtain ⟨k', hk1, hk2, rfl⟩ := int_in h2 (by decide) (by decide)
      rw [ix_nI (by omega)] at H
      have e : 6 + k' - 10 = k' - 4 := by omega
      simp -implicitDefEqProofs (disch := first | assumption | omega) only [decide_eq_true h2, Bool.true_eq_false, ↓reduceIte, fd_196_0, fd_196_1, fd_196_2, fd_196_3, fd_196_4, sf_196_4, fd_196_5, sf_196_5, fd_196_6, fd_196_7, fd_196_8, fd_196_9, fd_196_10, fd_196_11, fd_196_12, sf_196_12, fd_196_13, sf_196_13, fd_196_14, sf_196_14, fd_196_15, sf_196_15, fd_196_16, sf_196_16, fd_196_17, sf_196_17, fd_196_18, sf_196_18, fd_196_19, sf_196_19, fd_196_20, sf_196_20, fd_196_21, sf_196_21, fd_196_22, sf_196_22, fd_196_23, sf_196_23, fd_196_24, sf_196_24, fd_196_25, sf_196_25, fd_196_26, sf_196_26, fd_196_27, fd_196_28, fd_196_29, fd_196_30, sf_196_30, fd_196_31, fd_196_32, fd_196_33, fd_196_34, fd_196_35, fd_196_36, fd_196_37, sf_196_37, fd_196_38, fd_196_39, sf_196_39, fd_196_40, sf_196_40, fd_196_41, sf_196_41, fd_196_42, fd_196_43, fd_196_44, ld_197, sd_197, ln_197, nI_add, nI_sub, e, b_mo_look_157, szS_0, szS_i, szS_r, szS_l, x_cons, x_goto, ob_some, kl_i, kl_r, kl_l, kl_n, push_n, push_s, pop_0, pop_i, pop_r, Int.reduceToNat, List.length_cons, List.length_nil, Nat.reduceAdd, Nat.reduceLeDiff, Nat.zero_add, true_and, nI_n0, nat_le, Nat.add_zero, rt_mo_look, x_al0, x_call, x_getf, x_goto, x_iadd, x_iaload, x_ifeq, x_il1, x_iret, x_isub, x_ldc, x_m1, x_tsw]
      exact H
    · rw [if_neg h2] at H
      simp -implicitDefEqProofs (disch := first | assumption | omega) only [decide_eq_false h2, ↓reduceIte, b_mo_look_156, b_mo_look_157, szS_0, szS_i, szS_r, szS_l, x_cons, x_goto, ob_some, kl_i, kl_r, kl_l, kl_n, push_n, push_s, pop_0, pop_i, pop_r, Int.reduceToNat, List.length_cons, List.length_nil, Nat.reduceAdd, Nat.reduceLeDiff, Nat.zero_add, true_and, nI_n0, nat_le, Nat.add_zero, rt_mo_look, x_al0, x_call, x_getf, x_goto, x_iadd, x_iaload, x_ifeq, x_il1, x_iret, x_isub, x_ldc, x_m1, x_tsw]
      exact H
theorem s_mfault {k : Int32} (H : P (some (.int (if k = nI 0 then g 196 24 else if k = nI 1 then g 196 26 else -1))) (E g q)) : callC (ev (d + 1)) mo_fault [.ref 196, .int k] (E g q) P := by
  refine in_mo_fault rfl ?_
  rw [b_mo_fault_0]
  simp -implicitDefEqProofs (disch := first | assumption | omega) only [szS_0, szS_i, szS_r, szS_l, x_cons, x_goto, ob_some, kl_i, kl_r, kl_l, kl_n, push_n, push_s, pop_0, pop_i, pop_r, Int.reduceToNat, List.length_cons, List.length_nil, Nat.reduceAdd, Nat.reduceLeDiff, Nat.zero_add, true_and, nI_n0, nat_le, Nat.add_zero, rt_mo_fault, x_al0, x_getf, x_goto, x_icne, x_ifne, x_il1, x_iret, x_ldc, x_m1]
  by_cases h : k = nI 0
  · rw [if_pos h] at H
    simp -implicitDefEqProofs (disch := first | assumption | omega) only [h, ↓reduceIte, szS_0, szS_i, szS_r, szS_l, x_cons, x_goto, ob_some, kl_i, kl_r, kl_l, kl_n, push_n, push_s, pop_0, pop_i, pop_r, Int.reduceToNat, List.length_cons, List.length_nil, Nat.reduceAdd, Nat.reduceLeDiff, Nat.zero_add, true_and, nI_n0, nat_le, Nat.add_zero, rt_mo_fault, x_al0, x_getf, x_goto, x_icne, x_ifne, x_il1, x_iret, x_ldc, x_m1, fd_196_0, fd_196_1, fd_196_2, fd_196_3, fd_196_4, sf_196_4, fd_196_5, sf_196_5, fd_196_6, fd_196_7, fd_196_8, fd_196_9, fd_196_10, fd_196_11, fd_196_12, sf_196_12, fd_196_13, sf_196_13, fd_196_14, sf_196_14, fd_196_15, sf_196_15, fd_196_16, sf_196_16, fd_196_17, sf_196_17, fd_196_18, sf_196_18, fd_196_19, sf_196_19, fd_196_20, sf_196_20, fd_196_21, sf_196_21, fd_196_22, sf_196_22, fd_196_23, sf_196_23, fd_196_24, sf_196_24, fd_196_25, sf_196_25, fd_196_26, sf_196_26, fd_196_27, fd_196_28, fd_196_29, fd_196_30, sf_196_30, fd_196_31, fd_196_32, fd_196_33, fd_196_34, fd_196_35, fd_196_36, fd_196_37, sf_196_37, fd_196_38, fd_196_39, sf_196_39, fd_196_40, sf_196_40, fd_196_41, sf_196_41, fd_196_42, fd_196_43, fd_196_44, b_mo_fault_24]
    exact H
  · rw [if_neg h] at H
    simp -implicitDefEqProofs (disch := first | assumption | omega) only [h, ↓reduceIte, szS_0, szS_i, szS_r, szS_l, x_cons, x_goto, ob_some, kl_i, kl_r, kl_l, kl_n, push_n, push_s, pop_0, pop_i, pop_r, Int.reduceToNat, List.length_cons, List.length_nil, Nat.reduceAdd, Nat.reduceLeDiff, Nat.zero_add, true_and, nI_n0, nat_le, Nat.add_zero, rt_mo_fault, x_al0, x_getf, x_goto, x_icne, x_ifne, x_il1, x_iret, x_ldc, x_m1, b_mo_fault_11]
    by_cases h1 : k = nI 1
    · rw [if_pos h1] at H
      simp -implicitDefEqProofs (disch := first | assumption | omega) only [h1, ↓reduceIte, szS_0, szS_i, szS_r, szS_l, x_cons, x_goto, ob_some, kl_i, kl_r, kl_l, kl_n, push_n, push_s, pop_0, pop_i, pop_r, Int.reduceToNat, List.length_cons, List.length_nil, Nat.reduceAdd, Nat.reduceLeDiff, Nat.zero_add, true_and, nI_n0, nat_le, Nat.add_zero, rt_mo_fault, x_al0, x_getf, x_goto, x_icne, x_ifne, x_il1, x_iret, x_ldc, x_m1, fd_196_0, fd_196_1, fd_196_2, fd_196_3, fd_196_4, sf_196_4, fd_196_5, sf_196_5, fd_196_6, fd_196_7, fd_196_8, fd_196_9, fd_196_10, fd_196_11, fd_196_12, sf_196_12, fd_196_13, sf_196_13, fd_196_14, sf_196_14, fd_196_15, sf_196_15, fd_196_16, sf_196_16, fd_196_17, sf_196_17, fd_196_18, sf_196_18, fd_196_19, sf_196_19, fd_196_20, sf_196_20, fd_196_21, sf_196_21, fd_196_22, sf_196_22, fd_196_23, sf_196_23, fd_196_24, sf_196_24, fd_196_25, sf_196_25, fd_196_26, sf_196_26, fd_196_27, fd_196_28, fd_196_29, fd_196_30, sf_196_30, fd_196_31, fd_196_32, fd_196_33, fd_196_34, fd_196_35, fd_196_36, fd_196_37, sf_196_37, fd_196_38, fd_196_39, sf_196_39, fd_196_40, sf_196_40, fd_196_41, sf_196_41, fd_196_42, fd_196_43, fd_196_44, b_mo_fault_24]
      exact H
    · rw [if_neg h1] at H
      simp -implicitDefEqProofs (disch := first | assumption | omega) only [h1, ↓reduceIte, szS_0, szS_i, szS_r, szS_l, x_cons, x_goto, ob_some, kl_i, kl_r, kl_l, kl_n, push_n, push_s, pop_0, pop_i, pop_r, Int.reduceToNat, List.length_cons, List.length_nil, Nat.reduceAdd, Nat.reduceLeDiff, Nat.zero_add, true_and, nI_n0, nat_le, Nat.add_zero, rt_mo_fault, x_al0, x_getf, x_goto, x_icne, x_ifne, x_il1, x_iret, x_ldc, x_m1, b_mo_fault_23, b_mo_fault_24]
      exact H
theorem s_mend0 {n : Int32} (h : ¬ (nI 0 ≤ n ∧ n ≤ g 196 17)) : callC (ev (d + 2)) mo_end [.ref 196, .int n] (E g q) P = P (some (.int (nI 0))) (E g q) := by
  refine call_eq (in_mo_end rfl ?_)
  rw [b_mo_end_0]
  simp -implicitDefEqProofs (disch := first | assumption | omega) only [szS_0, szS_i, szS_r, szS_l, x_cons, x_goto, ob_some, kl_i, kl_r, kl_l, kl_n, push_n, push_s, pop_0, pop_i, pop_r, Int.reduceToNat, List.length_cons, List.length_nil, Nat.reduceAdd, Nat.reduceLeDiff, Nat.zero_add, true_and, nI_n0, nat_le, Nat.add_zero, rt_mo_end_0, rt_mo_end_1, rt_mo_end_b, x_al0, x_call, x_getf, x_ifne, x_il1, x_iret, x_ldc, x_putf, fd_196_0, fd_196_1, fd_196_2, fd_196_3, fd_196_4, sf_196_4, fd_196_5, sf_196_5, fd_196_6, fd_196_7, fd_196_8, fd_196_9, fd_196_10, fd_196_11, fd_196_12, sf_196_12, fd_196_13, sf_196_13, fd_196_14, sf_196_14, fd_196_15, sf_196_15, fd_196_16, sf_196_16, fd_196_17, sf_196_17, fd_196_18, sf_196_18, fd_196_19, sf_196_19, fd_196_20, sf_196_20, fd_196_21, sf_196_21, fd_196_22, sf_196_22, fd_196_23, sf_196_23, fd_196_24, sf_196_24, fd_196_25, sf_196_25, fd_196_26, sf_196_26, fd_196_27, fd_196_28, fd_196_29, fd_196_30, sf_196_30, fd_196_31, fd_196_32, fd_196_33, fd_196_34, fd_196_35, fd_196_36, fd_196_37, sf_196_37, fd_196_38, fd_196_39, sf_196_39, fd_196_40, sf_196_40, fd_196_41, sf_196_41, fd_196_42, fd_196_43, fd_196_44, s_isIn, bI_0, decide_eq_false h, ↓reduceIte]
  all_goals first | rfl | exact ⟨rfl, rfl⟩ | exact ⟨rfl, trivial⟩ | exact ⟨trivial, rfl⟩ | trivial
theorem s_mend {n : Int32} (h : nI 0 ≤ n ∧ n ≤ g 196 17) : callC (ev (d + 2)) mo_end [.ref 196, .int n] (E g q) P = P (some (.int (nI 1))) (E (upw g 196 (pu (g 196) 17 n)) q) := by
  refine call_eq (in_mo_end rfl ?_)
  rw [b_mo_end_0]
  simp -implicitDefEqProofs (disch := first | assumption | omega) only [szS_0, szS_i, szS_r, szS_l, x_cons, x_goto, ob_some, kl_i, kl_r, kl_l, kl_n, push_n, push_s, pop_0, pop_i, pop_r, Int.reduceToNat, List.length_cons, List.length_nil, Nat.reduceAdd, Nat.reduceLeDiff, Nat.zero_add, true_and, nI_n0, nat_le, Nat.add_zero, rt_mo_end_0, rt_mo_end_1, rt_mo_end_b, x_al0, x_call, x_getf, x_ifne, x_il1, x_iret, x_ldc, x_putf, fd_196_0, fd_196_1, fd_196_2, fd_196_3, fd_196_4, sf_196_4, fd_196_5, sf_196_5, fd_196_6, fd_196_7, fd_196_8, fd_196_9, fd_196_10, fd_196_11, fd_196_12, sf_196_12, fd_196_13, sf_196_13, fd_196_14, sf_196_14, fd_196_15, sf_196_15, fd_196_16, sf_196_16, fd_196_17, sf_196_17, fd_196_18, sf_196_18, fd_196_19, sf_196_19, fd_196_20, sf_196_20, fd_196_21, sf_196_21, fd_196_22, sf_196_22, fd_196_23, sf_196_23, fd_196_24, sf_196_24, fd_196_25, sf_196_25, fd_196_26, sf_196_26, fd_196_27, fd_196_28, fd_196_29, fd_196_30, sf_196_30, fd_196_31, fd_196_32, fd_196_33, fd_196_34, fd_196_35, fd_196_36, fd_196_37, sf_196_37, fd_196_38, fd_196_39, sf_196_39, fd_196_40, sf_196_40, fd_196_41, sf_196_41, fd_196_42, fd_196_43, fd_196_44, s_isIn, bI_0, decide_eq_true h, Bool.true_eq_false, ↓reduceIte, b_mo_end_14, pu_g]
  all_goals first | rfl | exact ⟨rfl, rfl⟩ | exact ⟨rfl, trivial⟩ | exact ⟨trivial, rfl⟩ | trivial
theorem rw_in {a b c e : Int32} {A B C n x y z D : Nat} (hn : a + b + c = nI n) (hA : A ≤ 99) (hB : B ≤ 99) (hC : C ≤ 99) (hn9 : n ≤ 99) (hD : D ≤ 99) (h43 : g 218 0 = nI A ∧ g 218 1 = nI B ∧ g 218 2 = nI C) (h44 : g 219 0 = nI x ∧ g 219 1 = nI y ∧ g 219 2 = nI z)
    (H : wp (ev d) P mo_rows 196 [some (.ref 196), some (.int a), some (.int b), some (.int c), some (.int e), some (.int (nI (dueA (duF A B C n x y z D)))), some (.int (nI D)), some (.int (nI 3))] [] (E g q)) :
    wp (ev d) P mo_rows 125 [some (.ref 196), some (.int a), some (.int b), some (.int c), some (.int e), some (.int (nI 0)), some (.int (nI D)), some (.int (nI 1))] [] (E g q) := by
  obtain ⟨a0, a1, a2⟩ := h43
  obtain ⟨b0, b1, b2⟩ := h44
  have d0 : duF A B C n x y z D 0 = nI (A * (D + 1)) - nI (n * x) := rfl
  have d1 : duF A B C n x y z D 1 = nI (B * (D + 1)) - nI (n * y) := rfl
  have d2 : duF A B C n x y z D 2 = nI (C * (D + 1)) - nI (n * z) := rfl
  have l13 : (nI 1 < nI 3) = True := eq_true (by decide)
  have l23 : (nI 2 < nI 3) = True := eq_true (by decide)
  have l33 : (nI 3 < nI 3) = False := eq_false (by decide)
  have two : ∀ k : Nat, k = 0 ∨ k = 1 → nI (dueA (duF A B C n x y z D)) = nI (if duF A B C n x y z D k < duF A B C n x y z D 2 then 2 else k) → wp (ev d) P mo_rows 125 [some (.ref 196), some (.int a), some (.int b), some (.int c), some (.int e), some (.int (nI k)), some (.int (nI D)), some (.int (nI 2))] [] (E g q) := by
    intro k hk he
    rw [he] at H
    have gk : ∀ r : Nat → Nat → Int32, True := fun _ => trivial
    have ek : g 218 k * (nI D + nI 1) - (a + b + c) * g 219 k = duF A B C n x y z D k := by
      rcases hk with rfl | rfl
      · rw [a0, b0, hn, nI_add, nI_mul, nI_mul]
        rfl
      · rw [a1, b1, hn, nI_add, nI_mul, nI_mul]
        rfl
    have e2 : g 218 2 * (nI D + nI 1) - (a + b + c) * g 219 2 = duF A B C n x y z D 2 := by
      rw [a2, b2, hn, nI_add, nI_mul, nI_mul]
      rfl
    have k3 : k < 3 := by omega
    rw [b_mo_rows_125]
    simp -implicitDefEqProofs (disch := first | assumption | omega) only [szS_0, szS_i, szS_r, szS_l, x_cons, x_goto, ob_some, kl_i, kl_r, kl_l, kl_n, push_n, push_s, pop_0, pop_i, pop_r, Int.reduceToNat, List.length_cons, List.length_nil, Nat.reduceAdd, Nat.reduceLeDiff, Nat.zero_add, true_and, nI_n0, nat_le, Nat.add_zero, i_1, rt_mo_rows, x_al0, x_call, x_dup2, x_getf, x_goto, x_iadd, x_iaload, x_iastore, x_icge, x_icgt, x_icle, x_ifeq, x_ifne, x_il1, x_il2, x_il3, x_il4, x_il5, x_il6, x_il7, x_imul, x_inc6, x_inc7, x_iret, x_is5, x_is6, x_is7, x_isub, x_ldc, x_m1, l23, ↓reduceIte, fd_196_0, fd_196_1, fd_196_2, fd_196_3, fd_196_4, sf_196_4, fd_196_5, sf_196_5, fd_196_6, fd_196_7, fd_196_8, fd_196_9, fd_196_10, fd_196_11, fd_196_12, sf_196_12, fd_196_13, sf_196_13, fd_196_14, sf_196_14, fd_196_15, sf_196_15, fd_196_16, sf_196_16, fd_196_17, sf_196_17, fd_196_18, sf_196_18, fd_196_19, sf_196_19, fd_196_20, sf_196_20, fd_196_21, sf_196_21, fd_196_22, sf_196_22, fd_196_23, sf_196_23, fd_196_24, sf_196_24, fd_196_25, sf_196_25, fd_196_26, sf_196_26, fd_196_27, fd_196_28, fd_196_29, fd_196_30, sf_196_30, fd_196_31, fd_196_32, fd_196_33, fd_196_34, fd_196_35, fd_196_36, fd_196_37, sf_196_37, fd_196_38, fd_196_39, sf_196_39, fd_196_40, sf_196_40, fd_196_41, sf_196_41, fd_196_42, fd_196_43, fd_196_44, ld_218, sd_218, ln_218, ld_219, sd_219, ln_219, ek, e2]
    by_cases h : duF A B C n x y z D k < duF A B C n x y z D 2
    · rw [if_pos h] at H
      simp -implicitDefEqProofs (disch := first | assumption | omega) only [h, ↓reduceIte, szS_0, szS_i, szS_r, szS_l, x_cons, x_goto, ob_some, kl_i, kl_r, kl_l, kl_n, push_n, push_s, pop_0, pop_i, pop_r, Int.reduceToNat, List.length_cons, List.length_nil, Nat.reduceAdd, Nat.reduceLeDiff, Nat.zero_add, true_and, nI_n0, nat_le, Nat.add_zero, i_1, rt_mo_rows, x_al0, x_call, x_dup2, x_getf, x_goto, x_iadd, x_iaload, x_iastore, x_icge, x_icgt, x_icle, x_ifeq, x_ifne, x_il1, x_il2, x_il3, x_il4, x_il5, x_il6, x_il7, x_imul, x_inc6, x_inc7, x_iret, x_is5, x_is6, x_is7, x_isub, x_ldc, x_m1, b_mo_rows_190, nI_add]
      rw [b_mo_rows_125]
      simp -implicitDefEqProofs (disch := first | assumption | omega) only [szS_0, szS_i, szS_r, szS_l, x_cons, x_goto, ob_some, kl_i, kl_r, kl_l, kl_n, push_n, push_s, pop_0, pop_i, pop_r, Int.reduceToNat, List.length_cons, List.length_nil, Nat.reduceAdd, Nat.reduceLeDiff, Nat.zero_add, true_and, nI_n0, nat_le, Nat.add_zero, i_1, rt_mo_rows, x_al0, x_call, x_dup2, x_getf, x_goto, x_iadd, x_iaload, x_iastore, x_icge, x_icgt, x_icle, x_ifeq, x_ifne, x_il1, x_il2, x_il3, x_il4, x_il5, x_il6, x_il7, x_imul, x_inc6, x_inc7, x_iret, x_is5, x_is6, x_is7, x_isub, x_ldc, x_m1, l33, ↓reduceIte]
      exact H
    · rw [if_neg h] at H
      simp -implicitDefEqProofs (disch := first | assumption | omega) only [h, ↓reduceIte, szS_0, szS_i, szS_r, szS_l, x_cons, x_goto, ob_some, kl_i, kl_r, kl_l, kl_n, push_n, push_s, pop_0, pop_i, pop_r, Int.reduceToNat, List.length_cons, List.length_nil, Nat.reduceAdd, Nat.reduceLeDiff, Nat.zero_add, true_and, nI_n0, nat_le, Nat.add_zero, i_1, rt_mo_rows, x_al0, x_call, x_dup2, x_getf, x_goto, x_iadd, x_iaload, x_iastore, x_icge, x_icgt, x_icle, x_ifeq, x_ifne, x_il1, x_il2, x_il3, x_il4, x_il5, x_il6, x_il7, x_imul, x_inc6, x_inc7, x_iret, x_is5, x_is6, x_is7, x_isub, x_ldc, x_m1, b_mo_rows_190, nI_add]
      rw [b_mo_rows_125]
      simp -implicitDefEqProofs (disch := first | assumption | omega) only [szS_0, szS_i, szS_r, szS_l, x_cons, x_goto, ob_some, kl_i, kl_r, kl_l, kl_n, push_n, push_s, pop_0, pop_i, pop_r, Int.reduceToNat, List.length_cons, List.length_nil, Nat.reduceAdd, Nat.reduceLeDiff, Nat.zero_add, true_and, nI_n0, nat_le, Nat.add_zero, i_1, rt_mo_rows, x_al0, x_call, x_dup2, x_getf, x_goto, x_iadd, x_iaload, x_iastore, x_icge, x_icgt, x_icle, x_ifeq, x_ifne, x_il1, x_il2, x_il3, x_il4, x_il5, x_il6, x_il7, x_imul, x_inc6, x_inc7, x_iret, x_is5, x_is6, x_is7, x_isub, x_ldc, x_m1, l33, ↓reduceIte]
      exact H
  have e0 : g 218 0 * (nI D + nI 1) - (a + b + c) * g 219 0 = duF A B C n x y z D 0 := by
    rw [a0, b0, hn, nI_add, nI_mul, nI_mul]
    rfl
  have e1 : g 218 1 * (nI D + nI 1) - (a + b + c) * g 219 1 = duF A B C n x y z D 1 := by
    rw [a1, b1, hn, nI_add, nI_mul, nI_mul]
    rfl
  have lx : ∀ u v : Int32, (u ≤ v) = ¬ v < u := fun u v => lt_le.symm
  rw [b_mo_rows_125]
  simp -implicitDefEqProofs (disch := first | assumption | omega) only [szS_0, szS_i, szS_r, szS_l, x_cons, x_goto, ob_some, kl_i, kl_r, kl_l, kl_n, push_n, push_s, pop_0, pop_i, pop_r, Int.reduceToNat, List.length_cons, List.length_nil, Nat.reduceAdd, Nat.reduceLeDiff, Nat.zero_add, true_and, nI_n0, nat_le, Nat.add_zero, i_1, rt_mo_rows, x_al0, x_call, x_dup2, x_getf, x_goto, x_iadd, x_iaload, x_iastore, x_icge, x_icgt, x_icle, x_ifeq, x_ifne, x_il1, x_il2, x_il3, x_il4, x_il5, x_il6, x_il7, x_imul, x_inc6, x_inc7, x_iret, x_is5, x_is6, x_is7, x_isub, x_ldc, x_m1, l13, ↓reduceIte, fd_196_0, fd_196_1, fd_196_2, fd_196_3, fd_196_4, sf_196_4, fd_196_5, sf_196_5, fd_196_6, fd_196_7, fd_196_8, fd_196_9, fd_196_10, fd_196_11, fd_196_12, sf_196_12, fd_196_13, sf_196_13, fd_196_14, sf_196_14, fd_196_15, sf_196_15, fd_196_16, sf_196_16, fd_196_17, sf_196_17, fd_196_18, sf_196_18, fd_196_19, sf_196_19, fd_196_20, sf_196_20, fd_196_21, sf_196_21, fd_196_22, sf_196_22, fd_196_23, sf_196_23, fd_196_24, sf_196_24, fd_196_25, sf_196_25, fd_196_26, sf_196_26, fd_196_27, fd_196_28, fd_196_29, fd_196_30, sf_196_30, fd_196_31, fd_196_32, fd_196_33, fd_196_34, fd_196_35, fd_196_36, fd_196_37, sf_196_37, fd_196_38, fd_196_39, sf_196_39, fd_196_40, sf_196_40, fd_196_41, sf_196_41, fd_196_42, fd_196_43, fd_196_44, ld_218, sd_218, ln_218, ld_219, sd_219, ln_219, e0, e1]
  by_cases h : duF A B C n x y z D 0 < duF A B C n x y z D 1
  · simp -implicitDefEqProofs (disch := first | assumption | omega) only [h, ↓reduceIte, szS_0, szS_i, szS_r, szS_l, x_cons, x_goto, ob_some, kl_i, kl_r, kl_l, kl_n, push_n, push_s, pop_0, pop_i, pop_r, Int.reduceToNat, List.length_cons, List.length_nil, Nat.reduceAdd, Nat.reduceLeDiff, Nat.zero_add, true_and, nI_n0, nat_le, Nat.add_zero, i_1, rt_mo_rows, x_al0, x_call, x_dup2, x_getf, x_goto, x_iadd, x_iaload, x_iastore, x_icge, x_icgt, x_icle, x_ifeq, x_ifne, x_il1, x_il2, x_il3, x_il4, x_il5, x_il6, x_il7, x_imul, x_inc6, x_inc7, x_iret, x_is5, x_is6, x_is7, x_isub, x_ldc, x_m1, b_mo_rows_190, nI_add]
    refine two 1 (Or.inr rfl) ?_
    unfold dueA
    rw [if_neg (by rw [lx]; exact fun hh => hh h)]
    simp only [lx, ite_not]
  · simp -implicitDefEqProofs (disch := first | assumption | omega) only [h, ↓reduceIte, szS_0, szS_i, szS_r, szS_l, x_cons, x_goto, ob_some, kl_i, kl_r, kl_l, kl_n, push_n, push_s, pop_0, pop_i, pop_r, Int.reduceToNat, List.length_cons, List.length_nil, Nat.reduceAdd, Nat.reduceLeDiff, Nat.zero_add, true_and, nI_n0, nat_le, Nat.add_zero, i_1, rt_mo_rows, x_al0, x_call, x_dup2, x_getf, x_goto, x_iadd, x_iaload, x_iastore, x_icge, x_icgt, x_icle, x_ifeq, x_ifne, x_il1, x_il2, x_il3, x_il4, x_il5, x_il6, x_il7, x_imul, x_inc6, x_inc7, x_iret, x_is5, x_is6, x_is7, x_isub, x_ldc, x_m1, b_mo_rows_190, nI_add]
    refine two 0 (Or.inl rfl) ?_
    unfold dueA
    rw [if_pos (by rw [lx]; exact h)]
    simp only [lx, ite_not]
theorem rw_out {a b c : Int32} {A B C n E' : Nat} (hn : a + b + c = nI n) (hA : A ≤ 99) (hB : B ≤ 99) (hC : C ≤ 99) (hn9 : n ≤ 99) (hE : E' < 99) {g0 : Nat → Nat → Int32} {v5 v7 : Int32} (H : ∀ g' o, fr [218, 219] g0 g' → wp (ev d) P mo_rows 213 [some (.ref 196), some (.int a), some (.int b), some (.int c), some (.int (nI E')), some (.int (nI (rwV A B C n E'))), some (.int (nI (E' + 1))), o] [] (E g' q)) :
    ∀ (j D : Nat) (g : Nat → Nat → Int32) (v : Int32) (o : Option Value), D + j = E' + 1 → (0 < D → v = nI (rwV A B C n (D - 1))) → g 218 0 = nI A ∧ g 218 1 = nI B ∧ g 218 2 = nI C → g 219 0 = nI (rwS A B C n D).1 ∧ g 219 1 = nI (rwS A B C n D).2.1 ∧ g 219 2 = nI (rwS A B C n D).2.2 → fr [218, 219] g0 g →
    wp (ev d) P mo_rows 112 [some (.ref 196), some (.int a), some (.int b), some (.int c), some (.int (nI E')), some (.int v), some (.int (nI D)), o] [] (E g q) := by
  intro j
  induction j with
  | zero =>
    intro D g v o hD hv h43 h44 hr
    have hD : D = E' + 1 := hD
    subst hD
    have hl : E' < E' + 1 := by omega
    rw [b_mo_rows_112]
    simp -implicitDefEqProofs (disch := first | assumption | omega) only [szS_0, szS_i, szS_r, szS_l, x_cons, x_goto, ob_some, kl_i, kl_r, kl_l, kl_n, push_n, push_s, pop_0, pop_i, pop_r, Int.reduceToNat, List.length_cons, List.length_nil, Nat.reduceAdd, Nat.reduceLeDiff, Nat.zero_add, true_and, nI_n0, nat_le, Nat.add_zero, i_1, rt_mo_rows, x_al0, x_call, x_dup2, x_getf, x_goto, x_iadd, x_iaload, x_iastore, x_icge, x_icgt, x_icle, x_ifeq, x_ifne, x_il1, x_il2, x_il3, x_il4, x_il5, x_il6, x_il7, x_imul, x_inc6, x_inc7, x_iret, x_is5, x_is6, x_is7, x_isub, x_ldc, x_m1, nI_ltE, hl, ↓reduceIte]
    have hv := hv (by omega)
    rw [Nat.add_sub_cancel] at hv
    rw [hv]
    exact H g o hr
  | succ j ih =>
    intro D g v o hD hv h43 h44 hr
    have hl : ¬ E' < D := by omega
    have hdl : dueA (duF A B C n (rwS A B C n D).1 (rwS A B C n D).2.1 (rwS A B C n D).2.2 D) < 3 := by
      unfold dueA
      repeat' split
      all_goals omega
    rw [b_mo_rows_112]
    simp -implicitDefEqProofs (disch := first | assumption | omega) only [szS_0, szS_i, szS_r, szS_l, x_cons, x_goto, ob_some, kl_i, kl_r, kl_l, kl_n, push_n, push_s, pop_0, pop_i, pop_r, Int.reduceToNat, List.length_cons, List.length_nil, Nat.reduceAdd, Nat.reduceLeDiff, Nat.zero_add, true_and, nI_n0, nat_le, Nat.add_zero, i_1, rt_mo_rows, x_al0, x_call, x_dup2, x_getf, x_goto, x_iadd, x_iaload, x_iastore, x_icge, x_icgt, x_icle, x_ifeq, x_ifne, x_il1, x_il2, x_il3, x_il4, x_il5, x_il6, x_il7, x_imul, x_inc6, x_inc7, x_iret, x_is5, x_is6, x_is7, x_isub, x_ldc, x_m1, nI_ltE, hl, ↓reduceIte]
    refine rw_in hn hA hB hC hn9 (by omega) h43 h44 ?_
    rw [b_mo_rows_196]
    simp -implicitDefEqProofs (disch := first | assumption | omega) only [szS_0, szS_i, szS_r, szS_l, x_cons, x_goto, ob_some, kl_i, kl_r, kl_l, kl_n, push_n, push_s, pop_0, pop_i, pop_r, Int.reduceToNat, List.length_cons, List.length_nil, Nat.reduceAdd, Nat.reduceLeDiff, Nat.zero_add, true_and, nI_n0, nat_le, Nat.add_zero, i_1, rt_mo_rows, x_al0, x_call, x_dup2, x_getf, x_goto, x_iadd, x_iaload, x_iastore, x_icge, x_icgt, x_icle, x_ifeq, x_ifne, x_il1, x_il2, x_il3, x_il4, x_il5, x_il6, x_il7, x_imul, x_inc6, x_inc7, x_iret, x_is5, x_is6, x_is7, x_isub, x_ldc, x_m1, fd_196_0, fd_196_1, fd_196_2, fd_196_3, fd_196_4, sf_196_4, fd_196_5, sf_196_5, fd_196_6, fd_196_7, fd_196_8, fd_196_9, fd_196_10, fd_196_11, fd_196_12, sf_196_12, fd_196_13, sf_196_13, fd_196_14, sf_196_14, fd_196_15, sf_196_15, fd_196_16, sf_196_16, fd_196_17, sf_196_17, fd_196_18, sf_196_18, fd_196_19, sf_196_19, fd_196_20, sf_196_20, fd_196_21, sf_196_21, fd_196_22, sf_196_22, fd_196_23, sf_196_23, fd_196_24, sf_196_24, fd_196_25, sf_196_25, fd_196_26, sf_196_26, fd_196_27, fd_196_28, fd_196_29, fd_196_30, sf_196_30, fd_196_31, fd_196_32, fd_196_33, fd_196_34, fd_196_35, fd_196_36, fd_196_37, sf_196_37, fd_196_38, fd_196_39, sf_196_39, fd_196_40, sf_196_40, fd_196_41, sf_196_41, fd_196_42, fd_196_43, fd_196_44, ld_219, sd_219, ln_219, pu_g, nI_add]
    refine ih (D + 1) _ _ _ (by omega) (fun _ => rfl) ?_ ?_ (fr_t hr (fr_w rfl fr_r))
    · rw [upw_o (by decide)]
      exact h43
    · rw [upw_s]
      obtain ⟨b0, b1, b2⟩ := h44
      have eS : rwS A B C n (D + 1) = if dueA (duF A B C n (rwS A B C n D).1 (rwS A B C n D).2.1 (rwS A B C n D).2.2 D) = 0 then ((rwS A B C n D).1 + 1, (rwS A B C n D).2.1, (rwS A B C n D).2.2)
        else if dueA (duF A B C n (rwS A B C n D).1 (rwS A B C n D).2.1 (rwS A B C n D).2.2 D) = 1 then ((rwS A B C n D).1, (rwS A B C n D).2.1 + 1, (rwS A B C n D).2.2)
        else ((rwS A B C n D).1, (rwS A B C n D).2.1, (rwS A B C n D).2.2 + 1) := rfl
      rw [eS]
      unfold pu
      have : dueA (duF A B C n (rwS A B C n D).1 (rwS A B C n D).2.1 (rwS A B C n D).2.2 D) = 0 ∨ dueA (duF A B C n (rwS A B C n D).1 (rwS A B C n D).2.1 (rwS A B C n D).2.2 D) = 1 ∨ dueA (duF A B C n (rwS A B C n D).1 (rwS A B C n D).2.1 (rwS A B C n D).2.2 D) = 2 := by omega
      rcases this with h | h | h <;> rw [h] <;> simp only [↓reduceIte, Nat.reduceEqDiff, b0, b1, b2, nI_add, and_self]
theorem rw_0 {v1 v2 v3 v4 v5 : Int32} (H : ∀ r, r 0 = nI 0 ∧ r 1 = nI 0 ∧ r 2 = nI 0 → wp (ev d) P mo_rows 109 [some (.ref 196), some (.int v1), some (.int v2), some (.int v3), some (.int v4), some (.int v5), some (.int (nI 3)), none] [] (E (upw g 219 r) q)) : ∀ (j n : Nat) (r : Nat → Int32), n + j = 3 → (∀ k, k < n → r k = nI 0) →
    wp (ev d) P mo_rows 89 [some (.ref 196), some (.int v1), some (.int v2), some (.int v3), some (.int v4), some (.int v5), some (.int (nI n)), none] [] (E (upw g 219 r) q) := by
  intro j
  induction j with
  | zero =>
    intro n r hn hr
    have hn : n = 3 := hn
    subst hn
    rw [b_mo_rows_89]
    simp -implicitDefEqProofs (disch := first | assumption | omega) only [szS_0, szS_i, szS_r, szS_l, x_cons, x_goto, ob_some, kl_i, kl_r, kl_l, kl_n, push_n, push_s, pop_0, pop_i, pop_r, Int.reduceToNat, List.length_cons, List.length_nil, Nat.reduceAdd, Nat.reduceLeDiff, Nat.zero_add, true_and, nI_n0, nat_le, Nat.add_zero, i_1, rt_mo_rows, x_al0, x_call, x_dup2, x_getf, x_goto, x_iadd, x_iaload, x_iastore, x_icge, x_icgt, x_icle, x_ifeq, x_ifne, x_il1, x_il2, x_il3, x_il4, x_il5, x_il6, x_il7, x_imul, x_inc6, x_inc7, x_iret, x_is5, x_is6, x_is7, x_isub, x_ldc, x_m1, nI_ltE, Nat.lt_irrefl, ↓reduceIte]
    exact H r ⟨hr 0 (by decide), hr 1 (by decide), hr 2 (by decide)⟩
  | succ j ih =>
    intro n r hn hr
    have hn' : n < 3 := by omega
    rw [b_mo_rows_89]
    simp -implicitDefEqProofs (disch := first | assumption | omega) only [szS_0, szS_i, szS_r, szS_l, x_cons, x_goto, ob_some, kl_i, kl_r, kl_l, kl_n, push_n, push_s, pop_0, pop_i, pop_r, Int.reduceToNat, List.length_cons, List.length_nil, Nat.reduceAdd, Nat.reduceLeDiff, Nat.zero_add, true_and, nI_n0, nat_le, Nat.add_zero, i_1, rt_mo_rows, x_al0, x_call, x_dup2, x_getf, x_goto, x_iadd, x_iaload, x_iastore, x_icge, x_icgt, x_icle, x_ifeq, x_ifne, x_il1, x_il2, x_il3, x_il4, x_il5, x_il6, x_il7, x_imul, x_inc6, x_inc7, x_iret, x_is5, x_is6, x_is7, x_isub, x_ldc, x_m1, fd_196_0, fd_196_1, fd_196_2, fd_196_3, fd_196_4, sf_196_4, fd_196_5, sf_196_5, fd_196_6, fd_196_7, fd_196_8, fd_196_9, fd_196_10, fd_196_11, fd_196_12, sf_196_12, fd_196_13, sf_196_13, fd_196_14, sf_196_14, fd_196_15, sf_196_15, fd_196_16, sf_196_16, fd_196_17, sf_196_17, fd_196_18, sf_196_18, fd_196_19, sf_196_19, fd_196_20, sf_196_20, fd_196_21, sf_196_21, fd_196_22, sf_196_22, fd_196_23, sf_196_23, fd_196_24, sf_196_24, fd_196_25, sf_196_25, fd_196_26, sf_196_26, fd_196_27, fd_196_28, fd_196_29, fd_196_30, sf_196_30, fd_196_31, fd_196_32, fd_196_33, fd_196_34, fd_196_35, fd_196_36, fd_196_37, sf_196_37, fd_196_38, fd_196_39, sf_196_39, fd_196_40, sf_196_40, fd_196_41, sf_196_41, fd_196_42, fd_196_43, fd_196_44, ld_219, sd_219, ln_219, nI_ltE, hn', ↓reduceIte, nI_add, pu_w]
    refine ih (n + 1) _ (by omega) fun k hk => ?_
    unfold pu
    split
    · rfl
    · exact hr k (by omega)
theorem s_mrows {a b c e : Int32} (H : ∀ g', fr [218, 219] g g' → P (some (.int (rwA a b c e))) (E g' q)) : callC (ev (d + 2)) mo_rows [.ref 196, .int a, .int b, .int c, .int e] (E g q) P := by
  refine in_mo_rows rfl ?_
  have no : rwB a b c e = false → wp (ev (d + 1)) P mo_rows 60 [some (.ref 196), some (.int a), some (.int b), some (.int c), some (.int e), none, none, none] [] (E g q) := by
    intro h
    unfold rwA at H
    rw [if_neg (by rw [h]; exact Bool.false_ne_true)] at H
    rw [b_mo_rows_60]
    simp -implicitDefEqProofs (disch := first | assumption | omega) only [szS_0, szS_i, szS_r, szS_l, x_cons, x_goto, ob_some, kl_i, kl_r, kl_l, kl_n, push_n, push_s, pop_0, pop_i, pop_r, Int.reduceToNat, List.length_cons, List.length_nil, Nat.reduceAdd, Nat.reduceLeDiff, Nat.zero_add, true_and, nI_n0, nat_le, Nat.add_zero, i_1, rt_mo_rows, x_al0, x_call, x_dup2, x_getf, x_goto, x_iadd, x_iaload, x_iastore, x_icge, x_icgt, x_icle, x_ifeq, x_ifne, x_il1, x_il2, x_il3, x_il4, x_il5, x_il6, x_il7, x_imul, x_inc6, x_inc7, x_iret, x_is5, x_is6, x_is7, x_isub, x_ldc, x_m1]
    exact H g fr_r
  rw [b_mo_rows_0]
  simp -implicitDefEqProofs (disch := first | assumption | omega) only [szS_0, szS_i, szS_r, szS_l, x_cons, x_goto, ob_some, kl_i, kl_r, kl_l, kl_n, push_n, push_s, pop_0, pop_i, pop_r, Int.reduceToNat, List.length_cons, List.length_nil, Nat.reduceAdd, Nat.reduceLeDiff, Nat.zero_add, true_and, nI_n0, nat_le, Nat.add_zero, i_1, rt_mo_rows, x_al0, x_call, x_dup2, x_getf, x_goto, x_iadd, x_iaload, x_iastore, x_icge, x_icgt, x_icle, x_ifeq, x_ifne, x_il1, x_il2, x_il3, x_il4, x_il5, x_il6, x_il7, x_imul, x_inc6, x_inc7, x_iret, x_is5, x_is6, x_is7, x_isub, x_ldc, x_m1, s_isIn, bI_0]
  by_cases h1 : nI 0 ≤ a ∧ a ≤ nI 99
  · simp only [decide_eq_true h1, Bool.true_eq_false, ↓reduceIte]
    by_cases h2 : nI 0 ≤ b ∧ b ≤ nI 99
    · simp only [decide_eq_true h2, Bool.true_eq_false, ↓reduceIte]
      by_cases h3 : nI 0 ≤ c ∧ c ≤ nI 99
      · simp only [decide_eq_true h3, Bool.true_eq_false, ↓reduceIte]
        by_cases h4 : nI 1 ≤ a + b + c ∧ a + b + c ≤ nI 99
        · simp only [decide_eq_true h4, Bool.true_eq_false, ↓reduceIte]
          by_cases h5 : nI 0 ≤ e ∧ e ≤ a + b + c - nI 1
          · have hB : rwB a b c e = true := by
              unfold rwB
              rw [decide_eq_true h1, decide_eq_true h2, decide_eq_true h3, decide_eq_true h4, decide_eq_true h5]
              rfl
            simp only [decide_eq_true h5, Bool.true_eq_false, ↓reduceIte]
            obtain ⟨A, hA, rfl⟩ := int_is h1 (by decide)
            obtain ⟨B, hB', rfl⟩ := int_is h2 (by decide)
            obtain ⟨C, hC, rfl⟩ := int_is h3 (by decide)
            have hn : nI A + nI B + nI C = nI (A + B + C) := by rw [nI_add, nI_add]
            rw [hn, nI_leE (by omega) (by omega), nI_leE (by omega) (by omega)] at h4
            rw [hn, nI_sub h4.1] at h5
            obtain ⟨E', hE, rfl⟩ := int_is h5 (by omega)
            unfold rwA at H
            rw [if_pos hB, ix_nI (by omega), ix_nI (by omega), ix_nI (by omega), ix_nI (by omega)] at H
            rw [b_mo_rows_62]
            simp -implicitDefEqProofs (disch := first | assumption | omega) only [szS_0, szS_i, szS_r, szS_l, x_cons, x_goto, ob_some, kl_i, kl_r, kl_l, kl_n, push_n, push_s, pop_0, pop_i, pop_r, Int.reduceToNat, List.length_cons, List.length_nil, Nat.reduceAdd, Nat.reduceLeDiff, Nat.zero_add, true_and, nI_n0, nat_le, Nat.add_zero, i_1, rt_mo_rows, x_al0, x_call, x_dup2, x_getf, x_goto, x_iadd, x_iaload, x_iastore, x_icge, x_icgt, x_icle, x_ifeq, x_ifne, x_il1, x_il2, x_il3, x_il4, x_il5, x_il6, x_il7, x_imul, x_inc6, x_inc7, x_iret, x_is5, x_is6, x_is7, x_isub, x_ldc, x_m1, fd_196_0, fd_196_1, fd_196_2, fd_196_3, fd_196_4, sf_196_4, fd_196_5, sf_196_5, fd_196_6, fd_196_7, fd_196_8, fd_196_9, fd_196_10, fd_196_11, fd_196_12, sf_196_12, fd_196_13, sf_196_13, fd_196_14, sf_196_14, fd_196_15, sf_196_15, fd_196_16, sf_196_16, fd_196_17, sf_196_17, fd_196_18, sf_196_18, fd_196_19, sf_196_19, fd_196_20, sf_196_20, fd_196_21, sf_196_21, fd_196_22, sf_196_22, fd_196_23, sf_196_23, fd_196_24, sf_196_24, fd_196_25, sf_196_25, fd_196_26, sf_196_26, fd_196_27, fd_196_28, fd_196_29, fd_196_30, sf_196_30, fd_196_31, fd_196_32, fd_196_33, fd_196_34, fd_196_35, fd_196_36, fd_196_37, sf_196_37, fd_196_38, fd_196_39, sf_196_39, fd_196_40, sf_196_40, fd_196_41, sf_196_41, fd_196_42, fd_196_43, fd_196_44, ld_218, sd_218, ln_218, pu_g, upw_s, upw_w]
            obtain ⟨g1, hg1⟩ : ∃ g1, g1 = upw g 218 (pu (pu (pu (g 218) 0 (nI A)) 1 (nI B)) 2 (nI C)) := ⟨_, rfl⟩
            rw [← hg1]
            rw [show E g1 q = E (upw g1 219 (g1 219)) q by rw [upw_g]]
            refine rw_0 (fun r hr => ?_) 3 0 _ rfl fun k hk => absurd hk (Nat.not_lt_zero k)
            rw [b_mo_rows_109]
            simp -implicitDefEqProofs (disch := first | assumption | omega) only [szS_0, szS_i, szS_r, szS_l, x_cons, x_goto, ob_some, kl_i, kl_r, kl_l, kl_n, push_n, push_s, pop_0, pop_i, pop_r, Int.reduceToNat, List.length_cons, List.length_nil, Nat.reduceAdd, Nat.reduceLeDiff, Nat.zero_add, true_and, nI_n0, nat_le, Nat.add_zero, i_1, rt_mo_rows, x_al0, x_call, x_dup2, x_getf, x_goto, x_iadd, x_iaload, x_iastore, x_icge, x_icgt, x_icle, x_ifeq, x_ifne, x_il1, x_il2, x_il3, x_il4, x_il5, x_il6, x_il7, x_imul, x_inc6, x_inc7, x_iret, x_is5, x_is6, x_is7, x_isub, x_ldc, x_m1]
            refine rw_out (v5 := nI 0) (v7 := nI 0) hn hA hB' hC (by omega) (E' := E') (by omega) (g0 := g) (fun g2 o f2 => ?_) (E' + 1) 0 _ _ none (Nat.zero_add _) (fun h => absurd h (Nat.lt_irrefl 0)) ?_ ?_ ?_
            · rw [b_mo_rows_213]
              simp -implicitDefEqProofs (disch := first | assumption | omega) only [szS_0, szS_i, szS_r, szS_l, x_cons, x_goto, ob_some, kl_i, kl_r, kl_l, kl_n, push_n, push_s, pop_0, pop_i, pop_r, Int.reduceToNat, List.length_cons, List.length_nil, Nat.reduceAdd, Nat.reduceLeDiff, Nat.zero_add, true_and, nI_n0, nat_le, Nat.add_zero, i_1, rt_mo_rows, x_al0, x_call, x_dup2, x_getf, x_goto, x_iadd, x_iaload, x_iastore, x_icge, x_icgt, x_icle, x_ifeq, x_ifne, x_il1, x_il2, x_il3, x_il4, x_il5, x_il6, x_il7, x_imul, x_inc6, x_inc7, x_iret, x_is5, x_is6, x_is7, x_isub, x_ldc, x_m1]
              exact H g2 f2
            · rw [upw_o (by decide), hg1, upw_s]
              exact ⟨rfl, rfl, rfl⟩
            · rw [upw_s]
              exact hr
            · rw [hg1]
              exact fr_w rfl (fr_w rfl fr_r)
          · simp only [decide_eq_false h5, ↓reduceIte]
            exact no (by unfold rwB; rw [decide_eq_false h5]; simp)
        · simp only [decide_eq_false h4, ↓reduceIte]
          exact no (by unfold rwB; rw [decide_eq_false h4]; simp)
      · simp only [decide_eq_false h3, ↓reduceIte]
        exact no (by unfold rwB; rw [decide_eq_false h3]; simp)
    · simp only [decide_eq_false h2, ↓reduceIte]
      exact no (by unfold rwB; rw [decide_eq_false h2]; simp)
  · simp only [decide_eq_false h1, ↓reduceIte]
    exact no (by unfold rwB; rw [decide_eq_false h1]; simp)
end MQ
