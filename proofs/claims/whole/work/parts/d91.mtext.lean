/-! a text, told to the reference -/
def PLw (k c S : Nat) (w r1 r2 w' : Nat → Int32) : Prop := w' (1205 + k) = nI c ∧ (∀ i, i < c → w' (1210 + (16 * k + i)) = r1 (3 * i) ∧ w' (1245 + (16 * k + i)) = r1 (3 * i + 1) ∧ w' (1280 + (16 * k + i)) = r1 (3 * i + 2)) ∧ (∀ i, i < 2 * S → w' (1315 + 820 * k + i) = r2 i) ∧ ∀ x, x ≠ 1205 + k → ¬ (1210 + 16 * k ≤ x ∧ x < 1210 + 16 * k + 16) → ¬ (1245 + 16 * k ≤ x ∧ x < 1245 + 16 * k + 16) → ¬ (1280 + 16 * k ≤ x ∧ x < 1280 + 16 * k + 16) → ¬ (1315 + 820 * k ≤ x ∧ x < 1315 + 820 * k + 820) → w' x = w x
theorem stpR_o {w w' : Nat → Int32} {k : Nat} (e : ∀ x, x < 800 → w' (1315 + 820 * k + x) = w (1315 + 820 * k + x)) : ∀ {l : List (Nat × Nat)} {f : Nat}, f + l.length ≤ 400 → stpR w k f l → stpR w' k f l
  | [], _, _, _ => trivial
  | o :: l, f, hf, h => by
    rw [List.length_cons] at hf
    exact ⟨by rw [e (2 * f) (by omega)]; exact h.1, fun h1 => by rw [Nat.add_assoc, e (2 * f + 1) (by omega), ← Nat.add_assoc]; exact h.2.1 h1, stpR_o e (by omega) h.2.2⟩
theorem lnR_o {w w' : Nat → Int32} {k : Nat} (e1 : ∀ j, j < 16 → w' (1210 + (16 * k + j)) = w (1210 + (16 * k + j)) ∧ w' (1245 + (16 * k + j)) = w (1245 + (16 * k + j)) ∧ w' (1280 + (16 * k + j)) = w (1280 + (16 * k + j))) (e : ∀ x, x < 800 → w' (1315 + 820 * k + x) = w (1315 + 820 * k + x)) : ∀ {ls : LW} {j : Nat}, j + ls.length ≤ 16 → lnR w k j ls → lnR w' k j ls
  | [], _, _, _ => trivial
  | (A, C) :: r, j, hj, h => by
    rw [List.length_cons] at hj
    obtain ⟨⟨f, h1, h2, h3, h4, h5, h6, h7, h8⟩, h9⟩ := h
    obtain ⟨q1, q2, q3⟩ := e1 j (by omega)
    exact ⟨⟨f, by rw [q1]; exact h1, by rw [q2]; exact h2, by rw [q3]; exact h3, h4, stpR_o e (by omega) h5, stpR_o e (by omega) h6, h7, h8⟩, lnR_o e1 e (by omega) h9⟩
/-- the other law stays -/
theorem LK_o {k k' c S : Nat} {w r1 r2 w' : Nat → Int32} {ok : Nat → Bool} {ls : LW} (hk : k < 2) (hk' : k' < 2) (hne : k' ≠ k) (h : PLw k c S w r1 r2 w') (hL : LK w k' ok ls) : LK w' k' ok ls := by
  obtain ⟨⟨a1, a2, a3⟩, a4⟩ := hL
  have e := h.2.2.2
  refine ⟨⟨by rw [e _ (by omega) (by omega) (by omega) (by omega) (by omega)]; exact a1, a2, lnR_o (fun j hj => ⟨e _ (by omega) (by omega) (by omega) (by omega) (by omega), e _ (by omega) (by omega) (by omega) (by omega) (by omega), e _ (by omega) (by omega) (by omega) (by omega) (by omega)⟩) (fun x hx => e _ (by omega) (by omega) (by omega) (by omega) (by omega)) (by omega) a3⟩, a4⟩
theorem stpR_p {k S : Nat} {w' r2 : Nat → Int32} (e : ∀ i, i < 2 * S → w' (1315 + 820 * k + i) = r2 i) : ∀ {l : List (Nat × Nat)} {f : Nat}, f + l.length ≤ S → fsR r2 f l → stpR w' k f l
  | [], _, _, _ => trivial
  | o :: l, f, hf, h => by
    rw [List.length_cons] at hf
    exact ⟨by rw [e (2 * f) (by omega)]; exact h.1, fun h1 => by rw [Nat.add_assoc, e (2 * f + 1) (by omega)]; exact h.2.1 h1, stpR_p e (by omega) h.2.2⟩
theorem lnR_p {k c S : Nat} {w' r1 r2 : Nat → Int32} (hS : S ≤ 400) (e1 : ∀ i, i < c → w' (1210 + (16 * k + i)) = r1 (3 * i) ∧ w' (1245 + (16 * k + i)) = r1 (3 * i + 1) ∧ w' (1280 + (16 * k + i)) = r1 (3 * i + 2)) (e : ∀ i, i < 2 * S → w' (1315 + 820 * k + i) = r2 i) : ∀ {ls : LW} {j s : Nat}, j + ls.length ≤ c → s + lnT ls ≤ S → lnS ls → lwR r1 r2 j s ls → lnR w' k j ls
  | [], _, _, _, _, _, _ => trivial
  | (A, C) :: r, j, s, hj, hs, hl, h => by
    rw [List.length_cons] at hj
    have hs : s + (A.length + C.length + lnT r) ≤ S := hs
    obtain ⟨⟨h1, h2, h3, h4, h5⟩, h6⟩ := h
    obtain ⟨q1, q2, q3⟩ := e1 j (by omega)
    have hp := hl (A, C) (List.mem_cons_self ..)
    exact ⟨⟨s, q1.trans h1, q2.trans h2, q3.trans h3, by omega, stpR_p e (by omega) h4, stpR_p e (by omega) h5, hp.1, hp.2⟩, lnR_p hS e1 e (by omega) (by omega) (fun p hp => hl p (List.mem_cons_of_mem _ hp)) h6⟩
theorem LK_p2 {k : Nat} {w r1 r2 w' : Nat → Int32} {ok : Nat → Bool} {ls : LW} (hl : ls.length ≤ 16) (hS : lnT ls ≤ 400) (h : PLw k ls.length (lnT ls) w r1 r2 w') (hr : lwR r1 r2 0 0 ls) (hs : lnS ls) (hn : nmW ok ls) : LK w' k ok ls :=
  ⟨⟨h.1, hl, lnR_p hS h.2.1 h.2.2.1 (by omega) (by omega) hs hr⟩, hn⟩
section PW
variable {d : Nat} {g : Nat → Nat → Int32} {q : Nat → Nat → Int64} {P : QT} {k c S : Nat}
theorem pw_1 (hk : k < 2) (hc : c ≤ 16) (h13 : g 196 13 = nI c) {r0 : Nat → Int32} (H : ∀ r, (∀ i, i < c → r (1210 + (16 * k + i)) = g 201 (3 * i) ∧ r (1245 + (16 * k + i)) = g 201 (3 * i + 1) ∧ r (1280 + (16 * k + i)) = g 201 (3 * i + 2)) → (∀ x, ¬ (1210 + 16 * k ≤ x ∧ x < 1210 + 16 * k + 16) → ¬ (1245 + 16 * k ≤ x ∧ x < 1245 + 16 * k + 16) → ¬ (1280 + 16 * k ≤ x ∧ x < 1280 + 16 * k + 16) → r x = r0 x) → wp (ev d) P mo_putsLaw 103 [some (.ref 196), some (.int (nI k)), some (.int (nI c))] [] (E (upw g 197 r) q)) : ∀ (j i : Nat) (r : Nat → Int32), i + j = c → (∀ m, m < i → r (1210 + (16 * k + m)) = g 201 (3 * m) ∧ r (1245 + (16 * k + m)) = g 201 (3 * m + 1) ∧ r (1280 + (16 * k + m)) = g 201 (3 * m + 2)) → (∀ x, ¬ (1210 + 16 * k ≤ x ∧ x < 1210 + 16 * k + 16) → ¬ (1245 + 16 * k ≤ x ∧ x < 1245 + 16 * k + 16) → ¬ (1280 + 16 * k ≤ x ∧ x < 1280 + 16 * k + 16) → r x = r0 x) →
    wp (ev d) P mo_putsLaw 16 [some (.ref 196), some (.int (nI k)), some (.int (nI i))] [] (E (upw g 197 r) q) := by
  intro j
  induction j with
  | zero =>
    intro i r hi h1 h2
    have hi : i = c := hi
    subst hi
    rw [b_mo_putsLaw_16]
    simp -implicitDefEqProofs (disch := first | assumption | omega) only [szS_0, szS_i, szS_r, szS_l, x_cons, x_goto, ob_some, kl_i, kl_r, kl_l, kl_n, push_n, push_s, pop_0, pop_i, pop_r, Int.reduceToNat, List.length_cons, List.length_nil, Nat.reduceAdd, Nat.reduceLeDiff, Nat.zero_add, true_and, nI_n0, nat_le, Nat.add_zero, i_1, rt_mo_putsLaw, x_al0, x_getf, x_goto, x_iadd, x_iaload, x_iastore, x_icge, x_il1, x_il2, x_imul, x_inc2, x_is2, x_ldc, x_vret, fd_196_0, fd_196_1, fd_196_2, fd_196_3, fd_196_4, sf_196_4, fd_196_5, sf_196_5, fd_196_6, fd_196_7, fd_196_8, fd_196_9, fd_196_10, fd_196_11, fd_196_12, sf_196_12, fd_196_13, sf_196_13, fd_196_14, sf_196_14, fd_196_15, sf_196_15, fd_196_16, sf_196_16, fd_196_17, sf_196_17, fd_196_18, sf_196_18, fd_196_19, sf_196_19, fd_196_20, sf_196_20, fd_196_21, sf_196_21, fd_196_22, sf_196_22, fd_196_23, sf_196_23, fd_196_24, sf_196_24, fd_196_25, sf_196_25, fd_196_26, sf_196_26, fd_196_27, fd_196_28, fd_196_29, fd_196_30, sf_196_30, fd_196_31, fd_196_32, fd_196_33, fd_196_34, fd_196_35, fd_196_36, fd_196_37, sf_196_37, fd_196_38, fd_196_39, sf_196_39, fd_196_40, sf_196_40, fd_196_41, sf_196_41, fd_196_42, fd_196_43, fd_196_44, upw_o, h13, nI_ltE, Nat.lt_irrefl, ↓reduceIte]
    exact H r h1 h2
  | succ j ih =>
    intro i r hi h1 h2
    have hi' : i < c := by omega
    have l1 : 3 * i + 2 < 48 := by omega
    have l2 : 3 * i + 1 < 48 := by omega
    have l3 : 3 * i < 48 := by omega
    have m1 : 1210 + 16 * k + i < 2955 := by omega
    have m2 : 1245 + 16 * k + i < 2955 := by omega
    have m3 : 1280 + 16 * k + i < 2955 := by omega
    rw [b_mo_putsLaw_16]
    simp -implicitDefEqProofs (disch := first | assumption | omega) only [szS_0, szS_i, szS_r, szS_l, x_cons, x_goto, ob_some, kl_i, kl_r, kl_l, kl_n, push_n, push_s, pop_0, pop_i, pop_r, Int.reduceToNat, List.length_cons, List.length_nil, Nat.reduceAdd, Nat.reduceLeDiff, Nat.zero_add, true_and, nI_n0, nat_le, Nat.add_zero, i_1, rt_mo_putsLaw, x_al0, x_getf, x_goto, x_iadd, x_iaload, x_iastore, x_icge, x_il1, x_il2, x_imul, x_inc2, x_is2, x_ldc, x_vret, fd_196_0, fd_196_1, fd_196_2, fd_196_3, fd_196_4, sf_196_4, fd_196_5, sf_196_5, fd_196_6, fd_196_7, fd_196_8, fd_196_9, fd_196_10, fd_196_11, fd_196_12, sf_196_12, fd_196_13, sf_196_13, fd_196_14, sf_196_14, fd_196_15, sf_196_15, fd_196_16, sf_196_16, fd_196_17, sf_196_17, fd_196_18, sf_196_18, fd_196_19, sf_196_19, fd_196_20, sf_196_20, fd_196_21, sf_196_21, fd_196_22, sf_196_22, fd_196_23, sf_196_23, fd_196_24, sf_196_24, fd_196_25, sf_196_25, fd_196_26, sf_196_26, fd_196_27, fd_196_28, fd_196_29, fd_196_30, sf_196_30, fd_196_31, fd_196_32, fd_196_33, fd_196_34, fd_196_35, fd_196_36, fd_196_37, sf_196_37, fd_196_38, fd_196_39, sf_196_39, fd_196_40, sf_196_40, fd_196_41, sf_196_41, fd_196_42, fd_196_43, fd_196_44, upw_o, h13, nI_ltE, hi', ↓reduceIte, nI_mul, nI_add, ld_197, sd_197, ln_197, ld_201, sd_201, ln_201, pu_w]
    refine ih (i + 1) _ (by omega) (fun m hm => ?_) fun x x1 x2 x3 => by rw [pu_n (by omega), pu_n (by omega), pu_n (by omega)]; exact h2 x x1 x2 x3
    by_cases e : m = i
    · subst e
      refine ⟨?_, ?_, ?_⟩
      · rw [pu_n (by omega), pu_n (by omega), show 1210 + (16 * k + m) = 1210 + 16 * k + m by omega, pu_s]
      · rw [pu_n (by omega), show 1245 + (16 * k + m) = 1245 + 16 * k + m by omega, pu_s]
      · rw [show 1280 + (16 * k + m) = 1280 + 16 * k + m by omega, pu_s]
    · obtain ⟨q1, q2, q3⟩ := h1 m (by omega)
      refine ⟨?_, ?_, ?_⟩
      · rw [pu_n (by omega), pu_n (by omega), pu_n (by omega)]; exact q1
      · rw [pu_n (by omega), pu_n (by omega), pu_n (by omega)]; exact q2
      · rw [pu_n (by omega), pu_n (by omega), pu_n (by omega)]; exact q3
theorem pw_2 (hk : k < 2) (hS : S ≤ 400) (h14 : g 196 14 = nI S) {r0 : Nat → Int32} (H : ∀ r, (∀ i, i < 2 * S → r (1315 + 820 * k + i) = g 202 i) → (∀ x, ¬ (1315 + 820 * k ≤ x ∧ x < 1315 + 820 * k + 820) → r x = r0 x) → P none (E (upw g 197 r) q)) : ∀ (j i : Nat) (r : Nat → Int32), i + j = 2 * S → (∀ m, m < i → r (1315 + 820 * k + m) = g 202 m) → (∀ x, ¬ (1315 + 820 * k ≤ x ∧ x < 1315 + 820 * k + 820) → r x = r0 x) →
    wp (ev d) P mo_putsLaw 105 [some (.ref 196), some (.int (nI k)), some (.int (nI i))] [] (E (upw g 197 r) q) := by
  intro j
  induction j with
  | zero =>
    intro i r hi h1 h2
    have hi : i = 2 * S := hi
    subst hi
    rw [b_mo_putsLaw_105]
    simp -implicitDefEqProofs (disch := first | assumption | omega) only [szS_0, szS_i, szS_r, szS_l, x_cons, x_goto, ob_some, kl_i, kl_r, kl_l, kl_n, push_n, push_s, pop_0, pop_i, pop_r, Int.reduceToNat, List.length_cons, List.length_nil, Nat.reduceAdd, Nat.reduceLeDiff, Nat.zero_add, true_and, nI_n0, nat_le, Nat.add_zero, i_1, rt_mo_putsLaw, x_al0, x_getf, x_goto, x_iadd, x_iaload, x_iastore, x_icge, x_il1, x_il2, x_imul, x_inc2, x_is2, x_ldc, x_vret, fd_196_0, fd_196_1, fd_196_2, fd_196_3, fd_196_4, sf_196_4, fd_196_5, sf_196_5, fd_196_6, fd_196_7, fd_196_8, fd_196_9, fd_196_10, fd_196_11, fd_196_12, sf_196_12, fd_196_13, sf_196_13, fd_196_14, sf_196_14, fd_196_15, sf_196_15, fd_196_16, sf_196_16, fd_196_17, sf_196_17, fd_196_18, sf_196_18, fd_196_19, sf_196_19, fd_196_20, sf_196_20, fd_196_21, sf_196_21, fd_196_22, sf_196_22, fd_196_23, sf_196_23, fd_196_24, sf_196_24, fd_196_25, sf_196_25, fd_196_26, sf_196_26, fd_196_27, fd_196_28, fd_196_29, fd_196_30, sf_196_30, fd_196_31, fd_196_32, fd_196_33, fd_196_34, fd_196_35, fd_196_36, fd_196_37, sf_196_37, fd_196_38, fd_196_39, sf_196_39, fd_196_40, sf_196_40, fd_196_41, sf_196_41, fd_196_42, fd_196_43, fd_196_44, upw_o, h14, nI_mul, nI_ltE, Nat.lt_irrefl, ↓reduceIte, b_mo_putsLaw_143]
    exact H r h1 h2
  | succ j ih =>
    intro i r hi h1 h2
    have hi' : i < 2 * S := by omega
    have l1 : i < 820 := by omega
    have m1 : 1315 + 820 * k + i < 2955 := by omega
    rw [b_mo_putsLaw_105]
    simp -implicitDefEqProofs (disch := first | assumption | omega) only [szS_0, szS_i, szS_r, szS_l, x_cons, x_goto, ob_some, kl_i, kl_r, kl_l, kl_n, push_n, push_s, pop_0, pop_i, pop_r, Int.reduceToNat, List.length_cons, List.length_nil, Nat.reduceAdd, Nat.reduceLeDiff, Nat.zero_add, true_and, nI_n0, nat_le, Nat.add_zero, i_1, rt_mo_putsLaw, x_al0, x_getf, x_goto, x_iadd, x_iaload, x_iastore, x_icge, x_il1, x_il2, x_imul, x_inc2, x_is2, x_ldc, x_vret, fd_196_0, fd_196_1, fd_196_2, fd_196_3, fd_196_4, sf_196_4, fd_196_5, sf_196_5, fd_196_6, fd_196_7, fd_196_8, fd_196_9, fd_196_10, fd_196_11, fd_196_12, sf_196_12, fd_196_13, sf_196_13, fd_196_14, sf_196_14, fd_196_15, sf_196_15, fd_196_16, sf_196_16, fd_196_17, sf_196_17, fd_196_18, sf_196_18, fd_196_19, sf_196_19, fd_196_20, sf_196_20, fd_196_21, sf_196_21, fd_196_22, sf_196_22, fd_196_23, sf_196_23, fd_196_24, sf_196_24, fd_196_25, sf_196_25, fd_196_26, sf_196_26, fd_196_27, fd_196_28, fd_196_29, fd_196_30, sf_196_30, fd_196_31, fd_196_32, fd_196_33, fd_196_34, fd_196_35, fd_196_36, fd_196_37, sf_196_37, fd_196_38, fd_196_39, sf_196_39, fd_196_40, sf_196_40, fd_196_41, sf_196_41, fd_196_42, fd_196_43, fd_196_44, upw_o, h14, nI_mul, nI_ltE, hi', ↓reduceIte, nI_add, ld_197, sd_197, ln_197, ld_202, sd_202, ln_202, pu_w]
    refine ih (i + 1) _ (by omega) (fun m hm => ?_) fun x x1 => by rw [pu_n (by omega)]; exact h2 x x1
    by_cases e : m = i
    · rw [e, pu_s]
    · rw [pu_n (by omega)]
      exact h1 m (by omega)
theorem s_putsLaw (hk : k < 2) (hc : c ≤ 16) (h13 : g 196 13 = nI c) (hS : S ≤ 400) (h14 : g 196 14 = nI S) (H : ∀ w', PLw k c S (g 197) (g 201) (g 202) w' → P none (E (upw g 197 w') q)) : callC (ev (d + 1)) mo_putsLaw [.ref 196, .int (nI k)] (E g q) P := by
  refine in_mo_putsLaw rfl ?_
  have l0 : 1205 + k < 2955 := by omega
  rw [b_mo_putsLaw_0]
  simp -implicitDefEqProofs (disch := first | assumption | omega) only [szS_0, szS_i, szS_r, szS_l, x_cons, x_goto, ob_some, kl_i, kl_r, kl_l, kl_n, push_n, push_s, pop_0, pop_i, pop_r, Int.reduceToNat, List.length_cons, List.length_nil, Nat.reduceAdd, Nat.reduceLeDiff, Nat.zero_add, true_and, nI_n0, nat_le, Nat.add_zero, i_1, rt_mo_putsLaw, x_al0, x_getf, x_goto, x_iadd, x_iaload, x_iastore, x_icge, x_il1, x_il2, x_imul, x_inc2, x_is2, x_ldc, x_vret, fd_196_0, fd_196_1, fd_196_2, fd_196_3, fd_196_4, sf_196_4, fd_196_5, sf_196_5, fd_196_6, fd_196_7, fd_196_8, fd_196_9, fd_196_10, fd_196_11, fd_196_12, sf_196_12, fd_196_13, sf_196_13, fd_196_14, sf_196_14, fd_196_15, sf_196_15, fd_196_16, sf_196_16, fd_196_17, sf_196_17, fd_196_18, sf_196_18, fd_196_19, sf_196_19, fd_196_20, sf_196_20, fd_196_21, sf_196_21, fd_196_22, sf_196_22, fd_196_23, sf_196_23, fd_196_24, sf_196_24, fd_196_25, sf_196_25, fd_196_26, sf_196_26, fd_196_27, fd_196_28, fd_196_29, fd_196_30, sf_196_30, fd_196_31, fd_196_32, fd_196_33, fd_196_34, fd_196_35, fd_196_36, fd_196_37, sf_196_37, fd_196_38, fd_196_39, sf_196_39, fd_196_40, sf_196_40, fd_196_41, sf_196_41, fd_196_42, fd_196_43, fd_196_44, h13, nI_add, ld_197, sd_197, ln_197, pu_g]
  refine pw_1 hk hc h13 (r0 := pu (g 197) (1205 + k) (nI c)) (fun r a1 a2 => ?_) c 0 _ (Nat.zero_add _) (fun m hm => absurd hm (Nat.not_lt_zero m)) fun _ _ _ _ => rfl
  rw [b_mo_putsLaw_103]
  simp -implicitDefEqProofs (disch := first | assumption | omega) only [szS_0, szS_i, szS_r, szS_l, x_cons, x_goto, ob_some, kl_i, kl_r, kl_l, kl_n, push_n, push_s, pop_0, pop_i, pop_r, Int.reduceToNat, List.length_cons, List.length_nil, Nat.reduceAdd, Nat.reduceLeDiff, Nat.zero_add, true_and, nI_n0, nat_le, Nat.add_zero, i_1, rt_mo_putsLaw, x_al0, x_getf, x_goto, x_iadd, x_iaload, x_iastore, x_icge, x_il1, x_il2, x_imul, x_inc2, x_is2, x_ldc, x_vret]
  refine pw_2 hk hS h14 (r0 := r) (fun r2 b1 b2 => H r2 ⟨?_, fun i hi => ?_, b1, fun x x1 x2 x3 x4 x5 => ?_⟩) (2 * S) 0 r (Nat.zero_add _) (fun m hm => absurd hm (Nat.not_lt_zero m)) fun _ _ => rfl
  · rw [b2 _ (by omega), a2 _ (by omega) (by omega) (by omega), pu_s]
  · rw [b2 _ (by omega), b2 _ (by omega), b2 _ (by omega)]
    exact a1 i hi
  · rw [b2 _ x5, a2 _ x2 x3 x4, pu_n x1]
end PW
theorem Mc_x {w w' : Nat → Int32} {pl pl' : PL} {im : IM} {R : RD} {a b : Int32} {g g' : Nat → Nat → Int32} (h : Mc w pl im R g) (e8 : g' 198 = g 198) (e9 : g' 199 = g 199) (e5 : g' 196 5 = g 196 5) (e7 : g' 197 = w') (e4 : (pl' = pl ∧ g' 196 4 = g 196 4) ∨ (pl' = [] ∧ g' 196 4 = nI 0)) (e17 : g' 196 17 = nI 0) (e24 : g' 196 24 = a) (e26 : g' 196 26 = b) : Mc w' pl' im ((0, R.1.2), (a, b)) g' := by
  obtain ⟨⟨a1, a2, a3⟩, a4, a5, a6, a7, a8⟩ := h
  refine ⟨⟨e7, ?_, ?_⟩, ?_, e17, fun k hk => absurd hk (Nat.not_lt_zero k), e24, e26⟩
  · rcases e4 with ⟨rfl, e⟩ | ⟨rfl, e⟩
    · rw [e]; exact a2
    · exact e
  · rcases e4 with ⟨rfl, e⟩ | ⟨rfl, e⟩
    · rw [e9]; exact a3
    · exact fun i r hr => by rw [List.getElem?_nil] at hr; cases hr
  · rw [e8, e5]
    exact a4
section MT
variable {d : Nat} {g : Nat → Nat → Int32} {q : Nat → Nat → Int64} {P : QT} {T : Nat → Nat} {n : Nat} {w : Nat → Int32} {pl : PL} {im : IM} {R : RD}
theorem s_mtext {k : Nat} (hk : k < 3) (hM : Mc w pl im R g) (hn : R.1.1 ≤ 400) (hT : ∀ j, j < R.1.1 → R.1.2 j < 256)
    (H0 : k = 0 → ∀ L g', dlF R.1.2 R.1.1 = .inr L → fM g g' → Mc (dlR w L) [] im ((0, R.1.2), (nI 0, -1)) g' → P (some (.int (nI L.length))) (E g' q))
    (HL : k ≠ 0 → ∀ ls w' r1 r2 g', lnF R.1.2 R.1.1 k 401 0 0 = .inr ls → fM g g' → PLw (k - 1) ls.length (lnT ls) w r1 r2 w' → lwR r1 r2 0 0 ls → Mc w' pl im ((0, R.1.2), (nI 0, -1)) g' → P (some (.int (nI ls.length))) (E g' q))
    (HX : ∀ f j g', (k = 0 → dlF R.1.2 R.1.1 = .inl (f, j)) → (k ≠ 0 → lnF R.1.2 R.1.1 k 401 0 0 = .inl (f, j)) → fM g g' → Mc w pl im ((0, R.1.2), (nI f, nI (kB R.1.2 R.1.1 j))) g' → P (some (.int (-1))) (E g' q)) :
    callC (ev (d + 51)) mo_text [.ref 196, .int (nI k)] (E g q) P := by
  refine in_mo_text rfl ?_
  have n10 : (nI 1 = nI 0) = False := eq_false (by decide)
  have dd : decide (nI 0 ≤ nI k ∧ nI k ≤ nI 2) = true := decide_eq_true (by rw [nI_leE (by decide) (by omega), nI_leE (by omega) (by decide)]; omega)
  have hw7 : g 197 = w := hM.1.1
  obtain ⟨ga, hga⟩ : ∃ ga, ga = upw g 196 (pu (pu (pu (pu (pu (g 196) 24 (nI 0)) 26 (-1)) 22 (nI 0)) 18 (nI 0)) 12 (nI k)) := ⟨_, rfl⟩
  have oa : ∀ b, b ≠ 196 → ga b = g b := fun b hb => by rw [hga, upw_o hb]
  have fa : ∀ x, x ≠ 24 → x ≠ 26 → x ≠ 22 → x ≠ 18 → x ≠ 12 → ga 196 x = g 196 x := fun x x1 x2 x3 x4 x5 => by rw [hga, upw_s, pu_n x5, pu_n x4, pu_n x3, pu_n x2, pu_n x1]
  have a24 : ga 196 24 = nI 0 := by rw [hga, upw_s, pu_n (by decide), pu_n (by decide), pu_n (by decide), pu_n (by decide), pu_s]
  have a26 : ga 196 26 = -1 := by rw [hga, upw_s, pu_n (by decide), pu_n (by decide), pu_n (by decide), pu_s]
  have Ma : TT R.1.2 R.1.1 k ga := ⟨by rw [fa 17 (by decide) (by decide) (by decide) (by decide) (by decide)]; exact hM.2.2.1, hn, fun j hj => ⟨by rw [oa 204 (by decide)]; exact hM.2.2.2.1 j hj, hT j hj⟩, by rw [hga, upw_s, pu_s], hk⟩
  rw [b_mo_text_0]
  simp -implicitDefEqProofs (disch := first | assumption | omega) only [szS_0, szS_i, szS_r, szS_l, x_cons, x_goto, ob_some, kl_i, kl_r, kl_l, kl_n, push_n, push_s, pop_0, pop_i, pop_r, Int.reduceToNat, List.length_cons, List.length_nil, Nat.reduceAdd, Nat.reduceLeDiff, Nat.zero_add, true_and, nI_n0, nat_le, Nat.add_zero, rt_mo_text, x_al0, x_call, x_getf, x_goto, x_ifne, x_il1, x_il2, x_iret, x_is2, x_isub, x_ldc, x_m1, x_putf, fd_196_0, fd_196_1, fd_196_2, fd_196_3, fd_196_4, sf_196_4, fd_196_5, sf_196_5, fd_196_6, fd_196_7, fd_196_8, fd_196_9, fd_196_10, fd_196_11, fd_196_12, sf_196_12, fd_196_13, sf_196_13, fd_196_14, sf_196_14, fd_196_15, sf_196_15, fd_196_16, sf_196_16, fd_196_17, sf_196_17, fd_196_18, sf_196_18, fd_196_19, sf_196_19, fd_196_20, sf_196_20, fd_196_21, sf_196_21, fd_196_22, sf_196_22, fd_196_23, sf_196_23, fd_196_24, sf_196_24, fd_196_25, sf_196_25, fd_196_26, sf_196_26, fd_196_27, fd_196_28, fd_196_29, fd_196_30, sf_196_30, fd_196_31, fd_196_32, fd_196_33, fd_196_34, fd_196_35, fd_196_36, fd_196_37, sf_196_37, fd_196_38, fd_196_39, sf_196_39, fd_196_40, sf_196_40, fd_196_41, sf_196_41, fd_196_42, fd_196_43, fd_196_44, s_isIn, dd, bI_0, Bool.true_eq_false, ↓reduceIte, b_mo_text_26, pu_g, pu_w, upw_s, upw_w]
  rw [← hga]
  refine s_next0 (d := d + 40) Ma (x := 0) (Nat.zero_le _) (by rw [hga, upw_s, pu_n (by decide), pu_s]) fun g1 f1 e8 e9 e0 e1 => ?_
  have M1 : TT R.1.2 R.1.1 k g1 := TT_f Ma (f1.1 204 (by decide) (by decide)) (f1.2 17 (by decide)) (f1.2 12 (by decide))
  have T1 : mT R.1.2 R.1.1 k 0 g1 := ⟨e8, e9, e0, e1⟩
  have o1 : ∀ b, b ≠ 196 → g1 b = g b := fun b hb => by rw [f1.1 b hb List.not_mem_nil, oa b hb]
  have m1 : ∀ x, x = 4 ∨ x = 5 → g1 196 x = g 196 x := fun x hx => by rw [f1.2 x (by rcases hx with rfl | rfl <;> decide), fa x (by omega) (by omega) (by omega) (by omega) (by omega)]
  have b24 : g1 196 24 = nI 0 := (f1.2 24 (by decide)).trans a24
  have b26 : g1 196 26 = -1 := (f1.2 26 (by decide)).trans a26
  -- a fault
  have bad : ∀ f j g2, (k = 0 → dlF R.1.2 R.1.1 = .inl (f, j)) → (k ≠ 0 → lnF R.1.2 R.1.1 k 401 0 0 = .inl (f, j)) → (∀ b, b < 196 ∨ 220 ≤ b ∨ b = 197 ∨ b = 198 ∨ b = 199 → g2 b = g1 b) → g2 196 4 = g1 196 4 → g2 196 5 = g1 196 5 → g2 196 22 = nI f → g2 196 23 = nI (kB R.1.2 R.1.1 j) → wp (ev (d + 50)) P mo_text 60 [some (.ref 196), some (.int (nI k)), none] [.int (nI 0)] (E g2 q) := by
    intro f j g2 h1 h2 o2 e4 e5 e22 e23
    rw [b_mo_text_60]
    simp -implicitDefEqProofs (disch := first | assumption | omega) only [szS_0, szS_i, szS_r, szS_l, x_cons, x_goto, ob_some, kl_i, kl_r, kl_l, kl_n, push_n, push_s, pop_0, pop_i, pop_r, Int.reduceToNat, List.length_cons, List.length_nil, Nat.reduceAdd, Nat.reduceLeDiff, Nat.zero_add, true_and, nI_n0, nat_le, Nat.add_zero, rt_mo_text, x_al0, x_call, x_getf, x_goto, x_ifne, x_il1, x_il2, x_iret, x_is2, x_isub, x_ldc, x_m1, x_putf, fd_196_0, fd_196_1, fd_196_2, fd_196_3, fd_196_4, sf_196_4, fd_196_5, sf_196_5, fd_196_6, fd_196_7, fd_196_8, fd_196_9, fd_196_10, fd_196_11, fd_196_12, sf_196_12, fd_196_13, sf_196_13, fd_196_14, sf_196_14, fd_196_15, sf_196_15, fd_196_16, sf_196_16, fd_196_17, sf_196_17, fd_196_18, sf_196_18, fd_196_19, sf_196_19, fd_196_20, sf_196_20, fd_196_21, sf_196_21, fd_196_22, sf_196_22, fd_196_23, sf_196_23, fd_196_24, sf_196_24, fd_196_25, sf_196_25, fd_196_26, sf_196_26, fd_196_27, fd_196_28, fd_196_29, fd_196_30, sf_196_30, fd_196_31, fd_196_32, fd_196_33, fd_196_34, fd_196_35, fd_196_36, fd_196_37, sf_196_37, fd_196_38, fd_196_39, sf_196_39, fd_196_40, sf_196_40, fd_196_41, sf_196_41, fd_196_42, fd_196_43, fd_196_44, pu_g, pu_w, upw_s, upw_w, pu_n, ↓reduceIte, e22, e23]
    refine HX f j _ h1 h2 (fun b hb => ?_) (Mc_x hM ?_ ?_ ?_ ?_ (Or.inl ⟨rfl, ?_⟩) ?_ ?_ ?_)
    · rw [upw_o (by omega), o2 b (by omega), o1 b (by omega)]
    · rw [upw_o (by decide), o2 198 (by omega), o1 198 (by decide)]
    · rw [upw_o (by decide), o2 199 (by omega), o1 199 (by decide)]
    · rw [upw_s, pu_n (by decide), pu_n (by decide), pu_n (by decide), e5, m1 5 (by omega)]
    · rw [upw_o (by decide), o2 197 (by omega), o1 197 (by decide), hw7]
    · rw [upw_s, pu_n (by decide), pu_n (by decide), pu_n (by decide), e4, m1 4 (by omega)]
    · rw [upw_s, pu_n (by decide), pu_n (by decide), pu_s]
    · rw [upw_s, pu_n (by decide), pu_s]
    · rw [upw_s, pu_s]
  by_cases k0 : k = 0
  · have z0 : nI k = nI 0 := by rw [k0]
    simp -implicitDefEqProofs (disch := first | assumption | omega) only [szS_0, szS_i, szS_r, szS_l, x_cons, x_goto, ob_some, kl_i, kl_r, kl_l, kl_n, push_n, push_s, pop_0, pop_i, pop_r, Int.reduceToNat, List.length_cons, List.length_nil, Nat.reduceAdd, Nat.reduceLeDiff, Nat.zero_add, true_and, nI_n0, nat_le, Nat.add_zero, rt_mo_text, x_al0, x_call, x_getf, x_goto, x_ifne, x_il1, x_il2, x_iret, x_is2, x_isub, x_ldc, x_m1, x_putf, z0, ↓reduceIte]
    rw [z0] at bad
    rw [k0] at M1 T1
    refine s_readsDelta (d := d + 35) M1 T1 (fun L g2 e f2 e15 V2 => ?_) fun f j g2 e f2 e22 e23 => ?_
    · have hL := dlF_k e
      obtain ⟨g3, hg3⟩ : ∃ g3, g3 = upw g2 196 (pu (g2 196) 17 (nI 0)) := ⟨_, rfl⟩
      have o3 : ∀ b, b ≠ 196 → g3 b = g2 b := fun b hb => by rw [hg3, upw_o hb]
      have m3 : ∀ x, x ≠ 17 → g3 196 x = g2 196 x := fun x hx => by rw [hg3, upw_s, pu_n hx]
      have e197 : g3 197 = w := by rw [o3 197 (by decide), f2.1 197 (by decide) (by decide), o1 197 (by decide), hw7]
      have e315 : g3 196 15 = nI L.length := (m3 15 (by decide)).trans e15
      simp -implicitDefEqProofs (disch := first | assumption | omega) only [szS_0, szS_i, szS_r, szS_l, x_cons, x_goto, ob_some, kl_i, kl_r, kl_l, kl_n, push_n, push_s, pop_0, pop_i, pop_r, Int.reduceToNat, List.length_cons, List.length_nil, Nat.reduceAdd, Nat.reduceLeDiff, Nat.zero_add, true_and, nI_n0, nat_le, Nat.add_zero, rt_mo_text, x_al0, x_call, x_getf, x_goto, x_ifne, x_il1, x_il2, x_iret, x_is2, x_isub, x_ldc, x_m1, x_putf, b_mo_text_60, fd_196_0, fd_196_1, fd_196_2, fd_196_3, fd_196_4, sf_196_4, fd_196_5, sf_196_5, fd_196_6, fd_196_7, fd_196_8, fd_196_9, fd_196_10, fd_196_11, fd_196_12, sf_196_12, fd_196_13, sf_196_13, fd_196_14, sf_196_14, fd_196_15, sf_196_15, fd_196_16, sf_196_16, fd_196_17, sf_196_17, fd_196_18, sf_196_18, fd_196_19, sf_196_19, fd_196_20, sf_196_20, fd_196_21, sf_196_21, fd_196_22, sf_196_22, fd_196_23, sf_196_23, fd_196_24, sf_196_24, fd_196_25, sf_196_25, fd_196_26, sf_196_26, fd_196_27, fd_196_28, fd_196_29, fd_196_30, sf_196_30, fd_196_31, fd_196_32, fd_196_33, fd_196_34, fd_196_35, fd_196_36, fd_196_37, sf_196_37, fd_196_38, fd_196_39, sf_196_39, fd_196_40, sf_196_40, fd_196_41, sf_196_41, fd_196_42, fd_196_43, fd_196_44, pu_g, n10, ↓reduceIte, b_mo_text_88]
      rw [← hg3]
      refine s_putsDelta (d := d + 48) hL.1 e197 e315 (mVs_c (fun x _ => by rw [o3 203 (by decide)]) V2) ?_
      simp -implicitDefEqProofs (disch := first | assumption | omega) only [szS_0, szS_i, szS_r, szS_l, x_cons, x_goto, ob_some, kl_i, kl_r, kl_l, kl_n, push_n, push_s, pop_0, pop_i, pop_r, Int.reduceToNat, List.length_cons, List.length_nil, Nat.reduceAdd, Nat.reduceLeDiff, Nat.zero_add, true_and, nI_n0, nat_le, Nat.add_zero, rt_mo_text, x_al0, x_call, x_getf, x_goto, x_ifne, x_il1, x_il2, x_iret, x_is2, x_isub, x_ldc, x_m1, x_putf, fd_196_0, fd_196_1, fd_196_2, fd_196_3, fd_196_4, sf_196_4, fd_196_5, sf_196_5, fd_196_6, fd_196_7, fd_196_8, fd_196_9, fd_196_10, fd_196_11, fd_196_12, sf_196_12, fd_196_13, sf_196_13, fd_196_14, sf_196_14, fd_196_15, sf_196_15, fd_196_16, sf_196_16, fd_196_17, sf_196_17, fd_196_18, sf_196_18, fd_196_19, sf_196_19, fd_196_20, sf_196_20, fd_196_21, sf_196_21, fd_196_22, sf_196_22, fd_196_23, sf_196_23, fd_196_24, sf_196_24, fd_196_25, sf_196_25, fd_196_26, sf_196_26, fd_196_27, fd_196_28, fd_196_29, fd_196_30, sf_196_30, fd_196_31, fd_196_32, fd_196_33, fd_196_34, fd_196_35, fd_196_36, fd_196_37, sf_196_37, fd_196_38, fd_196_39, sf_196_39, fd_196_40, sf_196_40, fd_196_41, sf_196_41, fd_196_42, fd_196_43, fd_196_44, upw_s, pu_n, e315]
      have e2 : ∀ b, b < 196 ∨ 220 ≤ b ∨ b = 198 ∨ b = 199 → g2 b = g1 b := fun b hb => f2.1 b (by omega) (by rw [List.mem_singleton]; omega)
      refine H0 k0 L _ e (fun b hb => ?_) (Mc_x hM ?_ ?_ ?_ ?_ (Or.inr ⟨rfl, ?_⟩) ?_ ?_ ?_)
      · rw [upw_o (by omega), upw_o (by omega), o3 b (by omega), e2 b (by omega), o1 b (by omega)]
      · rw [upw_o (by decide), upw_o (by decide), o3 198 (by decide), e2 198 (by omega), o1 198 (by decide)]
      · rw [upw_o (by decide), upw_o (by decide), o3 199 (by decide), e2 199 (by omega), o1 199 (by decide)]
      · rw [upw_s, pu_n (by decide), m3 5 (by decide), f2.2 5 (by decide), m1 5 (by omega)]
      · rw [upw_o (by decide), upw_s]
      · rw [upw_s, pu_s]
      · rw [upw_s, pu_n (by decide), hg3, upw_s, pu_s]
      · rw [upw_s, pu_n (by decide), m3 24 (by decide), f2.2 24 (by decide), b24]
      · rw [upw_s, pu_n (by decide), m3 26 (by decide), f2.2 26 (by decide), b26]
    · simp -implicitDefEqProofs (disch := first | assumption | omega) only [szS_0, szS_i, szS_r, szS_l, x_cons, x_goto, ob_some, kl_i, kl_r, kl_l, kl_n, push_n, push_s, pop_0, pop_i, pop_r, Int.reduceToNat, List.length_cons, List.length_nil, Nat.reduceAdd, Nat.reduceLeDiff, Nat.zero_add, true_and, nI_n0, nat_le, Nat.add_zero, rt_mo_text, x_al0, x_call, x_getf, x_goto, x_ifne, x_il1, x_il2, x_iret, x_is2, x_isub, x_ldc, x_m1, x_putf]
      exact bad f j g2 (fun _ => e) (fun h => absurd k0 h) (fun b hb => f2.1 b (by omega) (by rw [List.mem_singleton]; omega)) (f2.2 4 (by decide)) (f2.2 5 (by decide)) e22 e23
  · have z0 : (nI k = nI 0) = False := eq_false fun h => k0 (by rw [nI_eqE (by omega) (by decide)] at h; exact h)
    have hk1 : 1 ≤ k := by omega
    have ek : nI k - nI 1 = nI (k - 1) := nI_sub hk1
    simp -implicitDefEqProofs (disch := first | assumption | omega) only [szS_0, szS_i, szS_r, szS_l, x_cons, x_goto, ob_some, kl_i, kl_r, kl_l, kl_n, push_n, push_s, pop_0, pop_i, pop_r, Int.reduceToNat, List.length_cons, List.length_nil, Nat.reduceAdd, Nat.reduceLeDiff, Nat.zero_add, true_and, nI_n0, nat_le, Nat.add_zero, rt_mo_text, x_al0, x_call, x_getf, x_goto, x_ifne, x_il1, x_il2, x_iret, x_is2, x_isub, x_ldc, x_m1, x_putf, z0, ↓reduceIte, b_mo_text_56]
    refine s_readsLaw (d := d + 8) hk1 M1 T1 (fun ls g2 e l2 => ?_) fun f j g2 e x2 => ?_
    · obtain ⟨f2, a1, a2, a3, a4, a5⟩ := l2
      rw [Nat.zero_add] at a1 a2
      have hls := lnF_k hk1 hk 401 0 0 (Nat.zero_le _) (Nat.zero_le _) e
      have hS : lnT ls ≤ 400 := by
        have := lnT_l (k := k - 1) (ls := ls)
        omega
      obtain ⟨g3, hg3⟩ : ∃ g3, g3 = upw g2 196 (pu (g2 196) 17 (nI 0)) := ⟨_, rfl⟩
      have o3 : ∀ b, b ≠ 196 → g3 b = g2 b := fun b hb => by rw [hg3, upw_o hb]
      have m3 : ∀ x, x ≠ 17 → g3 196 x = g2 196 x := fun x hx => by rw [hg3, upw_s, pu_n hx]
      have e197 : g3 197 = w := by rw [o3 197 (by decide), f2.1 197 (by decide) (by decide), o1 197 (by decide), hw7]
      simp -implicitDefEqProofs (disch := first | assumption | omega) only [szS_0, szS_i, szS_r, szS_l, x_cons, x_goto, ob_some, kl_i, kl_r, kl_l, kl_n, push_n, push_s, pop_0, pop_i, pop_r, Int.reduceToNat, List.length_cons, List.length_nil, Nat.reduceAdd, Nat.reduceLeDiff, Nat.zero_add, true_and, nI_n0, nat_le, Nat.add_zero, rt_mo_text, x_al0, x_call, x_getf, x_goto, x_ifne, x_il1, x_il2, x_iret, x_is2, x_isub, x_ldc, x_m1, x_putf, b_mo_text_60, fd_196_0, fd_196_1, fd_196_2, fd_196_3, fd_196_4, sf_196_4, fd_196_5, sf_196_5, fd_196_6, fd_196_7, fd_196_8, fd_196_9, fd_196_10, fd_196_11, fd_196_12, sf_196_12, fd_196_13, sf_196_13, fd_196_14, sf_196_14, fd_196_15, sf_196_15, fd_196_16, sf_196_16, fd_196_17, sf_196_17, fd_196_18, sf_196_18, fd_196_19, sf_196_19, fd_196_20, sf_196_20, fd_196_21, sf_196_21, fd_196_22, sf_196_22, fd_196_23, sf_196_23, fd_196_24, sf_196_24, fd_196_25, sf_196_25, fd_196_26, sf_196_26, fd_196_27, fd_196_28, fd_196_29, fd_196_30, sf_196_30, fd_196_31, fd_196_32, fd_196_33, fd_196_34, fd_196_35, fd_196_36, fd_196_37, sf_196_37, fd_196_38, fd_196_39, sf_196_39, fd_196_40, sf_196_40, fd_196_41, sf_196_41, fd_196_42, fd_196_43, fd_196_44, pu_g, n10, ↓reduceIte, b_mo_text_88, z0, b_mo_text_101, ek]
      rw [← hg3]
      refine s_putsLaw (d := d + 49) (c := ls.length) (S := lnT ls) (by omega) (by omega) ((m3 13 (by decide)).trans a1) hS ((m3 14 (by decide)).trans a2) fun w' hp => ?_
      rw [e197, o3 201 (by decide), o3 202 (by decide)] at hp
      have e313 : g3 196 13 = nI ls.length := (m3 13 (by decide)).trans a1
      simp -implicitDefEqProofs (disch := first | assumption | omega) only [szS_0, szS_i, szS_r, szS_l, x_cons, x_goto, ob_some, kl_i, kl_r, kl_l, kl_n, push_n, push_s, pop_0, pop_i, pop_r, Int.reduceToNat, List.length_cons, List.length_nil, Nat.reduceAdd, Nat.reduceLeDiff, Nat.zero_add, true_and, nI_n0, nat_le, Nat.add_zero, rt_mo_text, x_al0, x_call, x_getf, x_goto, x_ifne, x_il1, x_il2, x_iret, x_is2, x_isub, x_ldc, x_m1, x_putf, fd_196_0, fd_196_1, fd_196_2, fd_196_3, fd_196_4, sf_196_4, fd_196_5, sf_196_5, fd_196_6, fd_196_7, fd_196_8, fd_196_9, fd_196_10, fd_196_11, fd_196_12, sf_196_12, fd_196_13, sf_196_13, fd_196_14, sf_196_14, fd_196_15, sf_196_15, fd_196_16, sf_196_16, fd_196_17, sf_196_17, fd_196_18, sf_196_18, fd_196_19, sf_196_19, fd_196_20, sf_196_20, fd_196_21, sf_196_21, fd_196_22, sf_196_22, fd_196_23, sf_196_23, fd_196_24, sf_196_24, fd_196_25, sf_196_25, fd_196_26, sf_196_26, fd_196_27, fd_196_28, fd_196_29, fd_196_30, sf_196_30, fd_196_31, fd_196_32, fd_196_33, fd_196_34, fd_196_35, fd_196_36, fd_196_37, sf_196_37, fd_196_38, fd_196_39, sf_196_39, fd_196_40, sf_196_40, fd_196_41, sf_196_41, fd_196_42, fd_196_43, fd_196_44, upw_o, e313]
      have e2 : ∀ b, b < 196 ∨ 220 ≤ b ∨ b = 198 ∨ b = 199 → g2 b = g1 b := fun b hb => f2.1 b (by omega) (by simp only [List.mem_cons, List.not_mem_nil, or_false]; omega)
      refine HL k0 ls w' _ _ _ e (fun b hb => ?_) hp a3 (Mc_x hM ?_ ?_ ?_ ?_ (Or.inl ⟨rfl, ?_⟩) ?_ ?_ ?_)
      · rw [upw_o (by omega), o3 b (by omega), e2 b (by omega), o1 b (by omega)]
      · rw [upw_o (by decide), o3 198 (by decide), e2 198 (by omega), o1 198 (by decide)]
      · rw [upw_o (by decide), o3 199 (by decide), e2 199 (by omega), o1 199 (by decide)]
      · rw [upw_o (by decide), m3 5 (by decide), f2.2 5 (by decide), m1 5 (by omega)]
      · rw [upw_s]
      · rw [upw_o (by decide), m3 4 (by decide), f2.2 4 (by decide), m1 4 (by omega)]
      · rw [upw_o (by decide), hg3, upw_s, pu_s]
      · rw [upw_o (by decide), m3 24 (by decide), f2.2 24 (by decide), b24]
      · rw [upw_o (by decide), m3 26 (by decide), f2.2 26 (by decide), b26]
    · obtain ⟨f2, e22, e23⟩ := x2
      simp -implicitDefEqProofs (disch := first | assumption | omega) only [szS_0, szS_i, szS_r, szS_l, x_cons, x_goto, ob_some, kl_i, kl_r, kl_l, kl_n, push_n, push_s, pop_0, pop_i, pop_r, Int.reduceToNat, List.length_cons, List.length_nil, Nat.reduceAdd, Nat.reduceLeDiff, Nat.zero_add, true_and, nI_n0, nat_le, Nat.add_zero, rt_mo_text, x_al0, x_call, x_getf, x_goto, x_ifne, x_il1, x_il2, x_iret, x_is2, x_isub, x_ldc, x_m1, x_putf]
      exact bad f j g2 (fun h => absurd h k0) (fun _ => e) (fun b hb => f2.1 b (by omega) (by simp only [List.mem_cons, List.not_mem_nil, or_false]; omega)) (f2.2 4 (by decide)) (f2.2 5 (by decide)) e22 e23
/-- no such text -/
theorem s_mtextN {k : Int32} (hk : ¬ (nI 0 ≤ k ∧ k ≤ nI 2)) (hM : Mc w pl im R g) (H : ∀ g', fM g g' → Mc w pl im ((0, R.1.2), (nI 0, -1)) g' → P (some (.int (-1))) (E g' q)) : callC (ev (d + 51)) mo_text [.ref 196, .int k] (E g q) P := by
  refine in_mo_text rfl ?_
  have dd : decide (nI 0 ≤ k ∧ k ≤ nI 2) = false := decide_eq_false hk
  rw [b_mo_text_0]
  simp -implicitDefEqProofs (disch := first | assumption | omega) only [szS_0, szS_i, szS_r, szS_l, x_cons, x_goto, ob_some, kl_i, kl_r, kl_l, kl_n, push_n, push_s, pop_0, pop_i, pop_r, Int.reduceToNat, List.length_cons, List.length_nil, Nat.reduceAdd, Nat.reduceLeDiff, Nat.zero_add, true_and, nI_n0, nat_le, Nat.add_zero, rt_mo_text, x_al0, x_call, x_getf, x_goto, x_ifne, x_il1, x_il2, x_iret, x_is2, x_isub, x_ldc, x_m1, x_putf, fd_196_0, fd_196_1, fd_196_2, fd_196_3, fd_196_4, sf_196_4, fd_196_5, sf_196_5, fd_196_6, fd_196_7, fd_196_8, fd_196_9, fd_196_10, fd_196_11, fd_196_12, sf_196_12, fd_196_13, sf_196_13, fd_196_14, sf_196_14, fd_196_15, sf_196_15, fd_196_16, sf_196_16, fd_196_17, sf_196_17, fd_196_18, sf_196_18, fd_196_19, sf_196_19, fd_196_20, sf_196_20, fd_196_21, sf_196_21, fd_196_22, sf_196_22, fd_196_23, sf_196_23, fd_196_24, sf_196_24, fd_196_25, sf_196_25, fd_196_26, sf_196_26, fd_196_27, fd_196_28, fd_196_29, fd_196_30, sf_196_30, fd_196_31, fd_196_32, fd_196_33, fd_196_34, fd_196_35, fd_196_36, fd_196_37, sf_196_37, fd_196_38, fd_196_39, sf_196_39, fd_196_40, sf_196_40, fd_196_41, sf_196_41, fd_196_42, fd_196_43, fd_196_44, s_isIn, dd, bI_0, ↓reduceIte, pu_g, pu_w, upw_s, upw_w]
  refine H _ (fun b hb => upw_o (by omega)) (Mc_x hM (upw_o (by decide)) (upw_o (by decide)) ?_ ?_ (Or.inl ⟨rfl, ?_⟩) ?_ ?_ ?_)
  · rw [upw_s, pu_n (by decide), pu_n (by decide), pu_n (by decide)]
  · rw [upw_o (by decide)]
    exact hM.1.1
  · rw [upw_s, pu_n (by decide), pu_n (by decide), pu_n (by decide)]
  · rw [upw_s, pu_s]
  · rw [upw_s, pu_n (by decide), pu_n (by decide), pu_s]
  · rw [upw_s, pu_n (by decide), pu_s]
end MT
