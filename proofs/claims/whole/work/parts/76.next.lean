/-! the reference's next token -/
section NX2
variable {d : Nat} {g : Nat → Nat → Int32} {q : Nat → Nat → Int64} {P : QT} {T : Nat → Nat} {n k : Nat}
theorem TT_F {fs : List Nat} {g g' : Nat → Nat → Int32} (h : TT T n k g) (f : FR [] fs g g') (h1 : fs.contains 17 = false) (h2 : fs.contains 12 = false) : TT T n k g' :=
  TT_f h (FR_a f rfl) (f.2 17 fun hm => by
    rw [List.contains_iff_mem.mpr hm] at h1
    cases h1) (f.2 12 fun hm => by
    rw [List.contains_iff_mem.mpr hm] at h2
    cases h2)
theorem nx_ws {g0 : Nat → Nat → Int32} (hM : TT T n k g0) {b : Nat} (H : ∀ g', FR [] [18] g0 g' → g' 196 18 = nI b → wp (ev (d + 9)) P mo_next0 39 [some (.ref 196), none, none] [] (E g' q)) : ∀ (j x : Nat) (g1 : Nat → Nat → Int32), x + j = n → tB T n x = b → FR [] [18] g0 g1 → g1 196 18 = nI x →
    wp (ev (d + 9)) P mo_next0 0 [some (.ref 196), none, none] [] (E g1 q) := by
  intro j
  induction j with
  | zero =>
    intro x g1 hx hb f1 h18
    have hx : x = n := hx
    subst hx
    have e : tB T x x = x := scn_e (Nat.le_refl x)
    rw [e] at hb
    subst hb
    have n32 : ((-1 : Int32) = nI 32) = False := eq_false (by decide)
    have n10 : ((-1 : Int32) = nI 10) = False := eq_false (by decide)
    rw [b_mo_next0_0]
    simp -implicitDefEqProofs (disch := first | assumption | omega) only [szS_0, szS_i, szS_r, szS_l, x_cons, x_goto, ob_some, kl_i, kl_r, kl_l, kl_n, push_n, push_s, pop_0, pop_i, pop_r, Int.reduceToNat, List.length_cons, List.length_nil, Nat.reduceAdd, Nat.reduceLeDiff, Nat.zero_add, true_and, nI_n0, nat_le, Nat.add_zero, rt_mo_next0, x_al0, x_call, x_dupi, x_dupr, x_getf, x_goto, x_iadd, x_iceq, x_icge, x_icne, x_ifeq, x_il1, x_il2, x_imul, x_is1, x_is2, x_isub, x_ldc, x_m1, x_putf, x_vret, fd_196_0, fd_196_1, fd_196_2, fd_196_3, fd_196_4, sf_196_4, fd_196_5, sf_196_5, fd_196_6, fd_196_7, fd_196_8, fd_196_9, fd_196_10, fd_196_11, fd_196_12, sf_196_12, fd_196_13, sf_196_13, fd_196_14, sf_196_14, fd_196_15, sf_196_15, fd_196_16, sf_196_16, fd_196_17, sf_196_17, fd_196_18, sf_196_18, fd_196_19, sf_196_19, fd_196_20, sf_196_20, fd_196_21, sf_196_21, fd_196_22, sf_196_22, fd_196_23, sf_196_23, fd_196_24, sf_196_24, fd_196_25, sf_196_25, fd_196_26, sf_196_26, fd_196_27, fd_196_28, fd_196_29, fd_196_30, sf_196_30, fd_196_31, fd_196_32, fd_196_33, fd_196_34, fd_196_35, fd_196_36, fd_196_37, sf_196_37, fd_196_38, fd_196_39, sf_196_39, fd_196_40, sf_196_40, fd_196_41, sf_196_41, fd_196_42, fd_196_43, fd_196_44, h18, s_see (TT_F hM f1 rfl rfl) (Nat.le_refl x), seV_0, n32, n10, ↓reduceIte]
    exact H g1 f1 h18
  | succ j ih =>
    intro x g1 hx hb f1 h18
    have hx' : x < n := by omega
    have hn := hM.2.1
    have hT := (hM.2.2.1 x hx').2
    have e : tB T n x = if wsp (T x) = true then tB T n (x + 1) else x := by
      cases hw : wsp (T x)
      · rw [if_neg Bool.false_ne_true]
        exact scn_n hx' hw
      · rw [if_pos rfl]
        exact scn_s hx' hw
    rw [e] at hb
    have go : wsp (T x) = true → wp (ev (d + 9)) P mo_next0 26 [some (.ref 196), none, none] [] (E g1 q) := by
      intro hw
      rw [if_pos hw] at hb
      rw [b_mo_next0_26]
      simp -implicitDefEqProofs (disch := first | assumption | omega) only [szS_0, szS_i, szS_r, szS_l, x_cons, x_goto, ob_some, kl_i, kl_r, kl_l, kl_n, push_n, push_s, pop_0, pop_i, pop_r, Int.reduceToNat, List.length_cons, List.length_nil, Nat.reduceAdd, Nat.reduceLeDiff, Nat.zero_add, true_and, nI_n0, nat_le, Nat.add_zero, rt_mo_next0, x_al0, x_call, x_dupi, x_dupr, x_getf, x_goto, x_iadd, x_iceq, x_icge, x_icne, x_ifeq, x_il1, x_il2, x_imul, x_is1, x_is2, x_isub, x_ldc, x_m1, x_putf, x_vret, fd_196_0, fd_196_1, fd_196_2, fd_196_3, fd_196_4, sf_196_4, fd_196_5, sf_196_5, fd_196_6, fd_196_7, fd_196_8, fd_196_9, fd_196_10, fd_196_11, fd_196_12, sf_196_12, fd_196_13, sf_196_13, fd_196_14, sf_196_14, fd_196_15, sf_196_15, fd_196_16, sf_196_16, fd_196_17, sf_196_17, fd_196_18, sf_196_18, fd_196_19, sf_196_19, fd_196_20, sf_196_20, fd_196_21, sf_196_21, fd_196_22, sf_196_22, fd_196_23, sf_196_23, fd_196_24, sf_196_24, fd_196_25, sf_196_25, fd_196_26, sf_196_26, fd_196_27, fd_196_28, fd_196_29, fd_196_30, sf_196_30, fd_196_31, fd_196_32, fd_196_33, fd_196_34, fd_196_35, fd_196_36, fd_196_37, sf_196_37, fd_196_38, fd_196_39, sf_196_39, fd_196_40, sf_196_40, fd_196_41, sf_196_41, fd_196_42, fd_196_43, fd_196_44, h18, nI_add, pu_g]
      exact ih (x + 1) _ (by omega) hb (FR_p rfl f1 f1) (by rw [upw_s, pu_s])
    rw [b_mo_next0_0]
    simp -implicitDefEqProofs (disch := first | assumption | omega) only [szS_0, szS_i, szS_r, szS_l, x_cons, x_goto, ob_some, kl_i, kl_r, kl_l, kl_n, push_n, push_s, pop_0, pop_i, pop_r, Int.reduceToNat, List.length_cons, List.length_nil, Nat.reduceAdd, Nat.reduceLeDiff, Nat.zero_add, true_and, nI_n0, nat_le, Nat.add_zero, rt_mo_next0, x_al0, x_call, x_dupi, x_dupr, x_getf, x_goto, x_iadd, x_iceq, x_icge, x_icne, x_ifeq, x_il1, x_il2, x_imul, x_is1, x_is2, x_isub, x_ldc, x_m1, x_putf, x_vret, fd_196_0, fd_196_1, fd_196_2, fd_196_3, fd_196_4, sf_196_4, fd_196_5, sf_196_5, fd_196_6, fd_196_7, fd_196_8, fd_196_9, fd_196_10, fd_196_11, fd_196_12, sf_196_12, fd_196_13, sf_196_13, fd_196_14, sf_196_14, fd_196_15, sf_196_15, fd_196_16, sf_196_16, fd_196_17, sf_196_17, fd_196_18, sf_196_18, fd_196_19, sf_196_19, fd_196_20, sf_196_20, fd_196_21, sf_196_21, fd_196_22, sf_196_22, fd_196_23, sf_196_23, fd_196_24, sf_196_24, fd_196_25, sf_196_25, fd_196_26, sf_196_26, fd_196_27, fd_196_28, fd_196_29, fd_196_30, sf_196_30, fd_196_31, fd_196_32, fd_196_33, fd_196_34, fd_196_35, fd_196_36, fd_196_37, sf_196_37, fd_196_38, fd_196_39, sf_196_39, fd_196_40, sf_196_40, fd_196_41, sf_196_41, fd_196_42, fd_196_43, fd_196_44, h18, s_see (TT_F hM f1 rfl rfl) (Nat.le_of_lt hx'), seV_1 hx', nI_eqE]
    by_cases h32 : T x = 32
    · rw [if_pos h32]
      exact go (decide_eq_true (Or.inl h32))
    · rw [if_neg h32]
      try simp -implicitDefEqProofs (disch := first | assumption | omega) only [szS_0, szS_i, szS_r, szS_l, x_cons, x_goto, ob_some, kl_i, kl_r, kl_l, kl_n, push_n, push_s, pop_0, pop_i, pop_r, Int.reduceToNat, List.length_cons, List.length_nil, Nat.reduceAdd, Nat.reduceLeDiff, Nat.zero_add, true_and, nI_n0, nat_le, Nat.add_zero, rt_mo_next0, x_al0, x_call, x_dupi, x_dupr, x_getf, x_goto, x_iadd, x_iceq, x_icge, x_icne, x_ifeq, x_il1, x_il2, x_imul, x_is1, x_is2, x_isub, x_ldc, x_m1, x_putf, x_vret, fd_196_0, fd_196_1, fd_196_2, fd_196_3, fd_196_4, sf_196_4, fd_196_5, sf_196_5, fd_196_6, fd_196_7, fd_196_8, fd_196_9, fd_196_10, fd_196_11, fd_196_12, sf_196_12, fd_196_13, sf_196_13, fd_196_14, sf_196_14, fd_196_15, sf_196_15, fd_196_16, sf_196_16, fd_196_17, sf_196_17, fd_196_18, sf_196_18, fd_196_19, sf_196_19, fd_196_20, sf_196_20, fd_196_21, sf_196_21, fd_196_22, sf_196_22, fd_196_23, sf_196_23, fd_196_24, sf_196_24, fd_196_25, sf_196_25, fd_196_26, sf_196_26, fd_196_27, fd_196_28, fd_196_29, fd_196_30, sf_196_30, fd_196_31, fd_196_32, fd_196_33, fd_196_34, fd_196_35, fd_196_36, fd_196_37, sf_196_37, fd_196_38, fd_196_39, sf_196_39, fd_196_40, sf_196_40, fd_196_41, sf_196_41, fd_196_42, fd_196_43, fd_196_44, h18, s_see (TT_F hM f1 rfl rfl) (Nat.le_of_lt hx'), seV_1 hx', nI_eqE]
      by_cases h10 : T x = 10
      · rw [if_pos h10]
        exact go (decide_eq_true (Or.inr h10))
      · rw [if_neg h10]
        rw [if_neg (by rw [show wsp (T x) = false from decide_eq_false fun h => h.elim h32 h10]; exact Bool.false_ne_true)] at hb
        exact H g1 f1 (by rw [← hb]; exact h18)
theorem nx_lt {g0 : Nat → Nat → Int32} (hM : TT T n k g0) {e : Nat} {v : Int32} (H : ∀ g', FR [] [18] g0 g' → g' 196 18 = nI e → wp (ev (d + 9)) P mo_next0 103 [some (.ref 196), some (.int v), none] [] (E g' q)) : ∀ (j x : Nat) (g1 : Nat → Nat → Int32), x + j = n → scn (fun i => ltr (T i)) n x = e → FR [] [18] g0 g1 → g1 196 18 = nI x →
    wp (ev (d + 9)) P mo_next0 76 [some (.ref 196), some (.int v), none] [] (E g1 q) := by
  intro j
  induction j with
  | zero =>
    intro x g1 hx hb f1 h18
    have hx : x = n := hx
    subst hx
    rw [scn_e (Nat.le_refl x)] at hb
    subst hb
    rw [b_mo_next0_76]
    simp -implicitDefEqProofs (disch := first | assumption | omega) only [szS_0, szS_i, szS_r, szS_l, x_cons, x_goto, ob_some, kl_i, kl_r, kl_l, kl_n, push_n, push_s, pop_0, pop_i, pop_r, Int.reduceToNat, List.length_cons, List.length_nil, Nat.reduceAdd, Nat.reduceLeDiff, Nat.zero_add, true_and, nI_n0, nat_le, Nat.add_zero, rt_mo_next0, x_al0, x_call, x_dupi, x_dupr, x_getf, x_goto, x_iadd, x_iceq, x_icge, x_icne, x_ifeq, x_il1, x_il2, x_imul, x_is1, x_is2, x_isub, x_ldc, x_m1, x_putf, x_vret, fd_196_0, fd_196_1, fd_196_2, fd_196_3, fd_196_4, sf_196_4, fd_196_5, sf_196_5, fd_196_6, fd_196_7, fd_196_8, fd_196_9, fd_196_10, fd_196_11, fd_196_12, sf_196_12, fd_196_13, sf_196_13, fd_196_14, sf_196_14, fd_196_15, sf_196_15, fd_196_16, sf_196_16, fd_196_17, sf_196_17, fd_196_18, sf_196_18, fd_196_19, sf_196_19, fd_196_20, sf_196_20, fd_196_21, sf_196_21, fd_196_22, sf_196_22, fd_196_23, sf_196_23, fd_196_24, sf_196_24, fd_196_25, sf_196_25, fd_196_26, sf_196_26, fd_196_27, fd_196_28, fd_196_29, fd_196_30, sf_196_30, fd_196_31, fd_196_32, fd_196_33, fd_196_34, fd_196_35, fd_196_36, fd_196_37, sf_196_37, fd_196_38, fd_196_39, sf_196_39, fd_196_40, sf_196_40, fd_196_41, sf_196_41, fd_196_42, fd_196_43, fd_196_44, h18, s_see (TT_F hM f1 rfl rfl) (Nat.le_refl x), seV_0, s_mletter, ltr_m, bI_0, ↓reduceIte]
    exact H g1 f1 h18
  | succ j ih =>
    intro x g1 hx hb f1 h18
    have hx' : x < n := by omega
    have hn := hM.2.1
    have hT := (hM.2.2.1 x hx').2
    rw [b_mo_next0_76]
    simp -implicitDefEqProofs (disch := first | assumption | omega) only [szS_0, szS_i, szS_r, szS_l, x_cons, x_goto, ob_some, kl_i, kl_r, kl_l, kl_n, push_n, push_s, pop_0, pop_i, pop_r, Int.reduceToNat, List.length_cons, List.length_nil, Nat.reduceAdd, Nat.reduceLeDiff, Nat.zero_add, true_and, nI_n0, nat_le, Nat.add_zero, rt_mo_next0, x_al0, x_call, x_dupi, x_dupr, x_getf, x_goto, x_iadd, x_iceq, x_icge, x_icne, x_ifeq, x_il1, x_il2, x_imul, x_is1, x_is2, x_isub, x_ldc, x_m1, x_putf, x_vret, fd_196_0, fd_196_1, fd_196_2, fd_196_3, fd_196_4, sf_196_4, fd_196_5, sf_196_5, fd_196_6, fd_196_7, fd_196_8, fd_196_9, fd_196_10, fd_196_11, fd_196_12, sf_196_12, fd_196_13, sf_196_13, fd_196_14, sf_196_14, fd_196_15, sf_196_15, fd_196_16, sf_196_16, fd_196_17, sf_196_17, fd_196_18, sf_196_18, fd_196_19, sf_196_19, fd_196_20, sf_196_20, fd_196_21, sf_196_21, fd_196_22, sf_196_22, fd_196_23, sf_196_23, fd_196_24, sf_196_24, fd_196_25, sf_196_25, fd_196_26, sf_196_26, fd_196_27, fd_196_28, fd_196_29, fd_196_30, sf_196_30, fd_196_31, fd_196_32, fd_196_33, fd_196_34, fd_196_35, fd_196_36, fd_196_37, sf_196_37, fd_196_38, fd_196_39, sf_196_39, fd_196_40, sf_196_40, fd_196_41, sf_196_41, fd_196_42, fd_196_43, fd_196_44, h18, s_see (TT_F hM f1 rfl rfl) (Nat.le_of_lt hx'), seV_1 hx', s_mletter, ltr_v hT, bI_0]
    cases hl : ltr (T x)
    · rw [scn_n hx' hl] at hb
      subst hb
      simp -implicitDefEqProofs (disch := first | assumption | omega) only [↓reduceIte]
      exact H g1 f1 h18
    · rw [scn_s hx' hl] at hb
      simp -implicitDefEqProofs (disch := first | assumption | omega) only [Bool.true_eq_false, ↓reduceIte, szS_0, szS_i, szS_r, szS_l, x_cons, x_goto, ob_some, kl_i, kl_r, kl_l, kl_n, push_n, push_s, pop_0, pop_i, pop_r, Int.reduceToNat, List.length_cons, List.length_nil, Nat.reduceAdd, Nat.reduceLeDiff, Nat.zero_add, true_and, nI_n0, nat_le, Nat.add_zero, rt_mo_next0, x_al0, x_call, x_dupi, x_dupr, x_getf, x_goto, x_iadd, x_iceq, x_icge, x_icne, x_ifeq, x_il1, x_il2, x_imul, x_is1, x_is2, x_isub, x_ldc, x_m1, x_putf, x_vret, fd_196_0, fd_196_1, fd_196_2, fd_196_3, fd_196_4, sf_196_4, fd_196_5, sf_196_5, fd_196_6, fd_196_7, fd_196_8, fd_196_9, fd_196_10, fd_196_11, fd_196_12, sf_196_12, fd_196_13, sf_196_13, fd_196_14, sf_196_14, fd_196_15, sf_196_15, fd_196_16, sf_196_16, fd_196_17, sf_196_17, fd_196_18, sf_196_18, fd_196_19, sf_196_19, fd_196_20, sf_196_20, fd_196_21, sf_196_21, fd_196_22, sf_196_22, fd_196_23, sf_196_23, fd_196_24, sf_196_24, fd_196_25, sf_196_25, fd_196_26, sf_196_26, fd_196_27, fd_196_28, fd_196_29, fd_196_30, sf_196_30, fd_196_31, fd_196_32, fd_196_33, fd_196_34, fd_196_35, fd_196_36, fd_196_37, sf_196_37, fd_196_38, fd_196_39, sf_196_39, fd_196_40, sf_196_40, fd_196_41, sf_196_41, fd_196_42, fd_196_43, fd_196_44, h18, nI_add, pu_g]
      exact ih (x + 1) _ (by omega) hb (FR_p rfl f1 f1) (by rw [upw_s, pu_s])
theorem nx_dg {g0 : Nat → Nat → Int32} (hM : TT T n k g0) {b e : Nat} (hb20 : g0 196 20 = nI b) (hdg : ∀ i, b ≤ i → i < e → dgt (T i) = true) {v : Int32} (H : ∀ g', FR [] [18, 21] g0 g' → g' 196 18 = nI e → g' 196 21 = nI (nmF T b (e - b)) → wp (ev (d + 9)) P mo_next0 189 [some (.ref 196), some (.int v), none] [] (E g' q)) : ∀ (j x : Nat) (g1 : Nat → Nat → Int32), x + j = n → b ≤ x → x ≤ e → scn (fun i => dgt (T i)) n x = e → FR [] [18, 21] g0 g1 → g1 196 18 = nI x → g1 196 21 = nI (nmF T b (x - b)) →
    wp (ev (d + 9)) P mo_next0 126 [some (.ref 196), some (.int v), none] [] (E g1 q) := by
  intro j
  induction j with
  | zero =>
    intro x g1 hx hbx hxe hb f1 h18 h21
    have hx : x = n := hx
    subst hx
    rw [scn_e (Nat.le_refl x)] at hb
    subst hb
    rw [b_mo_next0_126]
    simp -implicitDefEqProofs (disch := first | assumption | omega) only [szS_0, szS_i, szS_r, szS_l, x_cons, x_goto, ob_some, kl_i, kl_r, kl_l, kl_n, push_n, push_s, pop_0, pop_i, pop_r, Int.reduceToNat, List.length_cons, List.length_nil, Nat.reduceAdd, Nat.reduceLeDiff, Nat.zero_add, true_and, nI_n0, nat_le, Nat.add_zero, rt_mo_next0, x_al0, x_call, x_dupi, x_dupr, x_getf, x_goto, x_iadd, x_iceq, x_icge, x_icne, x_ifeq, x_il1, x_il2, x_imul, x_is1, x_is2, x_isub, x_ldc, x_m1, x_putf, x_vret, fd_196_0, fd_196_1, fd_196_2, fd_196_3, fd_196_4, sf_196_4, fd_196_5, sf_196_5, fd_196_6, fd_196_7, fd_196_8, fd_196_9, fd_196_10, fd_196_11, fd_196_12, sf_196_12, fd_196_13, sf_196_13, fd_196_14, sf_196_14, fd_196_15, sf_196_15, fd_196_16, sf_196_16, fd_196_17, sf_196_17, fd_196_18, sf_196_18, fd_196_19, sf_196_19, fd_196_20, sf_196_20, fd_196_21, sf_196_21, fd_196_22, sf_196_22, fd_196_23, sf_196_23, fd_196_24, sf_196_24, fd_196_25, sf_196_25, fd_196_26, sf_196_26, fd_196_27, fd_196_28, fd_196_29, fd_196_30, sf_196_30, fd_196_31, fd_196_32, fd_196_33, fd_196_34, fd_196_35, fd_196_36, fd_196_37, sf_196_37, fd_196_38, fd_196_39, sf_196_39, fd_196_40, sf_196_40, fd_196_41, sf_196_41, fd_196_42, fd_196_43, fd_196_44, h18, s_see (TT_F hM f1 rfl rfl) (Nat.le_refl x), seV_0, s_mdigit, dgt_m, bI_0, ↓reduceIte]
    exact H g1 f1 h18 h21
  | succ j ih =>
    intro x g1 hx hbx hxe hb f1 h18 h21
    have hx' : x < n := by omega
    have hn := hM.2.1
    have hT := (hM.2.2.1 x hx').2
    have h20 : g1 196 20 = nI b := by rw [f1.2 20 (by decide)]; exact hb20
    rw [b_mo_next0_126]
    simp -implicitDefEqProofs (disch := first | assumption | omega) only [szS_0, szS_i, szS_r, szS_l, x_cons, x_goto, ob_some, kl_i, kl_r, kl_l, kl_n, push_n, push_s, pop_0, pop_i, pop_r, Int.reduceToNat, List.length_cons, List.length_nil, Nat.reduceAdd, Nat.reduceLeDiff, Nat.zero_add, true_and, nI_n0, nat_le, Nat.add_zero, rt_mo_next0, x_al0, x_call, x_dupi, x_dupr, x_getf, x_goto, x_iadd, x_iceq, x_icge, x_icne, x_ifeq, x_il1, x_il2, x_imul, x_is1, x_is2, x_isub, x_ldc, x_m1, x_putf, x_vret, fd_196_0, fd_196_1, fd_196_2, fd_196_3, fd_196_4, sf_196_4, fd_196_5, sf_196_5, fd_196_6, fd_196_7, fd_196_8, fd_196_9, fd_196_10, fd_196_11, fd_196_12, sf_196_12, fd_196_13, sf_196_13, fd_196_14, sf_196_14, fd_196_15, sf_196_15, fd_196_16, sf_196_16, fd_196_17, sf_196_17, fd_196_18, sf_196_18, fd_196_19, sf_196_19, fd_196_20, sf_196_20, fd_196_21, sf_196_21, fd_196_22, sf_196_22, fd_196_23, sf_196_23, fd_196_24, sf_196_24, fd_196_25, sf_196_25, fd_196_26, sf_196_26, fd_196_27, fd_196_28, fd_196_29, fd_196_30, sf_196_30, fd_196_31, fd_196_32, fd_196_33, fd_196_34, fd_196_35, fd_196_36, fd_196_37, sf_196_37, fd_196_38, fd_196_39, sf_196_39, fd_196_40, sf_196_40, fd_196_41, sf_196_41, fd_196_42, fd_196_43, fd_196_44, h18, s_see (TT_F hM f1 rfl rfl) (Nat.le_of_lt hx'), seV_1 hx', s_mdigit, dgt_v hT, bI_0]
    cases hl : dgt (T x)
    · rw [scn_n hx' hl] at hb
      subst hb
      simp -implicitDefEqProofs (disch := first | assumption | omega) only [↓reduceIte]
      exact H g1 f1 h18 h21
    · rw [scn_s hx' hl] at hb
      have hxe2 : x + 1 ≤ e := by rw [← hb]; exact scn_i.1
      have hd : 48 ≤ T x ∧ T x ≤ 57 := of_decide_eq_true hl
      have hnm := (nmF_l (T := T) (b := b) (x - b) fun i hi => hdg _ (by omega) (by omega)).2
      have ebx : b + (x - b) = x := by omega
      have en : nmF T b (x + 1 - b) = if x - b < 4 then nmF T b (x - b) * 10 + T x - 48 else nmF T b (x - b) := by
        rw [show x + 1 - b = x - b + 1 by omega]
        show (if x - b < 4 then nmF T b (x - b) * 10 + T (b + (x - b)) - 48 else nmF T b (x - b)) = _
        rw [ebx]
      have go : ∀ g2, FR [] [18, 21] g0 g2 → g2 196 18 = nI x → g2 196 21 = nI (nmF T b (x + 1 - b)) → wp (ev (d + 9)) P mo_next0 176 [some (.ref 196), some (.int v), none] [] (E g2 q) := by
        intro g2 f2 k18 k21
        rw [b_mo_next0_176]
        simp -implicitDefEqProofs (disch := first | assumption | omega) only [szS_0, szS_i, szS_r, szS_l, x_cons, x_goto, ob_some, kl_i, kl_r, kl_l, kl_n, push_n, push_s, pop_0, pop_i, pop_r, Int.reduceToNat, List.length_cons, List.length_nil, Nat.reduceAdd, Nat.reduceLeDiff, Nat.zero_add, true_and, nI_n0, nat_le, Nat.add_zero, rt_mo_next0, x_al0, x_call, x_dupi, x_dupr, x_getf, x_goto, x_iadd, x_iceq, x_icge, x_icne, x_ifeq, x_il1, x_il2, x_imul, x_is1, x_is2, x_isub, x_ldc, x_m1, x_putf, x_vret, fd_196_0, fd_196_1, fd_196_2, fd_196_3, fd_196_4, sf_196_4, fd_196_5, sf_196_5, fd_196_6, fd_196_7, fd_196_8, fd_196_9, fd_196_10, fd_196_11, fd_196_12, sf_196_12, fd_196_13, sf_196_13, fd_196_14, sf_196_14, fd_196_15, sf_196_15, fd_196_16, sf_196_16, fd_196_17, sf_196_17, fd_196_18, sf_196_18, fd_196_19, sf_196_19, fd_196_20, sf_196_20, fd_196_21, sf_196_21, fd_196_22, sf_196_22, fd_196_23, sf_196_23, fd_196_24, sf_196_24, fd_196_25, sf_196_25, fd_196_26, sf_196_26, fd_196_27, fd_196_28, fd_196_29, fd_196_30, sf_196_30, fd_196_31, fd_196_32, fd_196_33, fd_196_34, fd_196_35, fd_196_36, fd_196_37, sf_196_37, fd_196_38, fd_196_39, sf_196_39, fd_196_40, sf_196_40, fd_196_41, sf_196_41, fd_196_42, fd_196_43, fd_196_44, k18, nI_add, pu_g]
        exact ih (x + 1) _ (by omega) (by omega) hxe2 hb (FR_p rfl f2 f2) (by rw [upw_s, pu_s]) (by rw [upw_s, pu_n (by decide)]; exact k21)
      simp -implicitDefEqProofs (disch := first | assumption | omega) only [Bool.true_eq_false, ↓reduceIte, szS_0, szS_i, szS_r, szS_l, x_cons, x_goto, ob_some, kl_i, kl_r, kl_l, kl_n, push_n, push_s, pop_0, pop_i, pop_r, Int.reduceToNat, List.length_cons, List.length_nil, Nat.reduceAdd, Nat.reduceLeDiff, Nat.zero_add, true_and, nI_n0, nat_le, Nat.add_zero, rt_mo_next0, x_al0, x_call, x_dupi, x_dupr, x_getf, x_goto, x_iadd, x_iceq, x_icge, x_icne, x_ifeq, x_il1, x_il2, x_imul, x_is1, x_is2, x_isub, x_ldc, x_m1, x_putf, x_vret, fd_196_0, fd_196_1, fd_196_2, fd_196_3, fd_196_4, sf_196_4, fd_196_5, sf_196_5, fd_196_6, fd_196_7, fd_196_8, fd_196_9, fd_196_10, fd_196_11, fd_196_12, sf_196_12, fd_196_13, sf_196_13, fd_196_14, sf_196_14, fd_196_15, sf_196_15, fd_196_16, sf_196_16, fd_196_17, sf_196_17, fd_196_18, sf_196_18, fd_196_19, sf_196_19, fd_196_20, sf_196_20, fd_196_21, sf_196_21, fd_196_22, sf_196_22, fd_196_23, sf_196_23, fd_196_24, sf_196_24, fd_196_25, sf_196_25, fd_196_26, sf_196_26, fd_196_27, fd_196_28, fd_196_29, fd_196_30, sf_196_30, fd_196_31, fd_196_32, fd_196_33, fd_196_34, fd_196_35, fd_196_36, fd_196_37, sf_196_37, fd_196_38, fd_196_39, sf_196_39, fd_196_40, sf_196_40, fd_196_41, sf_196_41, fd_196_42, fd_196_43, fd_196_44, h18, h20, nI_add, nI_ltE]
      by_cases h4 : x < b + 4
      · rw [if_pos (by omega : x - b < 4)] at en
        rw [if_pos h4]
        try simp -implicitDefEqProofs (disch := first | assumption | omega) only [szS_0, szS_i, szS_r, szS_l, x_cons, x_goto, ob_some, kl_i, kl_r, kl_l, kl_n, push_n, push_s, pop_0, pop_i, pop_r, Int.reduceToNat, List.length_cons, List.length_nil, Nat.reduceAdd, Nat.reduceLeDiff, Nat.zero_add, true_and, nI_n0, nat_le, Nat.add_zero, rt_mo_next0, x_al0, x_call, x_dupi, x_dupr, x_getf, x_goto, x_iadd, x_iceq, x_icge, x_icne, x_ifeq, x_il1, x_il2, x_imul, x_is1, x_is2, x_isub, x_ldc, x_m1, x_putf, x_vret, fd_196_0, fd_196_1, fd_196_2, fd_196_3, fd_196_4, sf_196_4, fd_196_5, sf_196_5, fd_196_6, fd_196_7, fd_196_8, fd_196_9, fd_196_10, fd_196_11, fd_196_12, sf_196_12, fd_196_13, sf_196_13, fd_196_14, sf_196_14, fd_196_15, sf_196_15, fd_196_16, sf_196_16, fd_196_17, sf_196_17, fd_196_18, sf_196_18, fd_196_19, sf_196_19, fd_196_20, sf_196_20, fd_196_21, sf_196_21, fd_196_22, sf_196_22, fd_196_23, sf_196_23, fd_196_24, sf_196_24, fd_196_25, sf_196_25, fd_196_26, sf_196_26, fd_196_27, fd_196_28, fd_196_29, fd_196_30, sf_196_30, fd_196_31, fd_196_32, fd_196_33, fd_196_34, fd_196_35, fd_196_36, fd_196_37, sf_196_37, fd_196_38, fd_196_39, sf_196_39, fd_196_40, sf_196_40, fd_196_41, sf_196_41, fd_196_42, fd_196_43, fd_196_44, h18, h21, nI_mul, s_see (TT_F hM f1 rfl rfl) (Nat.le_of_lt hx'), seV_1 hx', nI_add, nI_sub, pu_g]
        refine go _ (FR_p rfl f1 f1) (by rw [upw_s, pu_n (by decide)]; exact h18) ?_
        rw [upw_s, pu_s, en, Nat.mul_comm]
      · rw [if_neg (by omega : ¬ x - b < 4)] at en
        rw [if_neg h4]
        try simp -implicitDefEqProofs (disch := first | assumption | omega) only [szS_0, szS_i, szS_r, szS_l, x_cons, x_goto, ob_some, kl_i, kl_r, kl_l, kl_n, push_n, push_s, pop_0, pop_i, pop_r, Int.reduceToNat, List.length_cons, List.length_nil, Nat.reduceAdd, Nat.reduceLeDiff, Nat.zero_add, true_and, nI_n0, nat_le, Nat.add_zero, rt_mo_next0, x_al0, x_call, x_dupi, x_dupr, x_getf, x_goto, x_iadd, x_iceq, x_icge, x_icne, x_ifeq, x_il1, x_il2, x_imul, x_is1, x_is2, x_isub, x_ldc, x_m1, x_putf, x_vret]
        exact go g1 f1 h18 (by rw [en]; exact h21)
theorem s_next0 (hM : TT T n k g) {x : Nat} (hx : x ≤ n) (h18 : g 196 18 = nI x) (H : ∀ g', FR [] [18, 19, 20, 21] g g' → g' 196 18 = nI (tE T n x) → g' 196 19 = nI (tC T n k x) → g' 196 20 = nI (tB T n x) → (tC T n k x = 2 → g' 196 21 = nI (tN T n x)) → P none (E g' q)) : callC (ev (d + 10)) mo_next0 [.ref 196] (E g q) P := by
  refine in_mo_next0 rfl ?_
  have hn := hM.2.1
  have hk := hM.2.2.2.2
  have hbl := (tB_i (T := T) (n := n) (x := x)).2 hx
  have last : ∀ g', FR [] [18, 19, 20, 21] g g' → g' 196 18 = nI (tE T n x) → g' 196 19 = nI (tC T n k x) → g' 196 20 = nI (tB T n x) → (tC T n k x = 2 → g' 196 21 = nI (tN T n x)) → ∀ o1 o2, wp (ev (d + 9)) P mo_next0 306 [some (.ref 196), o1, o2] [] (E g' q) := fun g' a1 a2 a3 a4 a5 o1 o2 => by
    rw [b_mo_next0_306]
    simp -implicitDefEqProofs (disch := first | assumption | omega) only [szS_0, szS_i, szS_r, szS_l, x_cons, x_goto, ob_some, kl_i, kl_r, kl_l, kl_n, push_n, push_s, pop_0, pop_i, pop_r, Int.reduceToNat, List.length_cons, List.length_nil, Nat.reduceAdd, Nat.reduceLeDiff, Nat.zero_add, true_and, nI_n0, nat_le, Nat.add_zero, rt_mo_next0, x_al0, x_call, x_dupi, x_dupr, x_getf, x_goto, x_iadd, x_iceq, x_icge, x_icne, x_ifeq, x_il1, x_il2, x_imul, x_is1, x_is2, x_isub, x_ldc, x_m1, x_putf, x_vret]
    exact H g' a1 a2 a3 a4 a5
  refine nx_ws (b := tB T n x) hM (fun g1 f1 k18 => ?_) (n - x) x g (by omega) rfl FR_r h18
  have M1 := TT_F hM f1 rfl rfl
  have fr1 : FR [] [18, 19, 20, 21] g g1 := FR_m rfl rfl f1
  have fr2 : FR [] [18, 19, 20, 21] g (upw g1 196 (pu (g1 196) 20 (nI (tB T n x)))) := FR_p rfl fr1 fr1
  obtain ⟨G, hG⟩ : ∃ G, G = upw g1 196 (pu (g1 196) 20 (nI (tB T n x))) := ⟨_, rfl⟩
  have M2 : TT T n k G := by rw [hG]; exact TT_f M1 (upw_o (by decide)) (by rw [upw_s, pu_n (by decide)]) (by rw [upw_s, pu_n (by decide)])
  have g18 : G 196 18 = nI (tB T n x) := by rw [hG, upw_s, pu_n (by decide)]; exact k18
  have g20 : G 196 20 = nI (tB T n x) := by rw [hG, upw_s, pu_s]
  rw [← hG] at fr2
  rw [b_mo_next0_39]
  simp -implicitDefEqProofs (disch := first | assumption | omega) only [szS_0, szS_i, szS_r, szS_l, x_cons, x_goto, ob_some, kl_i, kl_r, kl_l, kl_n, push_n, push_s, pop_0, pop_i, pop_r, Int.reduceToNat, List.length_cons, List.length_nil, Nat.reduceAdd, Nat.reduceLeDiff, Nat.zero_add, true_and, nI_n0, nat_le, Nat.add_zero, rt_mo_next0, x_al0, x_call, x_dupi, x_dupr, x_getf, x_goto, x_iadd, x_iceq, x_icge, x_icne, x_ifeq, x_il1, x_il2, x_imul, x_is1, x_is2, x_isub, x_ldc, x_m1, x_putf, x_vret, fd_196_0, fd_196_1, fd_196_2, fd_196_3, fd_196_4, sf_196_4, fd_196_5, sf_196_5, fd_196_6, fd_196_7, fd_196_8, fd_196_9, fd_196_10, fd_196_11, fd_196_12, sf_196_12, fd_196_13, sf_196_13, fd_196_14, sf_196_14, fd_196_15, sf_196_15, fd_196_16, sf_196_16, fd_196_17, sf_196_17, fd_196_18, sf_196_18, fd_196_19, sf_196_19, fd_196_20, sf_196_20, fd_196_21, sf_196_21, fd_196_22, sf_196_22, fd_196_23, sf_196_23, fd_196_24, sf_196_24, fd_196_25, sf_196_25, fd_196_26, sf_196_26, fd_196_27, fd_196_28, fd_196_29, fd_196_30, sf_196_30, fd_196_31, fd_196_32, fd_196_33, fd_196_34, fd_196_35, fd_196_36, fd_196_37, sf_196_37, fd_196_38, fd_196_39, sf_196_39, fd_196_40, sf_196_40, fd_196_41, sf_196_41, fd_196_42, fd_196_43, fd_196_44, k18, pu_g, upw_s, pu_n]
  rw [← hG]
  rw [s_see M2 hbl]
  by_cases hend : n ≤ tB T n x
  · have eb : tB T n x = n := by omega
    have eE : tE T n x = tB T n x := if_pos hend
    have eC : tC T n k x = 0 := if_pos hend
    rw [eE, eC] at last
    rw [eb]
    simp -implicitDefEqProofs (disch := first | assumption | omega) only [szS_0, szS_i, szS_r, szS_l, x_cons, x_goto, ob_some, kl_i, kl_r, kl_l, kl_n, push_n, push_s, pop_0, pop_i, pop_r, Int.reduceToNat, List.length_cons, List.length_nil, Nat.reduceAdd, Nat.reduceLeDiff, Nat.zero_add, true_and, nI_n0, nat_le, Nat.add_zero, rt_mo_next0, x_al0, x_call, x_dupi, x_dupr, x_getf, x_goto, x_iadd, x_iceq, x_icge, x_icne, x_ifeq, x_il1, x_il2, x_imul, x_is1, x_is2, x_isub, x_ldc, x_m1, x_putf, x_vret, seV_0, ↓reduceIte, fd_196_0, fd_196_1, fd_196_2, fd_196_3, fd_196_4, sf_196_4, fd_196_5, sf_196_5, fd_196_6, fd_196_7, fd_196_8, fd_196_9, fd_196_10, fd_196_11, fd_196_12, sf_196_12, fd_196_13, sf_196_13, fd_196_14, sf_196_14, fd_196_15, sf_196_15, fd_196_16, sf_196_16, fd_196_17, sf_196_17, fd_196_18, sf_196_18, fd_196_19, sf_196_19, fd_196_20, sf_196_20, fd_196_21, sf_196_21, fd_196_22, sf_196_22, fd_196_23, sf_196_23, fd_196_24, sf_196_24, fd_196_25, sf_196_25, fd_196_26, sf_196_26, fd_196_27, fd_196_28, fd_196_29, fd_196_30, sf_196_30, fd_196_31, fd_196_32, fd_196_33, fd_196_34, fd_196_35, fd_196_36, fd_196_37, sf_196_37, fd_196_38, fd_196_39, sf_196_39, fd_196_40, sf_196_40, fd_196_41, sf_196_41, fd_196_42, fd_196_43, fd_196_44, pu_g]
    rw [eb] at last g18 g20
    exact last _ (FR_p rfl fr2 fr2) (by rw [upw_s, pu_n (by decide)]; exact g18) (by rw [upw_s, pu_s]) (by rw [upw_s, pu_n (by decide)]; exact g20) (fun h => by cases h) _ _
  · have hlt : tB T n x < n := by omega
    have hT := (hM.2.2.1 _ hlt).2
    have n1 : (nI (T (tB T n x)) = -1) = False := nI_m1 (by omega)
    simp -implicitDefEqProofs (disch := first | assumption | omega) only [szS_0, szS_i, szS_r, szS_l, x_cons, x_goto, ob_some, kl_i, kl_r, kl_l, kl_n, push_n, push_s, pop_0, pop_i, pop_r, Int.reduceToNat, List.length_cons, List.length_nil, Nat.reduceAdd, Nat.reduceLeDiff, Nat.zero_add, true_and, nI_n0, nat_le, Nat.add_zero, rt_mo_next0, x_al0, x_call, x_dupi, x_dupr, x_getf, x_goto, x_iadd, x_iceq, x_icge, x_icne, x_ifeq, x_il1, x_il2, x_imul, x_is1, x_is2, x_isub, x_ldc, x_m1, x_putf, x_vret, seV_1 hlt, n1, ↓reduceIte, b_mo_next0_69, s_mletter, ltr_v hT, bI_0]
    cases hl : ltr (T (tB T n x))
    · simp -implicitDefEqProofs (disch := first | assumption | omega) only [↓reduceIte, b_mo_next0_114, szS_0, szS_i, szS_r, szS_l, x_cons, x_goto, ob_some, kl_i, kl_r, kl_l, kl_n, push_n, push_s, pop_0, pop_i, pop_r, Int.reduceToNat, List.length_cons, List.length_nil, Nat.reduceAdd, Nat.reduceLeDiff, Nat.zero_add, true_and, nI_n0, nat_le, Nat.add_zero, rt_mo_next0, x_al0, x_call, x_dupi, x_dupr, x_getf, x_goto, x_iadd, x_iceq, x_icge, x_icne, x_ifeq, x_il1, x_il2, x_imul, x_is1, x_is2, x_isub, x_ldc, x_m1, x_putf, x_vret, s_mdigit, dgt_v hT, bI_0]
      cases hd : dgt (T (tB T n x))
      · have eE : tE T n x = tB T n x + 1 := by
          unfold tE
          rw [if_neg hend, hl, if_neg Bool.false_ne_true, hd, if_neg Bool.false_ne_true]
        have eC : tC T n k x = if sgS (T (tB T n x)) = true then 100 + T (tB T n x) else 1 := by
          unfold tC
          rw [if_neg hend, hl, if_neg Bool.false_ne_true, hd, if_neg Bool.false_ne_true]
        rw [eE] at last
        have fin : ∀ c : Nat, (if sgS (T (tB T n x)) = true then 100 + T (tB T n x) else 1) = c → wp (ev (d + 9)) P mo_next0 303 [some (.ref 196), some (.int (nI (T (tB T n x)))), some (.int (bI (sgS (T (tB T n x)))))] [.int (nI c), .ref 196] (E (upw G 196 (pu (G 196) 18 (nI (tB T n x + 1)))) q) := by
          intro c hc
          rw [hc] at eC
          rw [eC] at last
          have hc2 : c ≠ 2 := by
            rw [← hc]
            split <;> omega
          rw [b_mo_next0_303]
          simp -implicitDefEqProofs (disch := first | assumption | omega) only [szS_0, szS_i, szS_r, szS_l, x_cons, x_goto, ob_some, kl_i, kl_r, kl_l, kl_n, push_n, push_s, pop_0, pop_i, pop_r, Int.reduceToNat, List.length_cons, List.length_nil, Nat.reduceAdd, Nat.reduceLeDiff, Nat.zero_add, true_and, nI_n0, nat_le, Nat.add_zero, rt_mo_next0, x_al0, x_call, x_dupi, x_dupr, x_getf, x_goto, x_iadd, x_iceq, x_icge, x_icne, x_ifeq, x_il1, x_il2, x_imul, x_is1, x_is2, x_isub, x_ldc, x_m1, x_putf, x_vret, fd_196_0, fd_196_1, fd_196_2, fd_196_3, fd_196_4, sf_196_4, fd_196_5, sf_196_5, fd_196_6, fd_196_7, fd_196_8, fd_196_9, fd_196_10, fd_196_11, fd_196_12, sf_196_12, fd_196_13, sf_196_13, fd_196_14, sf_196_14, fd_196_15, sf_196_15, fd_196_16, sf_196_16, fd_196_17, sf_196_17, fd_196_18, sf_196_18, fd_196_19, sf_196_19, fd_196_20, sf_196_20, fd_196_21, sf_196_21, fd_196_22, sf_196_22, fd_196_23, sf_196_23, fd_196_24, sf_196_24, fd_196_25, sf_196_25, fd_196_26, sf_196_26, fd_196_27, fd_196_28, fd_196_29, fd_196_30, sf_196_30, fd_196_31, fd_196_32, fd_196_33, fd_196_34, fd_196_35, fd_196_36, fd_196_37, sf_196_37, fd_196_38, fd_196_39, sf_196_39, fd_196_40, sf_196_40, fd_196_41, sf_196_41, fd_196_42, fd_196_43, fd_196_44, pu_g, pu_w, upw_s, upw_w]
          exact last _ (by
            have := FR_p (k := 18) (v := nI (tB T n x + 1)) rfl fr2 fr2
            exact ⟨fun a h1 h2 => by rw [upw_o h1]; exact fr2.1 a h1 h2, fun y hy => by
              rw [upw_s, pu_n (fun e => hy (by rw [e]; decide)), pu_n (fun e => hy (by rw [e]; decide))]
              exact fr2.2 y hy⟩) (by rw [upw_s, pu_n (by decide), pu_s]) (by rw [upw_s, pu_s]) (by rw [upw_s, pu_n (by decide), pu_n (by decide)]; exact g20) (fun h => absurd h hc2) _ _
        have sgn : ∀ B : Bool, sgS (T (tB T n x)) = B → wp (ev (d + 9)) P mo_next0 289 [some (.ref 196), some (.int (nI (T (tB T n x)))), none] [.int (bI B)] (E (upw G 196 (pu (G 196) 18 (nI (tB T n x + 1)))) q) := by
          intro B hB
          rw [hB] at fin
          rw [b_mo_next0_289]
          simp -implicitDefEqProofs (disch := first | assumption | omega) only [szS_0, szS_i, szS_r, szS_l, x_cons, x_goto, ob_some, kl_i, kl_r, kl_l, kl_n, push_n, push_s, pop_0, pop_i, pop_r, Int.reduceToNat, List.length_cons, List.length_nil, Nat.reduceAdd, Nat.reduceLeDiff, Nat.zero_add, true_and, nI_n0, nat_le, Nat.add_zero, rt_mo_next0, x_al0, x_call, x_dupi, x_dupr, x_getf, x_goto, x_iadd, x_iceq, x_icge, x_icne, x_ifeq, x_il1, x_il2, x_imul, x_is1, x_is2, x_isub, x_ldc, x_m1, x_putf, x_vret, bI_0]
          cases B
          · have := fin 1 (if_neg Bool.false_ne_true)
            simp -implicitDefEqProofs (disch := first | assumption | omega) only [↓reduceIte, b_mo_next0_302, szS_0, szS_i, szS_r, szS_l, x_cons, x_goto, ob_some, kl_i, kl_r, kl_l, kl_n, push_n, push_s, pop_0, pop_i, pop_r, Int.reduceToNat, List.length_cons, List.length_nil, Nat.reduceAdd, Nat.reduceLeDiff, Nat.zero_add, true_and, nI_n0, nat_le, Nat.add_zero, rt_mo_next0, x_al0, x_call, x_dupi, x_dupr, x_getf, x_goto, x_iadd, x_iceq, x_icge, x_icne, x_ifeq, x_il1, x_il2, x_imul, x_is1, x_is2, x_isub, x_ldc, x_m1, x_putf, x_vret]
            exact this
          · have := fin (100 + T (tB T n x)) (if_pos rfl)
            simp -implicitDefEqProofs (disch := first | assumption | omega) only [Bool.true_eq_false, ↓reduceIte, szS_0, szS_i, szS_r, szS_l, x_cons, x_goto, ob_some, kl_i, kl_r, kl_l, kl_n, push_n, push_s, pop_0, pop_i, pop_r, Int.reduceToNat, List.length_cons, List.length_nil, Nat.reduceAdd, Nat.reduceLeDiff, Nat.zero_add, true_and, nI_n0, nat_le, Nat.add_zero, rt_mo_next0, x_al0, x_call, x_dupi, x_dupr, x_getf, x_goto, x_iadd, x_iceq, x_icge, x_icne, x_ifeq, x_il1, x_il2, x_imul, x_is1, x_is2, x_isub, x_ldc, x_m1, x_putf, x_vret, nI_add]
            exact this
        simp -implicitDefEqProofs (maxSteps := 3000000) (disch := first | assumption | omega) only [↓reduceIte, b_mo_next0_214, szS_0, szS_i, szS_r, szS_l, x_cons, x_goto, ob_some, kl_i, kl_r, kl_l, kl_n, push_n, push_s, pop_0, pop_i, pop_r, Int.reduceToNat, List.length_cons, List.length_nil, Nat.reduceAdd, Nat.reduceLeDiff, Nat.zero_add, true_and, nI_n0, nat_le, Nat.add_zero, rt_mo_next0, x_al0, x_call, x_dupi, x_dupr, x_getf, x_goto, x_iadd, x_iceq, x_icge, x_icne, x_ifeq, x_il1, x_il2, x_imul, x_is1, x_is2, x_isub, x_ldc, x_m1, x_putf, x_vret, fd_196_0, fd_196_1, fd_196_2, fd_196_3, fd_196_4, sf_196_4, fd_196_5, sf_196_5, fd_196_6, fd_196_7, fd_196_8, fd_196_9, fd_196_10, fd_196_11, fd_196_12, sf_196_12, fd_196_13, sf_196_13, fd_196_14, sf_196_14, fd_196_15, sf_196_15, fd_196_16, sf_196_16, fd_196_17, sf_196_17, fd_196_18, sf_196_18, fd_196_19, sf_196_19, fd_196_20, sf_196_20, fd_196_21, sf_196_21, fd_196_22, sf_196_22, fd_196_23, sf_196_23, fd_196_24, sf_196_24, fd_196_25, sf_196_25, fd_196_26, sf_196_26, fd_196_27, fd_196_28, fd_196_29, fd_196_30, sf_196_30, fd_196_31, fd_196_32, fd_196_33, fd_196_34, fd_196_35, fd_196_36, fd_196_37, sf_196_37, fd_196_38, fd_196_39, sf_196_39, fd_196_40, sf_196_40, fd_196_41, sf_196_41, fd_196_42, fd_196_43, fd_196_44, g18, nI_add, pu_g, nI_eqE]
        have yes : sgS (T (tB T n x)) = true → wp (ev (d + 9)) P mo_next0 284 [some (.ref 196), some (.int (nI (T (tB T n x)))), none] [] (E (upw G 196 (pu (G 196) 18 (nI (tB T n x + 1)))) q) := by
          intro h
          rw [b_mo_next0_284]
          simp -implicitDefEqProofs (disch := first | assumption | omega) only [szS_0, szS_i, szS_r, szS_l, x_cons, x_goto, ob_some, kl_i, kl_r, kl_l, kl_n, push_n, push_s, pop_0, pop_i, pop_r, Int.reduceToNat, List.length_cons, List.length_nil, Nat.reduceAdd, Nat.reduceLeDiff, Nat.zero_add, true_and, nI_n0, nat_le, Nat.add_zero, rt_mo_next0, x_al0, x_call, x_dupi, x_dupr, x_getf, x_goto, x_iadd, x_iceq, x_icge, x_icne, x_ifeq, x_il1, x_il2, x_imul, x_is1, x_is2, x_isub, x_ldc, x_m1, x_putf, x_vret]
          exact sgn true h
        by_cases c1 : T (tB T n x) = 59
        · rw [if_pos c1]
          exact yes (decide_eq_true (by omega))
        rw [if_neg c1]
        by_cases c2 : T (tB T n x) = 43
        · rw [if_pos c2]
          exact yes (decide_eq_true (by omega))
        rw [if_neg c2]
        by_cases c3 : T (tB T n x) = 45
        · rw [if_pos c3]
          exact yes (decide_eq_true (by omega))
        rw [if_neg c3]
        by_cases c4 : T (tB T n x) = 42
        · rw [if_pos c4]
          exact yes (decide_eq_true (by omega))
        rw [if_neg c4]
        by_cases c5 : T (tB T n x) = 47
        · rw [if_pos c5]
          exact yes (decide_eq_true (by omega))
        rw [if_neg c5]
        by_cases c6 : T (tB T n x) = 40
        · rw [if_pos c6]
          exact yes (decide_eq_true (by omega))
        rw [if_neg c6]
        by_cases c7 : T (tB T n x) = 41
        · rw [if_pos c7]
          exact yes (decide_eq_true (by omega))
        rw [if_neg c7]
        by_cases c8 : T (tB T n x) = 60
        · rw [if_pos c8]
          exact yes (decide_eq_true (by omega))
        rw [if_neg c8]
        by_cases c9 : T (tB T n x) = 61
        · rw [if_pos c9]
          exact yes (decide_eq_true (by omega))
        rw [if_neg c9]
        by_cases c10 : T (tB T n x) = 62
        · rw [if_pos c10]
          exact yes (decide_eq_true (by omega))
        rw [if_neg c10]
        try simp -implicitDefEqProofs (disch := first | assumption | omega) only [b_mo_next0_288, szS_0, szS_i, szS_r, szS_l, x_cons, x_goto, ob_some, kl_i, kl_r, kl_l, kl_n, push_n, push_s, pop_0, pop_i, pop_r, Int.reduceToNat, List.length_cons, List.length_nil, Nat.reduceAdd, Nat.reduceLeDiff, Nat.zero_add, true_and, nI_n0, nat_le, Nat.add_zero, rt_mo_next0, x_al0, x_call, x_dupi, x_dupr, x_getf, x_goto, x_iadd, x_iceq, x_icge, x_icne, x_ifeq, x_il1, x_il2, x_imul, x_is1, x_is2, x_isub, x_ldc, x_m1, x_putf, x_vret]
        exact sgn false (decide_eq_false (by omega))
      · have eE : tE T n x = scn (fun i => dgt (T i)) n (tB T n x) := by
          unfold tE
          rw [if_neg hend, hl, if_neg Bool.false_ne_true, hd, if_pos rfl]
        have eC : tC T n k x = if scn (fun i => dgt (T i)) n (tB T n x) - tB T n x ≤ 4 then 2 else 1 := by
          unfold tC
          rw [if_neg hend, hl, if_neg Bool.false_ne_true, hd, if_pos rfl]
        have eN : tN T n x = nmF T (tB T n x) (scn (fun i => dgt (T i)) n (tB T n x) - tB T n x) := rfl
        obtain ⟨i1, i2, i3⟩ := scn_i (p := fun i => dgt (T i)) (n := n) (x := tB T n x)
        have i2 := i2 hbl
        rw [eE, eC, eN] at last
        simp -implicitDefEqProofs (disch := first | assumption | omega) only [Bool.true_eq_false, ↓reduceIte, szS_0, szS_i, szS_r, szS_l, x_cons, x_goto, ob_some, kl_i, kl_r, kl_l, kl_n, push_n, push_s, pop_0, pop_i, pop_r, Int.reduceToNat, List.length_cons, List.length_nil, Nat.reduceAdd, Nat.reduceLeDiff, Nat.zero_add, true_and, nI_n0, nat_le, Nat.add_zero, rt_mo_next0, x_al0, x_call, x_dupi, x_dupr, x_getf, x_goto, x_iadd, x_iceq, x_icge, x_icne, x_ifeq, x_il1, x_il2, x_imul, x_is1, x_is2, x_isub, x_ldc, x_m1, x_putf, x_vret, fd_196_0, fd_196_1, fd_196_2, fd_196_3, fd_196_4, sf_196_4, fd_196_5, sf_196_5, fd_196_6, fd_196_7, fd_196_8, fd_196_9, fd_196_10, fd_196_11, fd_196_12, sf_196_12, fd_196_13, sf_196_13, fd_196_14, sf_196_14, fd_196_15, sf_196_15, fd_196_16, sf_196_16, fd_196_17, sf_196_17, fd_196_18, sf_196_18, fd_196_19, sf_196_19, fd_196_20, sf_196_20, fd_196_21, sf_196_21, fd_196_22, sf_196_22, fd_196_23, sf_196_23, fd_196_24, sf_196_24, fd_196_25, sf_196_25, fd_196_26, sf_196_26, fd_196_27, fd_196_28, fd_196_29, fd_196_30, sf_196_30, fd_196_31, fd_196_32, fd_196_33, fd_196_34, fd_196_35, fd_196_36, fd_196_37, sf_196_37, fd_196_38, fd_196_39, sf_196_39, fd_196_40, sf_196_40, fd_196_41, sf_196_41, fd_196_42, fd_196_43, fd_196_44, pu_g]
        refine nx_dg (g0 := upw G 196 (pu (G 196) 21 (nI 0))) (b := tB T n x) (TT_f M2 (upw_o (by decide)) (by rw [upw_s, pu_n (by decide)]) (by rw [upw_s, pu_n (by decide)])) (by rw [upw_s, pu_n (by decide)]; exact g20) i3 (fun g3 f3 d18 d21 => ?_) (n - tB T n x) (tB T n x) _ (by omega) (Nat.le_refl _) i1 rfl FR_r (by rw [upw_s, pu_n (by decide)]; exact g18) (by rw [upw_s, pu_s, Nat.sub_self]; rfl)
        have fr3 : FR [] [18, 19, 20, 21] g g3 := FR_t (FR_p rfl fr2 fr2) (FR_m rfl rfl f3)
        have d20 : g3 196 20 = nI (tB T n x) := by rw [f3.2 20 (by decide), upw_s, pu_n (by decide)]; exact g20
        have fin : ∀ c : Nat, (if scn (fun i => dgt (T i)) n (tB T n x) - tB T n x ≤ 4 then 2 else 1) = c → wp (ev (d + 9)) P mo_next0 208 [some (.ref 196), some (.int (nI (T (tB T n x)))), none] [.int (nI c), .ref 196] (E g3 q) := by
          intro c hc
          rw [hc] at last
          rw [b_mo_next0_208]
          simp -implicitDefEqProofs (disch := first | assumption | omega) only [szS_0, szS_i, szS_r, szS_l, x_cons, x_goto, ob_some, kl_i, kl_r, kl_l, kl_n, push_n, push_s, pop_0, pop_i, pop_r, Int.reduceToNat, List.length_cons, List.length_nil, Nat.reduceAdd, Nat.reduceLeDiff, Nat.zero_add, true_and, nI_n0, nat_le, Nat.add_zero, rt_mo_next0, x_al0, x_call, x_dupi, x_dupr, x_getf, x_goto, x_iadd, x_iceq, x_icge, x_icne, x_ifeq, x_il1, x_il2, x_imul, x_is1, x_is2, x_isub, x_ldc, x_m1, x_putf, x_vret, fd_196_0, fd_196_1, fd_196_2, fd_196_3, fd_196_4, sf_196_4, fd_196_5, sf_196_5, fd_196_6, fd_196_7, fd_196_8, fd_196_9, fd_196_10, fd_196_11, fd_196_12, sf_196_12, fd_196_13, sf_196_13, fd_196_14, sf_196_14, fd_196_15, sf_196_15, fd_196_16, sf_196_16, fd_196_17, sf_196_17, fd_196_18, sf_196_18, fd_196_19, sf_196_19, fd_196_20, sf_196_20, fd_196_21, sf_196_21, fd_196_22, sf_196_22, fd_196_23, sf_196_23, fd_196_24, sf_196_24, fd_196_25, sf_196_25, fd_196_26, sf_196_26, fd_196_27, fd_196_28, fd_196_29, fd_196_30, sf_196_30, fd_196_31, fd_196_32, fd_196_33, fd_196_34, fd_196_35, fd_196_36, fd_196_37, sf_196_37, fd_196_38, fd_196_39, sf_196_39, fd_196_40, sf_196_40, fd_196_41, sf_196_41, fd_196_42, fd_196_43, fd_196_44, pu_g]
          exact last _ (FR_p rfl fr3 fr3) (by rw [upw_s, pu_n (by decide)]; exact d18) (by rw [upw_s, pu_s]) (by rw [upw_s, pu_n (by decide)]; exact d20) (fun _ => by rw [upw_s, pu_n (by decide)]; exact d21) _ _
        rw [b_mo_next0_189]
        simp -implicitDefEqProofs (disch := first | assumption | omega) only [szS_0, szS_i, szS_r, szS_l, x_cons, x_goto, ob_some, kl_i, kl_r, kl_l, kl_n, push_n, push_s, pop_0, pop_i, pop_r, Int.reduceToNat, List.length_cons, List.length_nil, Nat.reduceAdd, Nat.reduceLeDiff, Nat.zero_add, true_and, nI_n0, nat_le, Nat.add_zero, rt_mo_next0, x_al0, x_call, x_dupi, x_dupr, x_getf, x_goto, x_iadd, x_iceq, x_icge, x_icne, x_ifeq, x_il1, x_il2, x_imul, x_is1, x_is2, x_isub, x_ldc, x_m1, x_putf, x_vret, fd_196_0, fd_196_1, fd_196_2, fd_196_3, fd_196_4, sf_196_4, fd_196_5, sf_196_5, fd_196_6, fd_196_7, fd_196_8, fd_196_9, fd_196_10, fd_196_11, fd_196_12, sf_196_12, fd_196_13, sf_196_13, fd_196_14, sf_196_14, fd_196_15, sf_196_15, fd_196_16, sf_196_16, fd_196_17, sf_196_17, fd_196_18, sf_196_18, fd_196_19, sf_196_19, fd_196_20, sf_196_20, fd_196_21, sf_196_21, fd_196_22, sf_196_22, fd_196_23, sf_196_23, fd_196_24, sf_196_24, fd_196_25, sf_196_25, fd_196_26, sf_196_26, fd_196_27, fd_196_28, fd_196_29, fd_196_30, sf_196_30, fd_196_31, fd_196_32, fd_196_33, fd_196_34, fd_196_35, fd_196_36, fd_196_37, sf_196_37, fd_196_38, fd_196_39, sf_196_39, fd_196_40, sf_196_40, fd_196_41, sf_196_41, fd_196_42, fd_196_43, fd_196_44, d18, d20, nI_sub, i1, nI_ltE]
        by_cases h5 : scn (fun i => dgt (T i)) n (tB T n x) - tB T n x < 5
        · rw [if_pos h5]
          try simp -implicitDefEqProofs (disch := first | assumption | omega) only [szS_0, szS_i, szS_r, szS_l, x_cons, x_goto, ob_some, kl_i, kl_r, kl_l, kl_n, push_n, push_s, pop_0, pop_i, pop_r, Int.reduceToNat, List.length_cons, List.length_nil, Nat.reduceAdd, Nat.reduceLeDiff, Nat.zero_add, true_and, nI_n0, nat_le, Nat.add_zero, rt_mo_next0, x_al0, x_call, x_dupi, x_dupr, x_getf, x_goto, x_iadd, x_iceq, x_icge, x_icne, x_ifeq, x_il1, x_il2, x_imul, x_is1, x_is2, x_isub, x_ldc, x_m1, x_putf, x_vret]
          exact fin 2 (if_pos (by omega))
        · rw [if_neg h5]
          try simp -implicitDefEqProofs (disch := first | assumption | omega) only [b_mo_next0_207, szS_0, szS_i, szS_r, szS_l, x_cons, x_goto, ob_some, kl_i, kl_r, kl_l, kl_n, push_n, push_s, pop_0, pop_i, pop_r, Int.reduceToNat, List.length_cons, List.length_nil, Nat.reduceAdd, Nat.reduceLeDiff, Nat.zero_add, true_and, nI_n0, nat_le, Nat.add_zero, rt_mo_next0, x_al0, x_call, x_dupi, x_dupr, x_getf, x_goto, x_iadd, x_iceq, x_icge, x_icne, x_ifeq, x_il1, x_il2, x_imul, x_is1, x_is2, x_isub, x_ldc, x_m1, x_putf, x_vret]
          exact fin 1 (if_neg (by omega))
    · have eE : tE T n x = scn (fun i => ltr (T i)) n (tB T n x) := by
        unfold tE
        rw [if_neg hend, hl, if_pos rfl]
      have eC : tC T n k x = wcd T k (tB T n x) (scn (fun i => ltr (T i)) n (tB T n x)) := by
        unfold tC
        rw [if_neg hend, hl, if_pos rfl]
      obtain ⟨i1, i2, i3⟩ := scn_i (p := fun i => ltr (T i)) (n := n) (x := tB T n x)
      have i2 := i2 hbl
      rw [eE, eC] at last
      have hc2 : wcd T k (tB T n x) (scn (fun i => ltr (T i)) n (tB T n x)) ≠ 2 := by
        rcases wcd_i (T := T) (b := tB T n x) (e := scn (fun i => ltr (T i)) n (tB T n x)) hk with e | ⟨m, hm, e, -⟩
        · rw [e]
          decide
        · have := (WT_ok hk hm).2.1
          omega
      simp -implicitDefEqProofs (disch := first | assumption | omega) only [Bool.true_eq_false, ↓reduceIte, szS_0, szS_i, szS_r, szS_l, x_cons, x_goto, ob_some, kl_i, kl_r, kl_l, kl_n, push_n, push_s, pop_0, pop_i, pop_r, Int.reduceToNat, List.length_cons, List.length_nil, Nat.reduceAdd, Nat.reduceLeDiff, Nat.zero_add, true_and, nI_n0, nat_le, Nat.add_zero, rt_mo_next0, x_al0, x_call, x_dupi, x_dupr, x_getf, x_goto, x_iadd, x_iceq, x_icge, x_icne, x_ifeq, x_il1, x_il2, x_imul, x_is1, x_is2, x_isub, x_ldc, x_m1, x_putf, x_vret]
      refine nx_lt (g0 := G) M2 (fun g3 f3 d18 => ?_) (n - tB T n x) (tB T n x) G (by omega) rfl FR_r g18
      have fr3 : FR [] [18, 19, 20, 21] g g3 := FR_t fr2 (FR_m rfl rfl f3)
      have d20 : g3 196 20 = nI (tB T n x) := by rw [f3.2 20 (by decide)]; exact g20
      rw [b_mo_next0_103]
      simp -implicitDefEqProofs (disch := first | assumption | omega) only [szS_0, szS_i, szS_r, szS_l, x_cons, x_goto, ob_some, kl_i, kl_r, kl_l, kl_n, push_n, push_s, pop_0, pop_i, pop_r, Int.reduceToNat, List.length_cons, List.length_nil, Nat.reduceAdd, Nat.reduceLeDiff, Nat.zero_add, true_and, nI_n0, nat_le, Nat.add_zero, rt_mo_next0, x_al0, x_call, x_dupi, x_dupr, x_getf, x_goto, x_iadd, x_iceq, x_icge, x_icne, x_ifeq, x_il1, x_il2, x_imul, x_is1, x_is2, x_isub, x_ldc, x_m1, x_putf, x_vret, s_word (d := d + 1) (TT_F M2 f3 rfl rfl) d18 d20 i1 i2, fd_196_0, fd_196_1, fd_196_2, fd_196_3, fd_196_4, sf_196_4, fd_196_5, sf_196_5, fd_196_6, fd_196_7, fd_196_8, fd_196_9, fd_196_10, fd_196_11, fd_196_12, sf_196_12, fd_196_13, sf_196_13, fd_196_14, sf_196_14, fd_196_15, sf_196_15, fd_196_16, sf_196_16, fd_196_17, sf_196_17, fd_196_18, sf_196_18, fd_196_19, sf_196_19, fd_196_20, sf_196_20, fd_196_21, sf_196_21, fd_196_22, sf_196_22, fd_196_23, sf_196_23, fd_196_24, sf_196_24, fd_196_25, sf_196_25, fd_196_26, sf_196_26, fd_196_27, fd_196_28, fd_196_29, fd_196_30, sf_196_30, fd_196_31, fd_196_32, fd_196_33, fd_196_34, fd_196_35, fd_196_36, fd_196_37, sf_196_37, fd_196_38, fd_196_39, sf_196_39, fd_196_40, sf_196_40, fd_196_41, sf_196_41, fd_196_42, fd_196_43, fd_196_44, pu_g]
      exact last _ (FR_p rfl fr3 fr3) (by rw [upw_s, pu_n (by decide)]; exact d18) (by rw [upw_s, pu_s]) (by rw [upw_s, pu_n (by decide)]; exact d20) (fun h => absurd h hc2) _ _
end NX2
