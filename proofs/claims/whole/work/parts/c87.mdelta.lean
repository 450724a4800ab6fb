/-! the reference reads a delta -/
def mV (m : Nat) (v : Nat → Nat) (g : Nat → Nat → Int32) : Prop := ∀ f, f < 7 → g 203 (8 * m + f) = nI (v f)
def dIn (T : Nat → Nat) (n i m : Nat) (v : Nat → Nat) (g : Nat → Nat → Int32) : Prop := TT T n 0 g ∧ mT T n 0 i g ∧ g 196 15 = nI m ∧ m < 16 ∧ mV m v g ∧ g 196 16 = nI (v 7) ∧ v 7 ≤ 15
def dFr (m : Nat) (g g' : Nat → Nat → Int32) : Prop := FR [203] [16, 18, 19, 20, 21, 22, 23] g g' ∧ ∀ x, x < 8 * m → g' 203 x = g 203 x
theorem dFr_r {m : Nat} {g : Nat → Nat → Int32} : dFr m g g := ⟨FR_r, fun _ _ => rfl⟩
theorem dFr_t {m : Nat} {g g1 g2 : Nat → Nat → Int32} (h : dFr m g g1) (h' : dFr m g1 g2) : dFr m g g2 := ⟨FR_t h.1 h'.1, fun x hx => (h'.2 x hx).trans (h.2 x hx)⟩
def dXm (T : Nat → Nat) (n m f j : Nat) (g g' : Nat → Nat → Int32) : Prop := dFr m g g' ∧ g' 196 22 = nI f ∧ g' 196 23 = nI (kB T n j)
section MD
variable {d : Nat} {g : Nat → Nat → Int32} {q : Nat → Nat → Int64} {P : QT} {T : Nat → Nat} {n i m : Nat} {v : Nat → Nat}
theorem s_dnx (hM : TT T n 0 g) (hT : mT T n 0 i g) (H : ∀ g', FR [] [18, 19, 20, 21] g g' → mT T n 0 (i + 1) g' → P none (E g' q)) : callC (ev (d + 10)) mo_next0 [.ref 196] (E g q) P :=
  s_next0 hM (pz_l (i + 1)) hT.1 fun g' f e8 e9 e0 e1 => H g' f ⟨e8, e9, e0, e1⟩
theorem dIn_c {g' : Nat → Nat → Int32} {j : Nat} (h : dIn T n i m v g) (hf : FR [] [18, 19, 20, 21, 22, 23] g g') (hT : mT T n 0 j g') : dIn T n j m v g' :=
  ⟨TT_f h.1 (hf.1 204 (by decide) (by decide)) (hf.2 17 (by decide)) (hf.2 12 (by decide)), hT, (hf.2 15 (by decide)).trans h.2.2.1, h.2.2.2.1, fun f hf7 => by rw [hf.1 203 (by decide) (by decide)]; exact h.2.2.2.2.1 f hf7, (hf.2 16 (by decide)).trans h.2.2.2.2.2.1, h.2.2.2.2.2.2⟩
theorem dFr_c {g' : Nat → Nat → Int32} (hf : FR [] [18, 19, 20, 21, 22, 23] g g') : dFr m g g' := ⟨FR_m rfl rfl hf, fun x _ => by rw [hf.1 203 (by decide) (by decide)]⟩
theorem s_dbad {f : Nat} (hT : mT T n 0 i g) (H : ∀ g', dXm T n m f i g g' → P (some (.int (nI 0))) (E g' q)) : callC (ev (d + 1)) mo_bad [.ref 196, .int (nI f)] (E g q) P := by
  refine in_mo_bad rfl ?_
  have h20 := hT.2.2.1
  rw [b_mo_bad_0]
  simp -implicitDefEqProofs (disch := first | assumption | omega) only [szS_0, szS_i, szS_r, szS_l, x_cons, x_goto, ob_some, kl_i, kl_r, kl_l, kl_n, push_n, push_s, pop_0, pop_i, pop_r, Int.reduceToNat, List.length_cons, List.length_nil, Nat.reduceAdd, Nat.reduceLeDiff, Nat.zero_add, true_and, nI_n0, nat_le, Nat.add_zero, rt_mo_bad_0, rt_mo_bad_1, rt_mo_bad_b, x_al0, x_getf, x_il1, x_iret, x_ldc, x_putf, fd_196_0, fd_196_1, fd_196_2, fd_196_3, fd_196_4, sf_196_4, fd_196_5, sf_196_5, fd_196_6, fd_196_7, fd_196_8, fd_196_9, fd_196_10, fd_196_11, fd_196_12, sf_196_12, fd_196_13, sf_196_13, fd_196_14, sf_196_14, fd_196_15, sf_196_15, fd_196_16, sf_196_16, fd_196_17, sf_196_17, fd_196_18, sf_196_18, fd_196_19, sf_196_19, fd_196_20, sf_196_20, fd_196_21, sf_196_21, fd_196_22, sf_196_22, fd_196_23, sf_196_23, fd_196_24, sf_196_24, fd_196_25, sf_196_25, fd_196_26, sf_196_26, fd_196_27, fd_196_28, fd_196_29, fd_196_30, sf_196_30, fd_196_31, fd_196_32, fd_196_33, fd_196_34, fd_196_35, fd_196_36, fd_196_37, sf_196_37, fd_196_38, fd_196_39, sf_196_39, fd_196_40, sf_196_40, fd_196_41, sf_196_41, fd_196_42, fd_196_43, fd_196_44, pu_g, upw_s, pu_n, h20, pu_w, upw_w]
  refine H _ ⟨⟨⟨fun a h1 h2 => upw_o h1, fun x hx => ?_⟩, fun x _ => by rw [upw_o (by decide)]⟩, ?_, ?_⟩
  · rw [upw_s, pu_n (fun e => hx (by rw [e]; decide)), pu_n (fun e => hx (by rw [e]; decide))]
  · rw [upw_s, pu_n (by decide), pu_s]
  · rw [upw_s, pu_s]
theorem s_dneed {c : Nat} (hc : c < 1000) (hM : TT T n 0 g) (hT : mT T n 0 i g) (HN : ∀ g', kC T n 0 i = c → FR [] [18, 19, 20, 21, 22, 23] g g' → mT T n 0 (i + 1) g' → P (some (.int (nI 1))) (E g' q)) (HX : ∀ g', kC T n 0 i ≠ c → dXm T n m 1 i g g' → P (some (.int (nI 0))) (E g' q)) : callC (ev (d + 11)) mo_need [.ref 196, .int (nI c)] (E g q) P := by
  refine in_mo_need rfl ?_
  have h19 := hT.2.1
  have hcc := kC_sm (T := T) (n := n) (m := i) (k := 0) (by decide)
  rw [b_mo_need_0]
  simp -implicitDefEqProofs (disch := first | assumption | omega) only [szS_0, szS_i, szS_r, szS_l, x_cons, x_goto, ob_some, kl_i, kl_r, kl_l, kl_n, push_n, push_s, pop_0, pop_i, pop_r, Int.reduceToNat, List.length_cons, List.length_nil, Nat.reduceAdd, Nat.reduceLeDiff, Nat.zero_add, true_and, nI_n0, nat_le, Nat.add_zero, rt_mo_need_0, rt_mo_need_1, rt_mo_need_b, x_al0, x_call, x_getf, x_iceq, x_il1, x_iret, x_ldc, fd_196_0, fd_196_1, fd_196_2, fd_196_3, fd_196_4, sf_196_4, fd_196_5, sf_196_5, fd_196_6, fd_196_7, fd_196_8, fd_196_9, fd_196_10, fd_196_11, fd_196_12, sf_196_12, fd_196_13, sf_196_13, fd_196_14, sf_196_14, fd_196_15, sf_196_15, fd_196_16, sf_196_16, fd_196_17, sf_196_17, fd_196_18, sf_196_18, fd_196_19, sf_196_19, fd_196_20, sf_196_20, fd_196_21, sf_196_21, fd_196_22, sf_196_22, fd_196_23, sf_196_23, fd_196_24, sf_196_24, fd_196_25, sf_196_25, fd_196_26, sf_196_26, fd_196_27, fd_196_28, fd_196_29, fd_196_30, sf_196_30, fd_196_31, fd_196_32, fd_196_33, fd_196_34, fd_196_35, fd_196_36, fd_196_37, sf_196_37, fd_196_38, fd_196_39, sf_196_39, fd_196_40, sf_196_40, fd_196_41, sf_196_41, fd_196_42, fd_196_43, fd_196_44, h19, nI_eqE]
  by_cases h1 : kC T n 0 i = c
  · simp only [h1, ↓reduceIte]
    try simp -implicitDefEqProofs (disch := first | assumption | omega) only [b_mo_need_14, szS_0, szS_i, szS_r, szS_l, x_cons, x_goto, ob_some, kl_i, kl_r, kl_l, kl_n, push_n, push_s, pop_0, pop_i, pop_r, Int.reduceToNat, List.length_cons, List.length_nil, Nat.reduceAdd, Nat.reduceLeDiff, Nat.zero_add, true_and, nI_n0, nat_le, Nat.add_zero, rt_mo_need_0, rt_mo_need_1, rt_mo_need_b, x_al0, x_call, x_getf, x_iceq, x_il1, x_iret, x_ldc]
    refine s_dnx hM hT fun g' f t => ?_
    simp -implicitDefEqProofs (disch := first | assumption | omega) only [szS_0, szS_i, szS_r, szS_l, x_cons, x_goto, ob_some, kl_i, kl_r, kl_l, kl_n, push_n, push_s, pop_0, pop_i, pop_r, Int.reduceToNat, List.length_cons, List.length_nil, Nat.reduceAdd, Nat.reduceLeDiff, Nat.zero_add, true_and, nI_n0, nat_le, Nat.add_zero, rt_mo_need_0, rt_mo_need_1, rt_mo_need_b, x_al0, x_call, x_getf, x_iceq, x_il1, x_iret, x_ldc]
    exact HN g' h1 (FR_m rfl rfl f) t
  · simp only [h1, ↓reduceIte]
    try simp -implicitDefEqProofs (disch := first | assumption | omega) only [szS_0, szS_i, szS_r, szS_l, x_cons, x_goto, ob_some, kl_i, kl_r, kl_l, kl_n, push_n, push_s, pop_0, pop_i, pop_r, Int.reduceToNat, List.length_cons, List.length_nil, Nat.reduceAdd, Nat.reduceLeDiff, Nat.zero_add, true_and, nI_n0, nat_le, Nat.add_zero, rt_mo_need_0, rt_mo_need_1, rt_mo_need_b, x_al0, x_call, x_getf, x_iceq, x_il1, x_iret, x_ldc]
    refine s_dbad (d := d + 9) (m := m) hT fun g' e => ?_
    simp -implicitDefEqProofs (disch := first | assumption | omega) only [szS_0, szS_i, szS_r, szS_l, x_cons, x_goto, ob_some, kl_i, kl_r, kl_l, kl_n, push_n, push_s, pop_0, pop_i, pop_r, Int.reduceToNat, List.length_cons, List.length_nil, Nat.reduceAdd, Nat.reduceLeDiff, Nat.zero_add, true_and, nI_n0, nat_le, Nat.add_zero, rt_mo_need_0, rt_mo_need_1, rt_mo_need_b, x_al0, x_call, x_getf, x_iceq, x_il1, x_iret, x_ldc]
    exact HX g' h1 e
theorem s_dwd {c : Nat} (hc : c < 1000) (h : dIn T n i m v g) (HN : ∀ g', wdF T n c v i = .inr (v, i + 1) → dFr m g g' → dIn T n (i + 1) m v g' → P (some (.int (nI 1))) (E g' q)) (HX : ∀ g', wdF T n c v i = .inl (1, i) → dXm T n m 1 i g g' → P (some (.int (nI 0))) (E g' q)) : callC (ev (d + 11)) mo_need [.ref 196, .int (nI c)] (E g q) P :=
  s_dneed hc h.1 h.2.1 (fun g' e f t => HN g' (if_pos e) (dFr_c f) (dIn_c h f t)) fun g' e x => HX g' (if_neg e) x
theorem s_dnum {p lo hi : Nat} (hp : p < 7) (hlo : lo < 100) (hhi : hi < 1000) (h : dIn T n i m v g) (HN : ∀ g', nuF T n p lo hi v i = .inr (unn v p (kN T n i), i + 1) → lo ≤ kN T n i → kN T n i ≤ hi → kC T n 0 i = 2 → dFr m g g' → dIn T n (i + 1) m (unn v p (kN T n i)) g' → P (some (.int (nI 1))) (E g' q)) (HX : ∀ f j g', nuF T n p lo hi v i = .inl (f, j) → (kC T n 0 i = 2 → ¬ (lo ≤ kN T n i ∧ kN T n i ≤ hi)) → dXm T n m f j g g' → P (some (.int (nI 0))) (E g' q)) : callC (ev (d + 11)) mo_number [.ref 196, .int (nI p), .int (nI lo), .int (nI hi)] (E g q) P := by
  refine in_mo_number rfl ?_
  have h19 := h.2.1.2.1
  have hcc := kC_sm (T := T) (n := n) (m := i) (k := 0) (by decide)
  have hkN := kN_l (T := T) (n := n) (i := i)
  have eu : nuF T n p lo hi v i = if kC T n 0 i ≠ 2 then .inl (1, i) else if lo ≤ kN T n i ∧ kN T n i ≤ hi then .inr (unn v p (kN T n i), i + 1) else .inl (2, i) := rfl
  rw [b_mo_number_0]
  simp -implicitDefEqProofs (disch := first | assumption | omega) only [szS_0, szS_i, szS_r, szS_l, x_cons, x_goto, ob_some, kl_i, kl_r, kl_l, kl_n, push_n, push_s, pop_0, pop_i, pop_r, Int.reduceToNat, List.length_cons, List.length_nil, Nat.reduceAdd, Nat.reduceLeDiff, Nat.zero_add, true_and, nI_n0, nat_le, Nat.add_zero, rt_mo_number_0, rt_mo_number_1, rt_mo_number_b, x_al0, x_call, x_getf, x_iadd, x_iastore, x_iceq, x_ifne, x_il1, x_il2, x_il3, x_imul, x_iret, x_ldc, fd_196_0, fd_196_1, fd_196_2, fd_196_3, fd_196_4, sf_196_4, fd_196_5, sf_196_5, fd_196_6, fd_196_7, fd_196_8, fd_196_9, fd_196_10, fd_196_11, fd_196_12, sf_196_12, fd_196_13, sf_196_13, fd_196_14, sf_196_14, fd_196_15, sf_196_15, fd_196_16, sf_196_16, fd_196_17, sf_196_17, fd_196_18, sf_196_18, fd_196_19, sf_196_19, fd_196_20, sf_196_20, fd_196_21, sf_196_21, fd_196_22, sf_196_22, fd_196_23, sf_196_23, fd_196_24, sf_196_24, fd_196_25, sf_196_25, fd_196_26, sf_196_26, fd_196_27, fd_196_28, fd_196_29, fd_196_30, sf_196_30, fd_196_31, fd_196_32, fd_196_33, fd_196_34, fd_196_35, fd_196_36, fd_196_37, sf_196_37, fd_196_38, fd_196_39, sf_196_39, fd_196_40, sf_196_40, fd_196_41, sf_196_41, fd_196_42, fd_196_43, fd_196_44, h19, nI_eqE]
  by_cases c2 : kC T n 0 i = 2
  · rw [if_neg (fun h => h c2)] at eu
    have h21 := h.2.1.2.2.2 c2
    simp only [c2, ↓reduceIte]
    try simp -implicitDefEqProofs (disch := first | assumption | omega) only [b_mo_number_14, szS_0, szS_i, szS_r, szS_l, x_cons, x_goto, ob_some, kl_i, kl_r, kl_l, kl_n, push_n, push_s, pop_0, pop_i, pop_r, Int.reduceToNat, List.length_cons, List.length_nil, Nat.reduceAdd, Nat.reduceLeDiff, Nat.zero_add, true_and, nI_n0, nat_le, Nat.add_zero, rt_mo_number_0, rt_mo_number_1, rt_mo_number_b, x_al0, x_call, x_getf, x_iadd, x_iastore, x_iceq, x_ifne, x_il1, x_il2, x_il3, x_imul, x_iret, x_ldc, fd_196_0, fd_196_1, fd_196_2, fd_196_3, fd_196_4, sf_196_4, fd_196_5, sf_196_5, fd_196_6, fd_196_7, fd_196_8, fd_196_9, fd_196_10, fd_196_11, fd_196_12, sf_196_12, fd_196_13, sf_196_13, fd_196_14, sf_196_14, fd_196_15, sf_196_15, fd_196_16, sf_196_16, fd_196_17, sf_196_17, fd_196_18, sf_196_18, fd_196_19, sf_196_19, fd_196_20, sf_196_20, fd_196_21, sf_196_21, fd_196_22, sf_196_22, fd_196_23, sf_196_23, fd_196_24, sf_196_24, fd_196_25, sf_196_25, fd_196_26, sf_196_26, fd_196_27, fd_196_28, fd_196_29, fd_196_30, sf_196_30, fd_196_31, fd_196_32, fd_196_33, fd_196_34, fd_196_35, fd_196_36, fd_196_37, sf_196_37, fd_196_38, fd_196_39, sf_196_39, fd_196_40, sf_196_40, fd_196_41, sf_196_41, fd_196_42, fd_196_43, fd_196_44, h21, s_isIn, bI_0]
    by_cases hr : lo ≤ kN T n i ∧ kN T n i ≤ hi
    · have e : decide (nI lo ≤ nI (kN T n i) ∧ nI (kN T n i) ≤ nI hi) = true := decide_eq_true (by rw [nI_leE (by omega) (by omega), nI_leE (by omega) (by omega)]; exact hr)
      rw [if_pos hr] at eu
      rw [e]
      have h15 := h.2.2.1
      have hm := h.2.2.2.1
      have l8 : 8 * m + p < 128 := by omega
      obtain ⟨g1, hg1⟩ : ∃ g1, g1 = upw g 203 (pu (g 203) (8 * m + p) (nI (kN T n i))) := ⟨_, rfl⟩
      have e1 : ∀ a, a ≠ 203 → g1 a = g a := fun a ha => by rw [hg1, upw_o ha]
      have e203 : g1 203 = pu (g 203) (8 * m + p) (nI (kN T n i)) := by rw [hg1, upw_s]
      have e196 := e1 196 (by decide)
      simp -implicitDefEqProofs (disch := first | assumption | omega) only [Bool.true_eq_false, ↓reduceIte, b_mo_number_32, szS_0, szS_i, szS_r, szS_l, x_cons, x_goto, ob_some, kl_i, kl_r, kl_l, kl_n, push_n, push_s, pop_0, pop_i, pop_r, Int.reduceToNat, List.length_cons, List.length_nil, Nat.reduceAdd, Nat.reduceLeDiff, Nat.zero_add, true_and, nI_n0, nat_le, Nat.add_zero, rt_mo_number_0, rt_mo_number_1, rt_mo_number_b, x_al0, x_call, x_getf, x_iadd, x_iastore, x_iceq, x_ifne, x_il1, x_il2, x_il3, x_imul, x_iret, x_ldc, fd_196_0, fd_196_1, fd_196_2, fd_196_3, fd_196_4, sf_196_4, fd_196_5, sf_196_5, fd_196_6, fd_196_7, fd_196_8, fd_196_9, fd_196_10, fd_196_11, fd_196_12, sf_196_12, fd_196_13, sf_196_13, fd_196_14, sf_196_14, fd_196_15, sf_196_15, fd_196_16, sf_196_16, fd_196_17, sf_196_17, fd_196_18, sf_196_18, fd_196_19, sf_196_19, fd_196_20, sf_196_20, fd_196_21, sf_196_21, fd_196_22, sf_196_22, fd_196_23, sf_196_23, fd_196_24, sf_196_24, fd_196_25, sf_196_25, fd_196_26, sf_196_26, fd_196_27, fd_196_28, fd_196_29, fd_196_30, sf_196_30, fd_196_31, fd_196_32, fd_196_33, fd_196_34, fd_196_35, fd_196_36, fd_196_37, sf_196_37, fd_196_38, fd_196_39, sf_196_39, fd_196_40, sf_196_40, fd_196_41, sf_196_41, fd_196_42, fd_196_43, fd_196_44, h15, nI_mul, nI_add, h21, ld_203, sd_203, ln_203, pu_g]
      rw [← hg1]
      refine s_dnx (i := i) (TT_f h.1 (e1 204 (by decide)) (by rw [e196]) (by rw [e196])) (mT_f h.2.1 (by rw [e196]) (by rw [e196]) (by rw [e196]) (by rw [e196])) fun g2 f2 t2 => ?_
      simp -implicitDefEqProofs (disch := first | assumption | omega) only [szS_0, szS_i, szS_r, szS_l, x_cons, x_goto, ob_some, kl_i, kl_r, kl_l, kl_n, push_n, push_s, pop_0, pop_i, pop_r, Int.reduceToNat, List.length_cons, List.length_nil, Nat.reduceAdd, Nat.reduceLeDiff, Nat.zero_add, true_and, nI_n0, nat_le, Nat.add_zero, rt_mo_number_0, rt_mo_number_1, rt_mo_number_b, x_al0, x_call, x_getf, x_iadd, x_iastore, x_iceq, x_ifne, x_il1, x_il2, x_il3, x_imul, x_iret, x_ldc]
      refine HN g2 eu hr.1 hr.2 c2 ⟨?_, fun x hx => by rw [f2.1 203 (by decide) (by decide), e203, pu_n (by omega)]⟩ ⟨TT_f h.1 ((f2.1 204 (by decide) (by decide)).trans (e1 204 (by decide))) (by rw [f2.2 17 (by decide), e196]) (by rw [f2.2 12 (by decide), e196]), t2, by rw [f2.2 15 (by decide), e196]; exact h15, hm, fun f hf => ?_, by rw [f2.2 16 (by decide), e196, unn_n (by omega)]; exact h.2.2.2.2.2.1, by rw [unn_n (by omega)]; exact h.2.2.2.2.2.2⟩
      · refine FR_t (g' := g1) ?_ (FR_m rfl rfl f2)
        rw [hg1]
        exact FR_w rfl FR_r
      · rw [f2.1 203 (by decide) (by decide), e203]
        by_cases ef : f = p
        · rw [ef, pu_s, unn_s]
        · rw [pu_n (by omega), unn_n ef]
          exact h.2.2.2.2.1 f hf
    · have e : decide (nI lo ≤ nI (kN T n i) ∧ nI (kN T n i) ≤ nI hi) = false := decide_eq_false (by rw [nI_leE (by omega) (by omega), nI_leE (by omega) (by omega)]; exact hr)
      rw [if_neg hr] at eu
      rw [e]
      simp -implicitDefEqProofs (disch := first | assumption | omega) only [↓reduceIte, szS_0, szS_i, szS_r, szS_l, x_cons, x_goto, ob_some, kl_i, kl_r, kl_l, kl_n, push_n, push_s, pop_0, pop_i, pop_r, Int.reduceToNat, List.length_cons, List.length_nil, Nat.reduceAdd, Nat.reduceLeDiff, Nat.zero_add, true_and, nI_n0, nat_le, Nat.add_zero, rt_mo_number_0, rt_mo_number_1, rt_mo_number_b, x_al0, x_call, x_getf, x_iadd, x_iastore, x_iceq, x_ifne, x_il1, x_il2, x_il3, x_imul, x_iret, x_ldc]
      refine s_dbad (d := d + 9) (m := m) h.2.1 fun g' x => ?_
      simp -implicitDefEqProofs (disch := first | assumption | omega) only [szS_0, szS_i, szS_r, szS_l, x_cons, x_goto, ob_some, kl_i, kl_r, kl_l, kl_n, push_n, push_s, pop_0, pop_i, pop_r, Int.reduceToNat, List.length_cons, List.length_nil, Nat.reduceAdd, Nat.reduceLeDiff, Nat.zero_add, true_and, nI_n0, nat_le, Nat.add_zero, rt_mo_number_0, rt_mo_number_1, rt_mo_number_b, x_al0, x_call, x_getf, x_iadd, x_iastore, x_iceq, x_ifne, x_il1, x_il2, x_il3, x_imul, x_iret, x_ldc]
      exact HX _ _ g' eu (fun _ => hr) x
  · rw [if_pos c2] at eu
    simp only [c2, ↓reduceIte]
    try simp -implicitDefEqProofs (disch := first | assumption | omega) only [szS_0, szS_i, szS_r, szS_l, x_cons, x_goto, ob_some, kl_i, kl_r, kl_l, kl_n, push_n, push_s, pop_0, pop_i, pop_r, Int.reduceToNat, List.length_cons, List.length_nil, Nat.reduceAdd, Nat.reduceLeDiff, Nat.zero_add, true_and, nI_n0, nat_le, Nat.add_zero, rt_mo_number_0, rt_mo_number_1, rt_mo_number_b, x_al0, x_call, x_getf, x_iadd, x_iastore, x_iceq, x_ifne, x_il1, x_il2, x_il3, x_imul, x_iret, x_ldc]
    refine s_dbad (d := d + 9) (m := m) h.2.1 fun g' x => ?_
    simp -implicitDefEqProofs (disch := first | assumption | omega) only [szS_0, szS_i, szS_r, szS_l, x_cons, x_goto, ob_some, kl_i, kl_r, kl_l, kl_n, push_n, push_s, pop_0, pop_i, pop_r, Int.reduceToNat, List.length_cons, List.length_nil, Nat.reduceAdd, Nat.reduceLeDiff, Nat.zero_add, true_and, nI_n0, nat_le, Nat.add_zero, rt_mo_number_0, rt_mo_number_1, rt_mo_number_b, x_al0, x_call, x_getf, x_iadd, x_iastore, x_iceq, x_ifne, x_il1, x_il2, x_il3, x_imul, x_iret, x_ldc]
    exact HX _ _ g' eu (fun e => absurd e c2) x
theorem s_darm {a : Nat} (ha : a < 3) (h : dIn T n i m v g) (HN : ∀ g', arF T n m a v i = .inr (upA a (kN T n i) v, i + 1) → dFr m g g' → dIn T n (i + 1) m (upA a (kN T n i) v) g' → P (some (.int (nI 1))) (E g' q)) (HX : ∀ f j g', arF T n m a v i = .inl (f, j) → dXm T n m f j g g' → P (some (.int (nI 0))) (E g' q)) : callC (ev (d + 12)) mo_anArm [.ref 196, .int (nI a)] (E g q) P := by
  refine in_mo_anArm rfl ?_
  have h15 := h.2.2.1
  have hm := h.2.2.2.1
  have n10 : (nI 1 = nI 0) = False := eq_false (by decide)
  have eu : arF T n m a v i = if kC T n 0 i ≠ 2 then .inl (1, i) else if m + 1 ≤ kN T n i ∧ kN T n i ≤ 15 then .inr (upA a (kN T n i) v, i + 1) else .inl (2, i) := rfl
  have en : nuF T n (2 + a) (m + 1) 15 v i = if kC T n 0 i ≠ 2 then .inl (1, i) else if m + 1 ≤ kN T n i ∧ kN T n i ≤ 15 then .inr (unn v (2 + a) (kN T n i), i + 1) else .inl (2, i) := rfl
  rw [b_mo_anArm_0]
  simp -implicitDefEqProofs (disch := first | assumption | omega) only [szS_0, szS_i, szS_r, szS_l, x_cons, x_goto, ob_some, kl_i, kl_r, kl_l, kl_n, push_n, push_s, pop_0, pop_i, pop_r, Int.reduceToNat, List.length_cons, List.length_nil, Nat.reduceAdd, Nat.reduceLeDiff, Nat.zero_add, true_and, nI_n0, nat_le, Nat.add_zero, rt_mo_anArm_0, rt_mo_anArm_1, rt_mo_anArm_b, x_al0, x_call, x_getf, x_iadd, x_iaload, x_iastore, x_ifne, x_il1, x_imul, x_iret, x_ldc, x_putf, fd_196_0, fd_196_1, fd_196_2, fd_196_3, fd_196_4, sf_196_4, fd_196_5, sf_196_5, fd_196_6, fd_196_7, fd_196_8, fd_196_9, fd_196_10, fd_196_11, fd_196_12, sf_196_12, fd_196_13, sf_196_13, fd_196_14, sf_196_14, fd_196_15, sf_196_15, fd_196_16, sf_196_16, fd_196_17, sf_196_17, fd_196_18, sf_196_18, fd_196_19, sf_196_19, fd_196_20, sf_196_20, fd_196_21, sf_196_21, fd_196_22, sf_196_22, fd_196_23, sf_196_23, fd_196_24, sf_196_24, fd_196_25, sf_196_25, fd_196_26, sf_196_26, fd_196_27, fd_196_28, fd_196_29, fd_196_30, sf_196_30, fd_196_31, fd_196_32, fd_196_33, fd_196_34, fd_196_35, fd_196_36, fd_196_37, sf_196_37, fd_196_38, fd_196_39, sf_196_39, fd_196_40, sf_196_40, fd_196_41, sf_196_41, fd_196_42, fd_196_43, fd_196_44, nI_add, h15]
  refine s_dnum (d := d) (by omega) (by omega) (by decide) h (fun g1 e l1 l2 c2 f1 i1 => ?_) fun f j g1 e c2 x1 => ?_
  · have k15 := i1.2.2.1
    have k16 := i1.2.2.2.2.2.1
    have k7 := i1.2.2.2.2.2.2
    have kV := i1.2.2.2.2.1 (2 + a) (by omega)
    rw [unn_s] at kV
    have l8 : 8 * m + 1 < 128 := by omega
    have l9 : 8 * m + 2 + a < 128 := by omega
    have k7' : unn v (2 + a) (kN T n i) 7 = v 7 := unn_n (by omega)
    rw [k7'] at k16 k7
    have kV : g1 203 (8 * m + 2 + a) = nI (kN T n i) := by rw [Nat.add_assoc]; exact kV
    have eu : arF T n m a v i = .inr (upA a (kN T n i) v, i + 1) := by rw [eu, if_neg (fun h => h c2), if_pos ⟨l1, l2⟩]
    have lk : kN T n i < 2147483648 ∧ v 7 < 2147483648 := by omega
    have gr : (if nI (kN T n i) < nI (v 7) then nI (v 7) else nI (kN T n i)) = nI (if v 7 < kN T n i then kN T n i else v 7) := by
      by_cases e1 : v 7 < kN T n i
      · rw [if_neg (fun h => by rw [nI_ltE lk.1 lk.2] at h; omega), if_pos e1]
      · rw [if_neg e1]
        by_cases e2 : kN T n i < v 7
        · rw [if_pos (by rw [nI_ltE lk.1 lk.2]; exact e2)]
        · rw [if_neg (fun h => by rw [nI_ltE lk.1 lk.2] at h; omega)]
          congr 1
          omega
    simp -implicitDefEqProofs (disch := first | assumption | omega) only [szS_0, szS_i, szS_r, szS_l, x_cons, x_goto, ob_some, kl_i, kl_r, kl_l, kl_n, push_n, push_s, pop_0, pop_i, pop_r, Int.reduceToNat, List.length_cons, List.length_nil, Nat.reduceAdd, Nat.reduceLeDiff, Nat.zero_add, true_and, nI_n0, nat_le, Nat.add_zero, rt_mo_anArm_0, rt_mo_anArm_1, rt_mo_anArm_b, x_al0, x_call, x_getf, x_iadd, x_iaload, x_iastore, x_ifne, x_il1, x_imul, x_iret, x_ldc, x_putf, n10, ↓reduceIte, b_mo_anArm_20, fd_196_0, fd_196_1, fd_196_2, fd_196_3, fd_196_4, sf_196_4, fd_196_5, sf_196_5, fd_196_6, fd_196_7, fd_196_8, fd_196_9, fd_196_10, fd_196_11, fd_196_12, sf_196_12, fd_196_13, sf_196_13, fd_196_14, sf_196_14, fd_196_15, sf_196_15, fd_196_16, sf_196_16, fd_196_17, sf_196_17, fd_196_18, sf_196_18, fd_196_19, sf_196_19, fd_196_20, sf_196_20, fd_196_21, sf_196_21, fd_196_22, sf_196_22, fd_196_23, sf_196_23, fd_196_24, sf_196_24, fd_196_25, sf_196_25, fd_196_26, sf_196_26, fd_196_27, fd_196_28, fd_196_29, fd_196_30, sf_196_30, fd_196_31, fd_196_32, fd_196_33, fd_196_34, fd_196_35, fd_196_36, fd_196_37, sf_196_37, fd_196_38, fd_196_39, sf_196_39, fd_196_40, sf_196_40, fd_196_41, sf_196_41, fd_196_42, fd_196_43, fd_196_44, k15, k16, nI_mul, nI_add, ld_203, sd_203, ln_203, kV, s_greater, gr, pu_g, upw_s, pu_n, upw_o]
    refine HN _ eu ⟨?_, fun x hx => ?_⟩ ⟨TT_f i1.1 ?_ ?_ ?_, mT_f i1.2.1 ?_ ?_ ?_ ?_, ?_, hm, fun f hf => ?_, ?_, ?_⟩
    · exact FR_t f1.1 (FR_w rfl (FR_p rfl FR_r FR_r))
    · rw [upw_s, pu_n (by omega)]
      exact f1.2 x hx
    · rw [upw_o (by decide), upw_o (by decide)]
    · rw [upw_o (by decide), upw_s, pu_n (by decide)]
    · rw [upw_o (by decide), upw_s, pu_n (by decide)]
    · rw [upw_o (by decide), upw_s, pu_n (by decide)]
    · rw [upw_o (by decide), upw_s, pu_n (by decide)]
    · rw [upw_o (by decide), upw_s, pu_n (by decide)]
    · rw [upw_o (by decide), upw_s, pu_n (by decide)]
    · rw [upw_o (by decide), upw_s, pu_n (by decide)]
      exact k15
    · rw [upw_s]
      by_cases ef : f = 1
      · rw [ef, pu_s, upA_1]
      · rw [pu_n (by omega), i1.2.2.2.2.1 f hf]
        by_cases ef2 : f = 2 + a
        · rw [ef2, unn_s, upA_a ha]
        · rw [unn_n ef2, upA_o ef (by omega) ef2]
    · rw [upw_o (by decide), upw_s, pu_s, upA_7]
    · rw [upA_7]
      split <;> omega
  · have eu : arF T n m a v i = .inl (f, j) := by
      rw [eu]
      rw [en] at e
      by_cases h2 : kC T n 0 i = 2
      · rw [if_neg (fun h => h h2), if_neg (c2 h2)]
        rw [if_neg (fun h => h h2), if_neg (c2 h2)] at e
        exact e
      · rw [if_pos h2]
        rw [if_pos h2] at e
        exact e
    simp -implicitDefEqProofs (disch := first | assumption | omega) only [szS_0, szS_i, szS_r, szS_l, x_cons, x_goto, ob_some, kl_i, kl_r, kl_l, kl_n, push_n, push_s, pop_0, pop_i, pop_r, Int.reduceToNat, List.length_cons, List.length_nil, Nat.reduceAdd, Nat.reduceLeDiff, Nat.zero_add, true_and, nI_n0, nat_le, Nat.add_zero, rt_mo_anArm_0, rt_mo_anArm_1, rt_mo_anArm_b, x_al0, x_call, x_getf, x_iadd, x_iaload, x_iastore, x_ifne, x_il1, x_imul, x_iret, x_ldc, x_putf, ↓reduceIte]
    exact HX f j g1 eu x1
theorem s_dfork (h : dIn T n i m v g) (HN : ∀ v' j g', fkF T n m v i = .inr (v', j) → dFr m g g' → dIn T n j m v' g' → P (some (.int (nI 1))) (E g' q)) (HX : ∀ f j g', fkF T n m v i = .inl (f, j) → dXm T n m f j g g' → P (some (.int (nI 0))) (E g' q)) : callC (ev (d + 13)) mo_aFork [.ref 196] (E g q) P := by
  refine in_mo_aFork rfl ?_
  have n10 : (nI 1 = nI 0) = False := eq_false (by decide)
  have eu : fkF T n m v i = bn (wdF T n 13 v i) fun v i => bn (arF T n m 0 v i) fun v i => bn (wdF T n 5 v i) fun v i => bn (arF T n m 1 v i) fun v i => if kC T n 0 i = 5 then arF T n m 2 v (i + 1) else .inr (v, i) := rfl
  have xt : ∀ {f j : Nat} {g1 g2 : Nat → Nat → Int32}, dFr m g g1 → dXm T n m f j g1 g2 → dXm T n m f j g g2 := fun h x => ⟨dFr_t h x.1, x.2⟩
  have bad : ∀ g2, P (some (.int (nI 0))) (E g2 q) → wp (ev (d + 12)) P mo_aFork 33 [some (.ref 196)] [] (E g2 q) := fun g2 hp => by
    rw [b_mo_aFork_33]
    simp -implicitDefEqProofs (disch := first | assumption | omega) only [szS_0, szS_i, szS_r, szS_l, x_cons, x_goto, ob_some, kl_i, kl_r, kl_l, kl_n, push_n, push_s, pop_0, pop_i, pop_r, Int.reduceToNat, List.length_cons, List.length_nil, Nat.reduceAdd, Nat.reduceLeDiff, Nat.zero_add, true_and, nI_n0, nat_le, Nat.add_zero, rt_mo_aFork_0, rt_mo_aFork_1, rt_mo_aFork_b, x_al0, x_call, x_getf, x_iceq, x_ifeq, x_ifne, x_iret, x_ldc]
    exact hp
  rw [b_mo_aFork_0]
  simp -implicitDefEqProofs (disch := first | assumption | omega) only [szS_0, szS_i, szS_r, szS_l, x_cons, x_goto, ob_some, kl_i, kl_r, kl_l, kl_n, push_n, push_s, pop_0, pop_i, pop_r, Int.reduceToNat, List.length_cons, List.length_nil, Nat.reduceAdd, Nat.reduceLeDiff, Nat.zero_add, true_and, nI_n0, nat_le, Nat.add_zero, rt_mo_aFork_0, rt_mo_aFork_1, rt_mo_aFork_b, x_al0, x_call, x_getf, x_iceq, x_ifeq, x_ifne, x_iret, x_ldc]
  refine s_dwd (d := d + 1) (c := 13) (by decide) h (fun g1 e1 f1 i1 => ?_) fun g1 e1 x1 => ?_
  · rw [bn_r e1] at eu
    simp -implicitDefEqProofs (disch := first | assumption | omega) only [szS_0, szS_i, szS_r, szS_l, x_cons, x_goto, ob_some, kl_i, kl_r, kl_l, kl_n, push_n, push_s, pop_0, pop_i, pop_r, Int.reduceToNat, List.length_cons, List.length_nil, Nat.reduceAdd, Nat.reduceLeDiff, Nat.zero_add, true_and, nI_n0, nat_le, Nat.add_zero, rt_mo_aFork_0, rt_mo_aFork_1, rt_mo_aFork_b, x_al0, x_call, x_getf, x_iceq, x_ifeq, x_ifne, x_iret, x_ldc, n10, ↓reduceIte]
    refine s_darm (d := d) (by decide) i1 (fun g2 e2 f2 i2 => ?_) fun f j g2 e2 x2 => ?_
    · rw [bn_r e2] at eu
      have f2 := dFr_t f1 f2
      simp -implicitDefEqProofs (disch := first | assumption | omega) only [szS_0, szS_i, szS_r, szS_l, x_cons, x_goto, ob_some, kl_i, kl_r, kl_l, kl_n, push_n, push_s, pop_0, pop_i, pop_r, Int.reduceToNat, List.length_cons, List.length_nil, Nat.reduceAdd, Nat.reduceLeDiff, Nat.zero_add, true_and, nI_n0, nat_le, Nat.add_zero, rt_mo_aFork_0, rt_mo_aFork_1, rt_mo_aFork_b, x_al0, x_call, x_getf, x_iceq, x_ifeq, x_ifne, x_iret, x_ldc, n10, ↓reduceIte]
      refine s_dwd (d := d + 1) (c := 5) (by decide) i2 (fun g3 e3 f3 i3 => ?_) fun g3 e3 x3 => ?_
      · rw [bn_r e3] at eu
        have f3 := dFr_t f2 f3
        simp -implicitDefEqProofs (disch := first | assumption | omega) only [szS_0, szS_i, szS_r, szS_l, x_cons, x_goto, ob_some, kl_i, kl_r, kl_l, kl_n, push_n, push_s, pop_0, pop_i, pop_r, Int.reduceToNat, List.length_cons, List.length_nil, Nat.reduceAdd, Nat.reduceLeDiff, Nat.zero_add, true_and, nI_n0, nat_le, Nat.add_zero, rt_mo_aFork_0, rt_mo_aFork_1, rt_mo_aFork_b, x_al0, x_call, x_getf, x_iceq, x_ifeq, x_ifne, x_iret, x_ldc, n10, ↓reduceIte]
        refine s_darm (d := d) (by decide) i3 (fun g4 e4 f4 i4 => ?_) fun f j g4 e4 x4 => ?_
        · rw [bn_r e4] at eu
          have f4 := dFr_t f3 f4
          have h19 := i4.2.1.2.1
          have hcc := kC_sm (T := T) (n := n) (m := i + 1 + 1 + 1 + 1) (k := 0) (by decide)
          simp -implicitDefEqProofs (disch := first | assumption | omega) only [szS_0, szS_i, szS_r, szS_l, x_cons, x_goto, ob_some, kl_i, kl_r, kl_l, kl_n, push_n, push_s, pop_0, pop_i, pop_r, Int.reduceToNat, List.length_cons, List.length_nil, Nat.reduceAdd, Nat.reduceLeDiff, Nat.zero_add, true_and, nI_n0, nat_le, Nat.add_zero, rt_mo_aFork_0, rt_mo_aFork_1, rt_mo_aFork_b, x_al0, x_call, x_getf, x_iceq, x_ifeq, x_ifne, x_iret, x_ldc, n10, ↓reduceIte, b_mo_aFork_35, fd_196_0, fd_196_1, fd_196_2, fd_196_3, fd_196_4, sf_196_4, fd_196_5, sf_196_5, fd_196_6, fd_196_7, fd_196_8, fd_196_9, fd_196_10, fd_196_11, fd_196_12, sf_196_12, fd_196_13, sf_196_13, fd_196_14, sf_196_14, fd_196_15, sf_196_15, fd_196_16, sf_196_16, fd_196_17, sf_196_17, fd_196_18, sf_196_18, fd_196_19, sf_196_19, fd_196_20, sf_196_20, fd_196_21, sf_196_21, fd_196_22, sf_196_22, fd_196_23, sf_196_23, fd_196_24, sf_196_24, fd_196_25, sf_196_25, fd_196_26, sf_196_26, fd_196_27, fd_196_28, fd_196_29, fd_196_30, sf_196_30, fd_196_31, fd_196_32, fd_196_33, fd_196_34, fd_196_35, fd_196_36, fd_196_37, sf_196_37, fd_196_38, fd_196_39, sf_196_39, fd_196_40, sf_196_40, fd_196_41, sf_196_41, fd_196_42, fd_196_43, fd_196_44, h19, nI_eqE]
          by_cases c5 : kC T n 0 (i + 1 + 1 + 1 + 1) = 5
          · rw [if_pos c5] at eu
            simp only [c5, ↓reduceIte]
            try simp -implicitDefEqProofs (disch := first | assumption | omega) only [b_mo_aFork_45, szS_0, szS_i, szS_r, szS_l, x_cons, x_goto, ob_some, kl_i, kl_r, kl_l, kl_n, push_n, push_s, pop_0, pop_i, pop_r, Int.reduceToNat, List.length_cons, List.length_nil, Nat.reduceAdd, Nat.reduceLeDiff, Nat.zero_add, true_and, nI_n0, nat_le, Nat.add_zero, rt_mo_aFork_0, rt_mo_aFork_1, rt_mo_aFork_b, x_al0, x_call, x_getf, x_iceq, x_ifeq, x_ifne, x_iret, x_ldc]
            refine s_dnx (d := d + 2) i4.1 i4.2.1 fun g5 f5 t5 => ?_
            have f5' : FR [] [18, 19, 20, 21, 22, 23] g4 g5 := FR_m rfl rfl f5
            have i5 := dIn_c i4 f5' t5
            have f5 := dFr_t f4 (dFr_c f5')
            simp -implicitDefEqProofs (disch := first | assumption | omega) only [szS_0, szS_i, szS_r, szS_l, x_cons, x_goto, ob_some, kl_i, kl_r, kl_l, kl_n, push_n, push_s, pop_0, pop_i, pop_r, Int.reduceToNat, List.length_cons, List.length_nil, Nat.reduceAdd, Nat.reduceLeDiff, Nat.zero_add, true_and, nI_n0, nat_le, Nat.add_zero, rt_mo_aFork_0, rt_mo_aFork_1, rt_mo_aFork_b, x_al0, x_call, x_getf, x_iceq, x_ifeq, x_ifne, x_iret, x_ldc]
            refine s_darm (d := d) (by decide) i5 (fun g6 e6 f6 i6 => ?_) fun f j g6 e6 x6 => ?_
            · simp -implicitDefEqProofs (disch := first | assumption | omega) only [szS_0, szS_i, szS_r, szS_l, x_cons, x_goto, ob_some, kl_i, kl_r, kl_l, kl_n, push_n, push_s, pop_0, pop_i, pop_r, Int.reduceToNat, List.length_cons, List.length_nil, Nat.reduceAdd, Nat.reduceLeDiff, Nat.zero_add, true_and, nI_n0, nat_le, Nat.add_zero, rt_mo_aFork_0, rt_mo_aFork_1, rt_mo_aFork_b, x_al0, x_call, x_getf, x_iceq, x_ifeq, x_ifne, x_iret, x_ldc]
              exact HN _ _ g6 (eu.trans e6) (dFr_t f5 f6) i6
            · simp -implicitDefEqProofs (disch := first | assumption | omega) only [szS_0, szS_i, szS_r, szS_l, x_cons, x_goto, ob_some, kl_i, kl_r, kl_l, kl_n, push_n, push_s, pop_0, pop_i, pop_r, Int.reduceToNat, List.length_cons, List.length_nil, Nat.reduceAdd, Nat.reduceLeDiff, Nat.zero_add, true_and, nI_n0, nat_le, Nat.add_zero, rt_mo_aFork_0, rt_mo_aFork_1, rt_mo_aFork_b, x_al0, x_call, x_getf, x_iceq, x_ifeq, x_ifne, x_iret, x_ldc]
              exact HX _ _ g6 (eu.trans e6) (xt f5 x6)
          · rw [if_neg c5] at eu
            simp only [c5, ↓reduceIte]
            try simp -implicitDefEqProofs (disch := first | assumption | omega) only [szS_0, szS_i, szS_r, szS_l, x_cons, x_goto, ob_some, kl_i, kl_r, kl_l, kl_n, push_n, push_s, pop_0, pop_i, pop_r, Int.reduceToNat, List.length_cons, List.length_nil, Nat.reduceAdd, Nat.reduceLeDiff, Nat.zero_add, true_and, nI_n0, nat_le, Nat.add_zero, rt_mo_aFork_0, rt_mo_aFork_1, rt_mo_aFork_b, x_al0, x_call, x_getf, x_iceq, x_ifeq, x_ifne, x_iret, x_ldc]
            exact HN _ _ g4 eu f4 i4
        · simp -implicitDefEqProofs (disch := first | assumption | omega) only [szS_0, szS_i, szS_r, szS_l, x_cons, x_goto, ob_some, kl_i, kl_r, kl_l, kl_n, push_n, push_s, pop_0, pop_i, pop_r, Int.reduceToNat, List.length_cons, List.length_nil, Nat.reduceAdd, Nat.reduceLeDiff, Nat.zero_add, true_and, nI_n0, nat_le, Nat.add_zero, rt_mo_aFork_0, rt_mo_aFork_1, rt_mo_aFork_b, x_al0, x_call, x_getf, x_iceq, x_ifeq, x_ifne, x_iret, x_ldc, ↓reduceIte]
          exact bad g4 (HX _ _ g4 (eu.trans (bn_l e4)) (xt f3 x4))
      · simp -implicitDefEqProofs (disch := first | assumption | omega) only [szS_0, szS_i, szS_r, szS_l, x_cons, x_goto, ob_some, kl_i, kl_r, kl_l, kl_n, push_n, push_s, pop_0, pop_i, pop_r, Int.reduceToNat, List.length_cons, List.length_nil, Nat.reduceAdd, Nat.reduceLeDiff, Nat.zero_add, true_and, nI_n0, nat_le, Nat.add_zero, rt_mo_aFork_0, rt_mo_aFork_1, rt_mo_aFork_b, x_al0, x_call, x_getf, x_iceq, x_ifeq, x_ifne, x_iret, x_ldc, ↓reduceIte]
        exact bad g3 (HX _ _ g3 (eu.trans (bn_l e3)) (xt f2 x3))
    · simp -implicitDefEqProofs (disch := first | assumption | omega) only [szS_0, szS_i, szS_r, szS_l, x_cons, x_goto, ob_some, kl_i, kl_r, kl_l, kl_n, push_n, push_s, pop_0, pop_i, pop_r, Int.reduceToNat, List.length_cons, List.length_nil, Nat.reduceAdd, Nat.reduceLeDiff, Nat.zero_add, true_and, nI_n0, nat_le, Nat.add_zero, rt_mo_aFork_0, rt_mo_aFork_1, rt_mo_aFork_b, x_al0, x_call, x_getf, x_iceq, x_ifeq, x_ifne, x_iret, x_ldc, ↓reduceIte]
      exact bad g2 (HX _ _ g2 (eu.trans (bn_l e2)) (xt f1 x2))
  · simp -implicitDefEqProofs (disch := first | assumption | omega) only [szS_0, szS_i, szS_r, szS_l, x_cons, x_goto, ob_some, kl_i, kl_r, kl_l, kl_n, push_n, push_s, pop_0, pop_i, pop_r, Int.reduceToNat, List.length_cons, List.length_nil, Nat.reduceAdd, Nat.reduceLeDiff, Nat.zero_add, true_and, nI_n0, nat_le, Nat.add_zero, rt_mo_aFork_0, rt_mo_aFork_1, rt_mo_aFork_b, x_al0, x_call, x_getf, x_iceq, x_ifeq, x_ifne, x_iret, x_ldc, ↓reduceIte]
    exact bad g1 (HX _ _ g1 (eu.trans (bn_l e1)) x1)
theorem s_dtown (h : dIn T n i m v g) (HN : ∀ v' j g', twF T n m v i = .inr (v', j) → dFr m g g' → dIn T n j m v' g' → P (some (.int (nI 1))) (E g' q)) (HX : ∀ f j g', twF T n m v i = .inl (f, j) → dXm T n m f j g g' → P (some (.int (nI 0))) (E g' q)) : callC (ev (d + 13)) mo_aTown [.ref 196] (E g q) P := by
  refine in_mo_aTown rfl ?_
  have n10 : (nI 1 = nI 0) = False := eq_false (by decide)
  have eu : twF T n m v i = bn (nuF T n 5 0 999 v i) fun v i => bn (wdF T n 14 v i) fun v i => bn (nuF T n 6 1 999 v i) fun v i => bn (wdF T n 13 v i) fun v i => arF T n m 0 v i := rfl
  have xt : ∀ {f j : Nat} {g1 g2 : Nat → Nat → Int32}, dFr m g g1 → dXm T n m f j g1 g2 → dXm T n m f j g g2 := fun h x => ⟨dFr_t h x.1, x.2⟩
  have bad : ∀ g2, P (some (.int (nI 0))) (E g2 q) → wp (ev (d + 12)) P mo_aTown 55 [some (.ref 196)] [] (E g2 q) := fun g2 hp => by
    rw [b_mo_aTown_55]
    simp -implicitDefEqProofs (disch := first | assumption | omega) only [szS_0, szS_i, szS_r, szS_l, x_cons, x_goto, ob_some, kl_i, kl_r, kl_l, kl_n, push_n, push_s, pop_0, pop_i, pop_r, Int.reduceToNat, List.length_cons, List.length_nil, Nat.reduceAdd, Nat.reduceLeDiff, Nat.zero_add, true_and, nI_n0, nat_le, Nat.add_zero, rt_mo_aTown_0, rt_mo_aTown_1, rt_mo_aTown_b, x_al0, x_call, x_goto, x_ifeq, x_iret, x_ldc, b_mo_aTown_56]
    exact hp
  rw [b_mo_aTown_0]
  simp -implicitDefEqProofs (disch := first | assumption | omega) only [szS_0, szS_i, szS_r, szS_l, x_cons, x_goto, ob_some, kl_i, kl_r, kl_l, kl_n, push_n, push_s, pop_0, pop_i, pop_r, Int.reduceToNat, List.length_cons, List.length_nil, Nat.reduceAdd, Nat.reduceLeDiff, Nat.zero_add, true_and, nI_n0, nat_le, Nat.add_zero, rt_mo_aTown_0, rt_mo_aTown_1, rt_mo_aTown_b, x_al0, x_call, x_goto, x_ifeq, x_iret, x_ldc]
  refine s_dnum (d := d + 1) (by decide) (by decide) (by decide) h (fun g1 e1 _ _ _ f1 i1 => ?_) fun f j g1 e1 _ x1 => ?_
  · rw [bn_r e1] at eu
    simp -implicitDefEqProofs (disch := first | assumption | omega) only [szS_0, szS_i, szS_r, szS_l, x_cons, x_goto, ob_some, kl_i, kl_r, kl_l, kl_n, push_n, push_s, pop_0, pop_i, pop_r, Int.reduceToNat, List.length_cons, List.length_nil, Nat.reduceAdd, Nat.reduceLeDiff, Nat.zero_add, true_and, nI_n0, nat_le, Nat.add_zero, rt_mo_aTown_0, rt_mo_aTown_1, rt_mo_aTown_b, x_al0, x_call, x_goto, x_ifeq, x_iret, x_ldc, n10, ↓reduceIte]
    refine s_dwd (d := d + 1) (c := 14) (by decide) i1 (fun g2 e2 f2 i2 => ?_) fun g2 e2 x2 => ?_
    · rw [bn_r e2] at eu
      have f2 := dFr_t f1 f2
      simp -implicitDefEqProofs (disch := first | assumption | omega) only [szS_0, szS_i, szS_r, szS_l, x_cons, x_goto, ob_some, kl_i, kl_r, kl_l, kl_n, push_n, push_s, pop_0, pop_i, pop_r, Int.reduceToNat, List.length_cons, List.length_nil, Nat.reduceAdd, Nat.reduceLeDiff, Nat.zero_add, true_and, nI_n0, nat_le, Nat.add_zero, rt_mo_aTown_0, rt_mo_aTown_1, rt_mo_aTown_b, x_al0, x_call, x_goto, x_ifeq, x_iret, x_ldc, n10, ↓reduceIte]
      refine s_dnum (d := d + 1) (by decide) (by decide) (by decide) i2 (fun g3 e3 _ _ _ f3 i3 => ?_) fun f j g3 e3 _ x3 => ?_
      · rw [bn_r e3] at eu
        have f3 := dFr_t f2 f3
        simp -implicitDefEqProofs (disch := first | assumption | omega) only [szS_0, szS_i, szS_r, szS_l, x_cons, x_goto, ob_some, kl_i, kl_r, kl_l, kl_n, push_n, push_s, pop_0, pop_i, pop_r, Int.reduceToNat, List.length_cons, List.length_nil, Nat.reduceAdd, Nat.reduceLeDiff, Nat.zero_add, true_and, nI_n0, nat_le, Nat.add_zero, rt_mo_aTown_0, rt_mo_aTown_1, rt_mo_aTown_b, x_al0, x_call, x_goto, x_ifeq, x_iret, x_ldc, n10, ↓reduceIte]
        refine s_dwd (d := d + 1) (c := 13) (by decide) i3 (fun g4 e4 f4 i4 => ?_) fun g4 e4 x4 => ?_
        · rw [bn_r e4] at eu
          have f4 := dFr_t f3 f4
          simp -implicitDefEqProofs (disch := first | assumption | omega) only [szS_0, szS_i, szS_r, szS_l, x_cons, x_goto, ob_some, kl_i, kl_r, kl_l, kl_n, push_n, push_s, pop_0, pop_i, pop_r, Int.reduceToNat, List.length_cons, List.length_nil, Nat.reduceAdd, Nat.reduceLeDiff, Nat.zero_add, true_and, nI_n0, nat_le, Nat.add_zero, rt_mo_aTown_0, rt_mo_aTown_1, rt_mo_aTown_b, x_al0, x_call, x_goto, x_ifeq, x_iret, x_ldc, n10, ↓reduceIte]
          refine s_darm (d := d) (by decide) i4 (fun g5 e5 f5 i5 => ?_) fun f j g5 e5 x5 => ?_
          · simp -implicitDefEqProofs (disch := first | assumption | omega) only [szS_0, szS_i, szS_r, szS_l, x_cons, x_goto, ob_some, kl_i, kl_r, kl_l, kl_n, push_n, push_s, pop_0, pop_i, pop_r, Int.reduceToNat, List.length_cons, List.length_nil, Nat.reduceAdd, Nat.reduceLeDiff, Nat.zero_add, true_and, nI_n0, nat_le, Nat.add_zero, rt_mo_aTown_0, rt_mo_aTown_1, rt_mo_aTown_b, x_al0, x_call, x_goto, x_ifeq, x_iret, x_ldc, n10, ↓reduceIte, b_mo_aTown_56]
            exact HN _ _ g5 (eu.trans e5) (dFr_t f4 f5) i5
          · simp -implicitDefEqProofs (disch := first | assumption | omega) only [szS_0, szS_i, szS_r, szS_l, x_cons, x_goto, ob_some, kl_i, kl_r, kl_l, kl_n, push_n, push_s, pop_0, pop_i, pop_r, Int.reduceToNat, List.length_cons, List.length_nil, Nat.reduceAdd, Nat.reduceLeDiff, Nat.zero_add, true_and, nI_n0, nat_le, Nat.add_zero, rt_mo_aTown_0, rt_mo_aTown_1, rt_mo_aTown_b, x_al0, x_call, x_goto, x_ifeq, x_iret, x_ldc, ↓reduceIte]
            exact bad g5 (HX _ _ g5 (eu.trans e5) (xt f4 x5))
        · simp -implicitDefEqProofs (disch := first | assumption | omega) only [szS_0, szS_i, szS_r, szS_l, x_cons, x_goto, ob_some, kl_i, kl_r, kl_l, kl_n, push_n, push_s, pop_0, pop_i, pop_r, Int.reduceToNat, List.length_cons, List.length_nil, Nat.reduceAdd, Nat.reduceLeDiff, Nat.zero_add, true_and, nI_n0, nat_le, Nat.add_zero, rt_mo_aTown_0, rt_mo_aTown_1, rt_mo_aTown_b, x_al0, x_call, x_goto, x_ifeq, x_iret, x_ldc, ↓reduceIte]
          exact bad g4 (HX _ _ g4 (eu.trans (bn_l e4)) (xt f3 x4))
      · simp -implicitDefEqProofs (disch := first | assumption | omega) only [szS_0, szS_i, szS_r, szS_l, x_cons, x_goto, ob_some, kl_i, kl_r, kl_l, kl_n, push_n, push_s, pop_0, pop_i, pop_r, Int.reduceToNat, List.length_cons, List.length_nil, Nat.reduceAdd, Nat.reduceLeDiff, Nat.zero_add, true_and, nI_n0, nat_le, Nat.add_zero, rt_mo_aTown_0, rt_mo_aTown_1, rt_mo_aTown_b, x_al0, x_call, x_goto, x_ifeq, x_iret, x_ldc, ↓reduceIte]
        exact bad g3 (HX _ _ g3 (eu.trans (bn_l e3)) (xt f2 x3))
    · simp -implicitDefEqProofs (disch := first | assumption | omega) only [szS_0, szS_i, szS_r, szS_l, x_cons, x_goto, ob_some, kl_i, kl_r, kl_l, kl_n, push_n, push_s, pop_0, pop_i, pop_r, Int.reduceToNat, List.length_cons, List.length_nil, Nat.reduceAdd, Nat.reduceLeDiff, Nat.zero_add, true_and, nI_n0, nat_le, Nat.add_zero, rt_mo_aTown_0, rt_mo_aTown_1, rt_mo_aTown_b, x_al0, x_call, x_goto, x_ifeq, x_iret, x_ldc, ↓reduceIte]
      exact bad g2 (HX _ _ g2 (eu.trans (bn_l e2)) (xt f1 x2))
  · simp -implicitDefEqProofs (disch := first | assumption | omega) only [szS_0, szS_i, szS_r, szS_l, x_cons, x_goto, ob_some, kl_i, kl_r, kl_l, kl_n, push_n, push_s, pop_0, pop_i, pop_r, Int.reduceToNat, List.length_cons, List.length_nil, Nat.reduceAdd, Nat.reduceLeDiff, Nat.zero_add, true_and, nI_n0, nat_le, Nat.add_zero, rt_mo_aTown_0, rt_mo_aTown_1, rt_mo_aTown_b, x_al0, x_call, x_goto, x_ifeq, x_iret, x_ldc, ↓reduceIte]
    exact bad g1 (HX _ _ g1 (eu.trans (bn_l e1)) x1)
/-- eight places of the fresh node are cleared -/
theorem cz_lp {s : Int32} (h15 : g 196 15 = nI m) (hm : m < 16) (H : ∀ r, (∀ x, x < 8 * m → r x = g 203 x) → (∀ f, f < 8 → r (8 * m + f) = nI 0) → wp (ev d) P mo_aNode 67 [some (.ref 196), some (.int s), some (.int (nI 8))] [] (E (upw g 203 r) q)) : ∀ (j k : Nat) (r : Nat → Int32), k + j = 8 → (∀ x, x < 8 * m → r x = g 203 x) → (∀ f, f < k → r (8 * m + f) = nI 0) →
    wp (ev d) P mo_aNode 40 [some (.ref 196), some (.int s), some (.int (nI k))] [] (E (upw g 203 r) q) := by
  intro j
  induction j with
  | zero =>
    intro k r hk h1 h2
    have hk : k = 8 := hk
    subst hk
    rw [b_mo_aNode_40]
    simp -implicitDefEqProofs (disch := first | assumption | omega) only [szS_0, szS_i, szS_r, szS_l, x_cons, x_goto, ob_some, kl_i, kl_r, kl_l, kl_n, push_n, push_s, pop_0, pop_i, pop_r, Int.reduceToNat, List.length_cons, List.length_nil, Nat.reduceAdd, Nat.reduceLeDiff, Nat.zero_add, true_and, nI_n0, nat_le, Nat.add_zero, i_1, rt_mo_aNode_0, rt_mo_aNode_1, rt_mo_aNode_b, x_al0, x_call, x_dupi, x_dupr, x_getf, x_goto, x_iadd, x_iastore, x_icge, x_icne, x_ifeq, x_ifne, x_il1, x_il2, x_imul, x_inc2, x_iret, x_is1, x_is2, x_isub, x_ldc, x_putf, nI_ltE, Nat.lt_irrefl, ↓reduceIte]
    exact H r h1 h2
  | succ j ih =>
    intro k r hk h1 h2
    have hk' : k < 8 := by omega
    have l8 : 8 * m + k < 128 := by omega
    rw [b_mo_aNode_40]
    simp -implicitDefEqProofs (disch := first | assumption | omega) only [szS_0, szS_i, szS_r, szS_l, x_cons, x_goto, ob_some, kl_i, kl_r, kl_l, kl_n, push_n, push_s, pop_0, pop_i, pop_r, Int.reduceToNat, List.length_cons, List.length_nil, Nat.reduceAdd, Nat.reduceLeDiff, Nat.zero_add, true_and, nI_n0, nat_le, Nat.add_zero, i_1, rt_mo_aNode_0, rt_mo_aNode_1, rt_mo_aNode_b, x_al0, x_call, x_dupi, x_dupr, x_getf, x_goto, x_iadd, x_iastore, x_icge, x_icne, x_ifeq, x_ifne, x_il1, x_il2, x_imul, x_inc2, x_iret, x_is1, x_is2, x_isub, x_ldc, x_putf, nI_ltE, hk', ↓reduceIte, fd_196_0, fd_196_1, fd_196_2, fd_196_3, fd_196_4, sf_196_4, fd_196_5, sf_196_5, fd_196_6, fd_196_7, fd_196_8, fd_196_9, fd_196_10, fd_196_11, fd_196_12, sf_196_12, fd_196_13, sf_196_13, fd_196_14, sf_196_14, fd_196_15, sf_196_15, fd_196_16, sf_196_16, fd_196_17, sf_196_17, fd_196_18, sf_196_18, fd_196_19, sf_196_19, fd_196_20, sf_196_20, fd_196_21, sf_196_21, fd_196_22, sf_196_22, fd_196_23, sf_196_23, fd_196_24, sf_196_24, fd_196_25, sf_196_25, fd_196_26, sf_196_26, fd_196_27, fd_196_28, fd_196_29, fd_196_30, sf_196_30, fd_196_31, fd_196_32, fd_196_33, fd_196_34, fd_196_35, fd_196_36, fd_196_37, sf_196_37, fd_196_38, fd_196_39, sf_196_39, fd_196_40, sf_196_40, fd_196_41, sf_196_41, fd_196_42, fd_196_43, fd_196_44, upw_o, h15, nI_mul, nI_add, ld_203, sd_203, ln_203, pu_w]
    refine ih (k + 1) _ (by omega) (fun x hx => by rw [pu_n (by omega)]; exact h1 x hx) fun f hf => ?_
    by_cases e : f = k
    · rw [e, pu_s]
    · rw [pu_n (by omega)]
      exact h2 f (by omega)
theorem s_aNode {G : Nat} (hM : TT T n 0 g) (hT : mT T n 0 i g) (h15 : g 196 15 = nI m) (hm : m ≤ 16) (h16 : g 196 16 = nI G) (hG : G ≤ 15) (hi : kC T n 0 i ≠ 0)
    (HN : ∀ v j g', ndF T n m G i = .inr (v, j) → FR [203] [15, 16, 18, 19, 20, 21, 22, 23] g g' → (∀ x, x < 8 * m → g' 203 x = g 203 x) → TT T n 0 g' → mT T n 0 j g' → g' 196 15 = nI (m + 1) → mV m v g' → g' 196 16 = nI (v 7) → P (some (.int (nI 1))) (E g' q))
    (HX : ∀ f j g', ndF T n m G i = .inl (f, j) → FR [203] [15, 16, 18, 19, 20, 21, 22, 23] g g' → g' 196 22 = nI f → g' 196 23 = nI (kB T n j) → P (some (.int (nI 0))) (E g' q)) : callC (ev (d + 14)) mo_aNode [.ref 196] (E g q) P := by
  refine in_mo_aNode rfl ?_
  have n10 : (nI 1 = nI 0) = False := eq_false (by decide)
  have h19 := hT.2.1
  have hcc := kC_sm (T := T) (n := n) (m := i) (k := 0) (by decide)
  have eu : ndF T n m G i = if 10 ≤ kC T n 0 i ∧ kC T n 0 i ≤ 12 then (if m = 16 then .inl (3, i) else bn (inF T n m (kC T n 0 i - 10) G (i + 1)) fun v i => wdF T n 159 v i) else .inl (1, i) := rfl
  have xx : ∀ {f j : Nat} {g2 : Nat → Nat → Int32}, dXm T n m f j g g2 → ndF T n m G i = .inl (f, j) → P (some (.int (nI 0))) (E g2 q) := fun x e => HX _ _ _ e (FR_m rfl rfl x.1.1) x.2.1 x.2.2
  rw [b_mo_aNode_0]
  by_cases hs : 10 ≤ kC T n 0 i ∧ kC T n 0 i ≤ 12
  · have e10 : nI (kC T n 0 i) - nI 10 = nI (kC T n 0 i - 10) := nI_sub hs.1
    have dd : decide (nI 0 ≤ nI (kC T n 0 i - 10) ∧ nI (kC T n 0 i - 10) ≤ nI 2) = true := decide_eq_true (by rw [nI_leE (by decide) (by omega), nI_leE (by omega) (by decide)]; omega)
    rw [if_pos hs] at eu
    simp -implicitDefEqProofs (disch := first | assumption | omega) only [szS_0, szS_i, szS_r, szS_l, x_cons, x_goto, ob_some, kl_i, kl_r, kl_l, kl_n, push_n, push_s, pop_0, pop_i, pop_r, Int.reduceToNat, List.length_cons, List.length_nil, Nat.reduceAdd, Nat.reduceLeDiff, Nat.zero_add, true_and, nI_n0, nat_le, Nat.add_zero, i_1, rt_mo_aNode_0, rt_mo_aNode_1, rt_mo_aNode_b, x_al0, x_call, x_dupi, x_dupr, x_getf, x_goto, x_iadd, x_iastore, x_icge, x_icne, x_ifeq, x_ifne, x_il1, x_il2, x_imul, x_inc2, x_iret, x_is1, x_is2, x_isub, x_ldc, x_putf, fd_196_0, fd_196_1, fd_196_2, fd_196_3, fd_196_4, sf_196_4, fd_196_5, sf_196_5, fd_196_6, fd_196_7, fd_196_8, fd_196_9, fd_196_10, fd_196_11, fd_196_12, sf_196_12, fd_196_13, sf_196_13, fd_196_14, sf_196_14, fd_196_15, sf_196_15, fd_196_16, sf_196_16, fd_196_17, sf_196_17, fd_196_18, sf_196_18, fd_196_19, sf_196_19, fd_196_20, sf_196_20, fd_196_21, sf_196_21, fd_196_22, sf_196_22, fd_196_23, sf_196_23, fd_196_24, sf_196_24, fd_196_25, sf_196_25, fd_196_26, sf_196_26, fd_196_27, fd_196_28, fd_196_29, fd_196_30, sf_196_30, fd_196_31, fd_196_32, fd_196_33, fd_196_34, fd_196_35, fd_196_36, fd_196_37, sf_196_37, fd_196_38, fd_196_39, sf_196_39, fd_196_40, sf_196_40, fd_196_41, sf_196_41, fd_196_42, fd_196_43, fd_196_44, h19, e10, s_isIn, dd, bI_0, Bool.true_eq_false, ↓reduceIte, b_mo_aNode_23, h15, nI_eqE]
    obtain ⟨sr, hsr⟩ : ∃ sr, sr = kC T n 0 i - 10 := ⟨_, rfl⟩
    have hsr2 : sr ≤ 2 := by omega
    rw [← hsr] at eu ⊢
    by_cases m16 : m = 16
    · rw [if_pos m16] at eu
      simp only [m16, ↓reduceIte]
      try simp -implicitDefEqProofs (disch := first | assumption | omega) only [szS_0, szS_i, szS_r, szS_l, x_cons, x_goto, ob_some, kl_i, kl_r, kl_l, kl_n, push_n, push_s, pop_0, pop_i, pop_r, Int.reduceToNat, List.length_cons, List.length_nil, Nat.reduceAdd, Nat.reduceLeDiff, Nat.zero_add, true_and, nI_n0, nat_le, Nat.add_zero, i_1, rt_mo_aNode_0, rt_mo_aNode_1, rt_mo_aNode_b, x_al0, x_call, x_dupi, x_dupr, x_getf, x_goto, x_iadd, x_iastore, x_icge, x_icne, x_ifeq, x_ifne, x_il1, x_il2, x_imul, x_inc2, x_iret, x_is1, x_is2, x_isub, x_ldc, x_putf]
      refine s_dbad (d := d + 12) (m := m) hT fun g1 x1 => ?_
      simp -implicitDefEqProofs (disch := first | assumption | omega) only [szS_0, szS_i, szS_r, szS_l, x_cons, x_goto, ob_some, kl_i, kl_r, kl_l, kl_n, push_n, push_s, pop_0, pop_i, pop_r, Int.reduceToNat, List.length_cons, List.length_nil, Nat.reduceAdd, Nat.reduceLeDiff, Nat.zero_add, true_and, nI_n0, nat_le, Nat.add_zero, i_1, rt_mo_aNode_0, rt_mo_aNode_1, rt_mo_aNode_b, x_al0, x_call, x_dupi, x_dupr, x_getf, x_goto, x_iadd, x_iastore, x_icge, x_icne, x_ifeq, x_ifne, x_il1, x_il2, x_imul, x_inc2, x_iret, x_is1, x_is2, x_isub, x_ldc, x_putf]
      exact xx x1 eu
    · rw [if_neg m16] at eu
      have hm' : m < 16 := by omega
      have l8 : 8 * m < 128 := by omega
      simp only [m16, ↓reduceIte]
      try simp -implicitDefEqProofs (disch := first | assumption | omega) only [b_mo_aNode_38, szS_0, szS_i, szS_r, szS_l, x_cons, x_goto, ob_some, kl_i, kl_r, kl_l, kl_n, push_n, push_s, pop_0, pop_i, pop_r, Int.reduceToNat, List.length_cons, List.length_nil, Nat.reduceAdd, Nat.reduceLeDiff, Nat.zero_add, true_and, nI_n0, nat_le, Nat.add_zero, i_1, rt_mo_aNode_0, rt_mo_aNode_1, rt_mo_aNode_b, x_al0, x_call, x_dupi, x_dupr, x_getf, x_goto, x_iadd, x_iastore, x_icge, x_icne, x_ifeq, x_ifne, x_il1, x_il2, x_imul, x_inc2, x_iret, x_is1, x_is2, x_isub, x_ldc, x_putf]
      rw [show E g q = E (upw g 203 (g 203)) q by rw [upw_g]]
      refine cz_lp h15 hm' (fun r r1 r2 => ?_) 8 0 _ rfl (fun _ _ => rfl) fun f hf => absurd hf (Nat.not_lt_zero f)
      rw [b_mo_aNode_67]
      simp -implicitDefEqProofs (disch := first | assumption | omega) only [szS_0, szS_i, szS_r, szS_l, x_cons, x_goto, ob_some, kl_i, kl_r, kl_l, kl_n, push_n, push_s, pop_0, pop_i, pop_r, Int.reduceToNat, List.length_cons, List.length_nil, Nat.reduceAdd, Nat.reduceLeDiff, Nat.zero_add, true_and, nI_n0, nat_le, Nat.add_zero, i_1, rt_mo_aNode_0, rt_mo_aNode_1, rt_mo_aNode_b, x_al0, x_call, x_dupi, x_dupr, x_getf, x_goto, x_iadd, x_iastore, x_icge, x_icne, x_ifeq, x_ifne, x_il1, x_il2, x_imul, x_inc2, x_iret, x_is1, x_is2, x_isub, x_ldc, x_putf, fd_196_0, fd_196_1, fd_196_2, fd_196_3, fd_196_4, sf_196_4, fd_196_5, sf_196_5, fd_196_6, fd_196_7, fd_196_8, fd_196_9, fd_196_10, fd_196_11, fd_196_12, sf_196_12, fd_196_13, sf_196_13, fd_196_14, sf_196_14, fd_196_15, sf_196_15, fd_196_16, sf_196_16, fd_196_17, sf_196_17, fd_196_18, sf_196_18, fd_196_19, sf_196_19, fd_196_20, sf_196_20, fd_196_21, sf_196_21, fd_196_22, sf_196_22, fd_196_23, sf_196_23, fd_196_24, sf_196_24, fd_196_25, sf_196_25, fd_196_26, sf_196_26, fd_196_27, fd_196_28, fd_196_29, fd_196_30, sf_196_30, fd_196_31, fd_196_32, fd_196_33, fd_196_34, fd_196_35, fd_196_36, fd_196_37, sf_196_37, fd_196_38, fd_196_39, sf_196_39, fd_196_40, sf_196_40, fd_196_41, sf_196_41, fd_196_42, fd_196_43, fd_196_44, upw_o, h15, nI_mul, ld_203, sd_203, ln_203, pu_w]
      obtain ⟨g1, hg1⟩ : ∃ g1, g1 = upw g 203 (pu r (8 * m) (nI sr)) := ⟨_, rfl⟩
      have e1 : ∀ a, a ≠ 203 → g1 a = g a := fun a ha => by rw [hg1, upw_o ha]
      have e196 := e1 196 (by decide)
      rw [← hg1]
      refine s_dnx (d := d + 3) (i := i) (TT_f hM (e1 204 (by decide)) (by rw [e196]) (by rw [e196])) (mT_f hT (by rw [e196]) (by rw [e196]) (by rw [e196]) (by rw [e196])) fun g2 f2 t2 => ?_
      have i2 : dIn T n (i + 1) m (nd0 sr G) g2 := ⟨TT_f hM ((f2.1 204 (by decide) (by decide)).trans (e1 204 (by decide))) (by rw [f2.2 17 (by decide), e196]) (by rw [f2.2 12 (by decide), e196]), t2, by rw [f2.2 15 (by decide), e196]; exact h15, hm', fun f hf => by
        rw [f2.1 203 (by decide) (by decide), hg1, upw_s]
        by_cases e0 : f = 0
        · rw [e0, Nat.add_zero, pu_s]
          rfl
        · rw [pu_n (by omega), r2 f (by omega)]
          have : nd0 sr G f = 0 := by
            unfold nd0
            rw [unn_n (by omega), unn_n e0]
          rw [this], by rw [f2.2 16 (by decide), e196]; exact h16, hG⟩
      have f2' : dFr m g g2 := ⟨FR_t (g' := g1) (by rw [hg1]; exact FR_w rfl FR_r) (FR_m rfl rfl f2), fun x hx => by rw [f2.1 203 (by decide) (by decide), hg1, upw_s, pu_n (by omega)]; exact r1 x hx⟩
      have xt : ∀ {f j : Nat} {g1 g2 : Nat → Nat → Int32}, dFr m g g1 → dXm T n m f j g1 g2 → dXm T n m f j g g2 := fun h x => ⟨dFr_t h x.1, x.2⟩
      have bad : ∀ g2 o, P (some (.int (nI 0))) (E g2 q) → wp (ev (d + 13)) P mo_aNode 117 [some (.ref 196), some (.int (nI sr)), o] [] (E g2 q) := fun g2 o hp => by
        rw [b_mo_aNode_117]
        simp -implicitDefEqProofs (disch := first | assumption | omega) only [szS_0, szS_i, szS_r, szS_l, x_cons, x_goto, ob_some, kl_i, kl_r, kl_l, kl_n, push_n, push_s, pop_0, pop_i, pop_r, Int.reduceToNat, List.length_cons, List.length_nil, Nat.reduceAdd, Nat.reduceLeDiff, Nat.zero_add, true_and, nI_n0, nat_le, Nat.add_zero, i_1, rt_mo_aNode_0, rt_mo_aNode_1, rt_mo_aNode_b, x_al0, x_call, x_dupi, x_dupr, x_getf, x_goto, x_iadd, x_iastore, x_icge, x_icne, x_ifeq, x_ifne, x_il1, x_il2, x_imul, x_inc2, x_iret, x_is1, x_is2, x_isub, x_ldc, x_putf]
        exact hp
      have fin : ∀ v j g3, inF T n m sr G (i + 1) = .inr (v, j) → dFr m g g3 → dIn T n j m v g3 → wp (ev (d + 13)) P mo_aNode 107 [some (.ref 196), some (.int (nI sr)), some (.int (nI 8))] [] (E g3 q) := by
        intro v j g3 e3 f3 i3
        rw [bn_r e3] at eu
        rw [b_mo_aNode_107]
        simp -implicitDefEqProofs (disch := first | assumption | omega) only [szS_0, szS_i, szS_r, szS_l, x_cons, x_goto, ob_some, kl_i, kl_r, kl_l, kl_n, push_n, push_s, pop_0, pop_i, pop_r, Int.reduceToNat, List.length_cons, List.length_nil, Nat.reduceAdd, Nat.reduceLeDiff, Nat.zero_add, true_and, nI_n0, nat_le, Nat.add_zero, i_1, rt_mo_aNode_0, rt_mo_aNode_1, rt_mo_aNode_b, x_al0, x_call, x_dupi, x_dupr, x_getf, x_goto, x_iadd, x_iastore, x_icge, x_icne, x_ifeq, x_ifne, x_il1, x_il2, x_imul, x_inc2, x_iret, x_is1, x_is2, x_isub, x_ldc, x_putf]
        refine s_dwd (d := d + 2) (c := 159) (by decide) i3 (fun g4 e4 f4 i4 => ?_) fun g4 e4 x4 => ?_
        · have f4 := dFr_t f3 f4
          have k15 := i4.2.2.1
          simp -implicitDefEqProofs (disch := first | assumption | omega) only [szS_0, szS_i, szS_r, szS_l, x_cons, x_goto, ob_some, kl_i, kl_r, kl_l, kl_n, push_n, push_s, pop_0, pop_i, pop_r, Int.reduceToNat, List.length_cons, List.length_nil, Nat.reduceAdd, Nat.reduceLeDiff, Nat.zero_add, true_and, nI_n0, nat_le, Nat.add_zero, i_1, rt_mo_aNode_0, rt_mo_aNode_1, rt_mo_aNode_b, x_al0, x_call, x_dupi, x_dupr, x_getf, x_goto, x_iadd, x_iastore, x_icge, x_icne, x_ifeq, x_ifne, x_il1, x_il2, x_imul, x_inc2, x_iret, x_is1, x_is2, x_isub, x_ldc, x_putf, n10, ↓reduceIte, b_mo_aNode_119, fd_196_0, fd_196_1, fd_196_2, fd_196_3, fd_196_4, sf_196_4, fd_196_5, sf_196_5, fd_196_6, fd_196_7, fd_196_8, fd_196_9, fd_196_10, fd_196_11, fd_196_12, sf_196_12, fd_196_13, sf_196_13, fd_196_14, sf_196_14, fd_196_15, sf_196_15, fd_196_16, sf_196_16, fd_196_17, sf_196_17, fd_196_18, sf_196_18, fd_196_19, sf_196_19, fd_196_20, sf_196_20, fd_196_21, sf_196_21, fd_196_22, sf_196_22, fd_196_23, sf_196_23, fd_196_24, sf_196_24, fd_196_25, sf_196_25, fd_196_26, sf_196_26, fd_196_27, fd_196_28, fd_196_29, fd_196_30, sf_196_30, fd_196_31, fd_196_32, fd_196_33, fd_196_34, fd_196_35, fd_196_36, fd_196_37, sf_196_37, fd_196_38, fd_196_39, sf_196_39, fd_196_40, sf_196_40, fd_196_41, sf_196_41, fd_196_42, fd_196_43, fd_196_44, k15, nI_add, pu_g]
          have o1 : ∀ b, b ≠ 196 → upw g4 196 (pu (g4 196) 15 (nI (m + 1))) b = g4 b := fun b hb => upw_o hb
          exact HN v (j + 1) _ (eu.trans e4) (FR_p rfl (FR_m rfl rfl f4.1) (FR_m rfl rfl f4.1)) (fun x hx => by rw [o1 203 (by decide)]; exact f4.2 x hx) (TT_f i4.1 (o1 204 (by decide)) (by rw [upw_s, pu_n (by decide)]) (by rw [upw_s, pu_n (by decide)])) (mT_f i4.2.1 (by rw [upw_s, pu_n (by decide)]) (by rw [upw_s, pu_n (by decide)]) (by rw [upw_s, pu_n (by decide)]) (by rw [upw_s, pu_n (by decide)])) (by rw [upw_s, pu_s]) (fun f hf => by rw [o1 203 (by decide)]; exact i4.2.2.2.2.1 f hf) (by rw [upw_s, pu_n (by decide)]; exact i4.2.2.2.2.2.1)
        · simp -implicitDefEqProofs (disch := first | assumption | omega) only [szS_0, szS_i, szS_r, szS_l, x_cons, x_goto, ob_some, kl_i, kl_r, kl_l, kl_n, push_n, push_s, pop_0, pop_i, pop_r, Int.reduceToNat, List.length_cons, List.length_nil, Nat.reduceAdd, Nat.reduceLeDiff, Nat.zero_add, true_and, nI_n0, nat_le, Nat.add_zero, i_1, rt_mo_aNode_0, rt_mo_aNode_1, rt_mo_aNode_b, x_al0, x_call, x_dupi, x_dupr, x_getf, x_goto, x_iadd, x_iastore, x_icge, x_icne, x_ifeq, x_ifne, x_il1, x_il2, x_imul, x_inc2, x_iret, x_is1, x_is2, x_isub, x_ldc, x_putf, ↓reduceIte]
          exact bad g4 _ (xx (xt f3 x4) (eu.trans e4))
      have ei : inF T n m sr G (i + 1) = if sr = 0 then fkF T n m (nd0 sr G) (i + 1) else if sr = 1 then twF T n m (nd0 sr G) (i + 1) else .inr (nd0 sr G, i + 1) := rfl
      simp -implicitDefEqProofs (disch := first | assumption | omega) only [szS_0, szS_i, szS_r, szS_l, x_cons, x_goto, ob_some, kl_i, kl_r, kl_l, kl_n, push_n, push_s, pop_0, pop_i, pop_r, Int.reduceToNat, List.length_cons, List.length_nil, Nat.reduceAdd, Nat.reduceLeDiff, Nat.zero_add, true_and, nI_n0, nat_le, Nat.add_zero, i_1, rt_mo_aNode_0, rt_mo_aNode_1, rt_mo_aNode_b, x_al0, x_call, x_dupi, x_dupr, x_getf, x_goto, x_iadd, x_iastore, x_icge, x_icne, x_ifeq, x_ifne, x_il1, x_il2, x_imul, x_inc2, x_iret, x_is1, x_is2, x_isub, x_ldc, x_putf, nI_eqE]
      by_cases s0 : sr = 0
      · rw [if_pos s0] at ei
        have n01 : ¬ sr = 1 := by omega
        simp only [s0, ↓reduceIte]
        try simp -implicitDefEqProofs (disch := first | assumption | omega) only [szS_0, szS_i, szS_r, szS_l, x_cons, x_goto, ob_some, kl_i, kl_r, kl_l, kl_n, push_n, push_s, pop_0, pop_i, pop_r, Int.reduceToNat, List.length_cons, List.length_nil, Nat.reduceAdd, Nat.reduceLeDiff, Nat.zero_add, true_and, nI_n0, nat_le, Nat.add_zero, i_1, rt_mo_aNode_0, rt_mo_aNode_1, rt_mo_aNode_b, x_al0, x_call, x_dupi, x_dupr, x_getf, x_goto, x_iadd, x_iastore, x_icge, x_icne, x_ifeq, x_ifne, x_il1, x_il2, x_imul, x_inc2, x_iret, x_is1, x_is2, x_isub, x_ldc, x_putf]
        refine s_dfork (d := d) i2 (fun v j g3 e3 f3 i3 => ?_) fun f j g3 e3 x3 => ?_
        · have := fin v j g3 (ei.trans e3) (dFr_t f2' f3) i3
          rw [s0] at this
          simp -implicitDefEqProofs (disch := first | assumption | omega) only [szS_0, szS_i, szS_r, szS_l, x_cons, x_goto, ob_some, kl_i, kl_r, kl_l, kl_n, push_n, push_s, pop_0, pop_i, pop_r, Int.reduceToNat, List.length_cons, List.length_nil, Nat.reduceAdd, Nat.reduceLeDiff, Nat.zero_add, true_and, nI_n0, nat_le, Nat.add_zero, i_1, rt_mo_aNode_0, rt_mo_aNode_1, rt_mo_aNode_b, x_al0, x_call, x_dupi, x_dupr, x_getf, x_goto, x_iadd, x_iastore, x_icge, x_icne, x_ifeq, x_ifne, x_il1, x_il2, x_imul, x_inc2, x_iret, x_is1, x_is2, x_isub, x_ldc, x_putf, n10, ↓reduceIte, b_mo_aNode_95, nI_eqE, Nat.reduceEqDiff]
          exact this
        · have := bad g3 (some (.int (nI 8))) (xx (xt f2' x3) (eu.trans (bn_l (ei.trans e3))))
          rw [s0] at this
          simp -implicitDefEqProofs (disch := first | assumption | omega) only [szS_0, szS_i, szS_r, szS_l, x_cons, x_goto, ob_some, kl_i, kl_r, kl_l, kl_n, push_n, push_s, pop_0, pop_i, pop_r, Int.reduceToNat, List.length_cons, List.length_nil, Nat.reduceAdd, Nat.reduceLeDiff, Nat.zero_add, true_and, nI_n0, nat_le, Nat.add_zero, i_1, rt_mo_aNode_0, rt_mo_aNode_1, rt_mo_aNode_b, x_al0, x_call, x_dupi, x_dupr, x_getf, x_goto, x_iadd, x_iastore, x_icge, x_icne, x_ifeq, x_ifne, x_il1, x_il2, x_imul, x_inc2, x_iret, x_is1, x_is2, x_isub, x_ldc, x_putf, ↓reduceIte]
          exact this
      · rw [if_neg s0] at ei
        simp only [s0, ↓reduceIte]
        try simp -implicitDefEqProofs (disch := first | assumption | omega) only [b_mo_aNode_95, szS_0, szS_i, szS_r, szS_l, x_cons, x_goto, ob_some, kl_i, kl_r, kl_l, kl_n, push_n, push_s, pop_0, pop_i, pop_r, Int.reduceToNat, List.length_cons, List.length_nil, Nat.reduceAdd, Nat.reduceLeDiff, Nat.zero_add, true_and, nI_n0, nat_le, Nat.add_zero, i_1, rt_mo_aNode_0, rt_mo_aNode_1, rt_mo_aNode_b, x_al0, x_call, x_dupi, x_dupr, x_getf, x_goto, x_iadd, x_iastore, x_icge, x_icne, x_ifeq, x_ifne, x_il1, x_il2, x_imul, x_inc2, x_iret, x_is1, x_is2, x_isub, x_ldc, x_putf, nI_eqE]
        by_cases s1 : sr = 1
        · rw [if_pos s1] at ei
          simp only [s1, ↓reduceIte]
          try simp -implicitDefEqProofs (disch := first | assumption | omega) only [szS_0, szS_i, szS_r, szS_l, x_cons, x_goto, ob_some, kl_i, kl_r, kl_l, kl_n, push_n, push_s, pop_0, pop_i, pop_r, Int.reduceToNat, List.length_cons, List.length_nil, Nat.reduceAdd, Nat.reduceLeDiff, Nat.zero_add, true_and, nI_n0, nat_le, Nat.add_zero, i_1, rt_mo_aNode_0, rt_mo_aNode_1, rt_mo_aNode_b, x_al0, x_call, x_dupi, x_dupr, x_getf, x_goto, x_iadd, x_iastore, x_icge, x_icne, x_ifeq, x_ifne, x_il1, x_il2, x_imul, x_inc2, x_iret, x_is1, x_is2, x_isub, x_ldc, x_putf]
          refine s_dtown (d := d) i2 (fun v j g3 e3 f3 i3 => ?_) fun f j g3 e3 x3 => ?_
          · have := fin v j g3 (ei.trans e3) (dFr_t f2' f3) i3
            rw [s1] at this
            simp -implicitDefEqProofs (disch := first | assumption | omega) only [szS_0, szS_i, szS_r, szS_l, x_cons, x_goto, ob_some, kl_i, kl_r, kl_l, kl_n, push_n, push_s, pop_0, pop_i, pop_r, Int.reduceToNat, List.length_cons, List.length_nil, Nat.reduceAdd, Nat.reduceLeDiff, Nat.zero_add, true_and, nI_n0, nat_le, Nat.add_zero, i_1, rt_mo_aNode_0, rt_mo_aNode_1, rt_mo_aNode_b, x_al0, x_call, x_dupi, x_dupr, x_getf, x_goto, x_iadd, x_iastore, x_icge, x_icne, x_ifeq, x_ifne, x_il1, x_il2, x_imul, x_inc2, x_iret, x_is1, x_is2, x_isub, x_ldc, x_putf, n10, ↓reduceIte]
            exact this
          · have := bad g3 (some (.int (nI 8))) (xx (xt f2' x3) (eu.trans (bn_l (ei.trans e3))))
            rw [s1] at this
            simp -implicitDefEqProofs (disch := first | assumption | omega) only [szS_0, szS_i, szS_r, szS_l, x_cons, x_goto, ob_some, kl_i, kl_r, kl_l, kl_n, push_n, push_s, pop_0, pop_i, pop_r, Int.reduceToNat, List.length_cons, List.length_nil, Nat.reduceAdd, Nat.reduceLeDiff, Nat.zero_add, true_and, nI_n0, nat_le, Nat.add_zero, i_1, rt_mo_aNode_0, rt_mo_aNode_1, rt_mo_aNode_b, x_al0, x_call, x_dupi, x_dupr, x_getf, x_goto, x_iadd, x_iastore, x_icge, x_icne, x_ifeq, x_ifne, x_il1, x_il2, x_imul, x_inc2, x_iret, x_is1, x_is2, x_isub, x_ldc, x_putf, ↓reduceIte]
            exact this
        · rw [if_neg s1] at ei
          simp only [s1, ↓reduceIte]
          exact fin _ _ g2 ei f2' i2
  · rw [if_neg hs] at eu
    have dd : decide (nI 0 ≤ nI (kC T n 0 i) - nI 10 ∧ nI (kC T n 0 i) - nI 10 ≤ nI 2) = false := decide_eq_false fun h => by
      obtain ⟨z, hz, e⟩ := int_is h (by decide)
      have : nI (kC T n 0 i) = nI (z + 10) := by
        rw [← nI_add, ← e]
        exact (Int32.sub_add_cancel _ _).symm
      rw [nI_eqE hcc (by omega)] at this
      omega
    simp -implicitDefEqProofs (disch := first | assumption | omega) only [szS_0, szS_i, szS_r, szS_l, x_cons, x_goto, ob_some, kl_i, kl_r, kl_l, kl_n, push_n, push_s, pop_0, pop_i, pop_r, Int.reduceToNat, List.length_cons, List.length_nil, Nat.reduceAdd, Nat.reduceLeDiff, Nat.zero_add, true_and, nI_n0, nat_le, Nat.add_zero, i_1, rt_mo_aNode_0, rt_mo_aNode_1, rt_mo_aNode_b, x_al0, x_call, x_dupi, x_dupr, x_getf, x_goto, x_iadd, x_iastore, x_icge, x_icne, x_ifeq, x_ifne, x_il1, x_il2, x_imul, x_inc2, x_iret, x_is1, x_is2, x_isub, x_ldc, x_putf, fd_196_0, fd_196_1, fd_196_2, fd_196_3, fd_196_4, sf_196_4, fd_196_5, sf_196_5, fd_196_6, fd_196_7, fd_196_8, fd_196_9, fd_196_10, fd_196_11, fd_196_12, sf_196_12, fd_196_13, sf_196_13, fd_196_14, sf_196_14, fd_196_15, sf_196_15, fd_196_16, sf_196_16, fd_196_17, sf_196_17, fd_196_18, sf_196_18, fd_196_19, sf_196_19, fd_196_20, sf_196_20, fd_196_21, sf_196_21, fd_196_22, sf_196_22, fd_196_23, sf_196_23, fd_196_24, sf_196_24, fd_196_25, sf_196_25, fd_196_26, sf_196_26, fd_196_27, fd_196_28, fd_196_29, fd_196_30, sf_196_30, fd_196_31, fd_196_32, fd_196_33, fd_196_34, fd_196_35, fd_196_36, fd_196_37, sf_196_37, fd_196_38, fd_196_39, sf_196_39, fd_196_40, sf_196_40, fd_196_41, sf_196_41, fd_196_42, fd_196_43, fd_196_44, h19, s_isIn, dd, bI_0, ↓reduceIte]
    refine s_dbad (d := d + 12) (m := m) hT fun g1 x1 => ?_
    simp -implicitDefEqProofs (disch := first | assumption | omega) only [szS_0, szS_i, szS_r, szS_l, x_cons, x_goto, ob_some, kl_i, kl_r, kl_l, kl_n, push_n, push_s, pop_0, pop_i, pop_r, Int.reduceToNat, List.length_cons, List.length_nil, Nat.reduceAdd, Nat.reduceLeDiff, Nat.zero_add, true_and, nI_n0, nat_le, Nat.add_zero, i_1, rt_mo_aNode_0, rt_mo_aNode_1, rt_mo_aNode_b, x_al0, x_call, x_dupi, x_dupr, x_getf, x_goto, x_iadd, x_iastore, x_icge, x_icne, x_ifeq, x_ifne, x_il1, x_il2, x_imul, x_inc2, x_iret, x_is1, x_is2, x_isub, x_ldc, x_putf]
    exact xx x1 eu
end MD
