/-! both read a delta -/
def mVs (g : Nat → Nat → Int32) : Nat → List (Nat → Nat) → Prop
  | _, [] => True
  | m, v :: L => mV m v g ∧ mVs g (m + 1) L
theorem mVs_c {g g' : Nat → Nat → Int32} : ∀ {L : List (Nat → Nat)} {m : Nat}, (∀ x, x < 8 * (m + L.length) → g' 203 x = g 203 x) → mVs g m L → mVs g' m L
  | [], _, _, _ => trivial
  | v :: L, m, e, h => ⟨fun f hf => by rw [e _ (by rw [List.length_cons]; omega)]; exact h.1 f hf, mVs_c (fun x hx => e x (by rw [List.length_cons]; omega)) h.2⟩
def mDs (T : Nat → Nat) (n m : Nat) (L : List (Nat → Nat)) (G j : Nat) (g g' : Nat → Nat → Int32) : Prop := FR [203] [15, 16, 18, 19, 20, 21, 22, 23] g g' ∧ (∀ x, x < 8 * m → g' 203 x = g 203 x) ∧ TT T n 0 g' ∧ mT T n 0 j g' ∧ g' 196 15 = nI (m + L.length) ∧ g' 196 16 = nI G ∧ mVs g' m L
section MD2
variable {d : Nat} {g : Nat → Nat → Int32} {q : Nat → Nat → Int64} {P : QT} {T : Nat → Nat} {n i m : Nat} {v : Nat → Nat}
theorem rd_lp (hn : n ≤ 400) : ∀ (f i m G : Nat) (g : Nat → Nat → Int32), n + 1 ≤ i + f → TT T n 0 g → mT T n 0 i g → g 196 15 = nI m → m ≤ 16 → g 196 16 = nI G → G ≤ 15 → i ≤ n →
    (∀ L j G' g', nsF T n f i m G = .inr (L, (j, G')) → mDs T n m L G' j g g' → wp (ev (d + 14)) P mo_readsDelta 31 [some (.ref 196), some (.int (nI 1))] [] (E g' q)) → (∀ f' j g', nsF T n f i m G = .inl (f', j) → FR [203] [15, 16, 18, 19, 20, 21, 22, 23] g g' → g' 196 22 = nI f' → g' 196 23 = nI (kB T n j) → wp (ev (d + 14)) P mo_readsDelta 31 [some (.ref 196), some (.int (nI 0))] [] (E g' q)) →
    wp (ev (d + 14)) P mo_readsDelta 12 [some (.ref 196), some (.int (nI 1))] [] (E g q) := by
  intro f
  induction f with
  | zero =>
    intro i m G g hf _ _ _ _ _ _ hi
    omega
  | succ f ih =>
    intro i m G g hf hM hT h15 hm h16 hG hi HN HX
    have h19 := hT.2.1
    have hcc := kC_sm (T := T) (n := n) (m := i) (k := 0) (by decide)
    have n10 : (nI 1 = nI 0) = False := eq_false (by decide)
    have eu : nsF T n (f + 1) i m G = if kC T n 0 i = 0 then .inr ([], (i, G)) else bl (ndF T n m G i) fun v j => cl_ v (nsF T n f j (m + 1) (v 7)) := rfl
    rw [b_mo_readsDelta_12]
    simp -implicitDefEqProofs (disch := first | assumption | omega) only [szS_0, szS_i, szS_r, szS_l, x_cons, x_goto, ob_some, kl_i, kl_r, kl_l, kl_n, push_n, push_s, pop_0, pop_i, pop_r, Int.reduceToNat, List.length_cons, List.length_nil, Nat.reduceAdd, Nat.reduceLeDiff, Nat.zero_add, true_and, nI_n0, nat_le, Nat.add_zero, rt_mo_readsDelta_0, rt_mo_readsDelta_1, rt_mo_readsDelta_b, x_al0, x_call, x_getf, x_goto, x_icgt, x_ifeq, x_ifne, x_il1, x_iret, x_is1, x_ldc, x_putf, n10, ↓reduceIte, fd_196_0, fd_196_1, fd_196_2, fd_196_3, fd_196_4, sf_196_4, fd_196_5, sf_196_5, fd_196_6, fd_196_7, fd_196_8, fd_196_9, fd_196_10, fd_196_11, fd_196_12, sf_196_12, fd_196_13, sf_196_13, fd_196_14, sf_196_14, fd_196_15, sf_196_15, fd_196_16, sf_196_16, fd_196_17, sf_196_17, fd_196_18, sf_196_18, fd_196_19, sf_196_19, fd_196_20, sf_196_20, fd_196_21, sf_196_21, fd_196_22, sf_196_22, fd_196_23, sf_196_23, fd_196_24, sf_196_24, fd_196_25, sf_196_25, fd_196_26, sf_196_26, fd_196_27, fd_196_28, fd_196_29, fd_196_30, sf_196_30, fd_196_31, fd_196_32, fd_196_33, fd_196_34, fd_196_35, fd_196_36, fd_196_37, sf_196_37, fd_196_38, fd_196_39, sf_196_39, fd_196_40, sf_196_40, fd_196_41, sf_196_41, fd_196_42, fd_196_43, fd_196_44, h19, nI_eqE]
    by_cases h0 : kC T n 0 i = 0
    · rw [if_pos h0] at eu
      simp only [h0, ↓reduceIte]
      exact HN _ _ _ g eu ⟨FR_r, fun _ _ => rfl, hM, hT, h15, h16, trivial⟩
    · rw [if_neg h0] at eu
      simp only [h0, ↓reduceIte]
      try simp -implicitDefEqProofs (disch := first | assumption | omega) only [szS_0, szS_i, szS_r, szS_l, x_cons, x_goto, ob_some, kl_i, kl_r, kl_l, kl_n, push_n, push_s, pop_0, pop_i, pop_r, Int.reduceToNat, List.length_cons, List.length_nil, Nat.reduceAdd, Nat.reduceLeDiff, Nat.zero_add, true_and, nI_n0, nat_le, Nat.add_zero, rt_mo_readsDelta_0, rt_mo_readsDelta_1, rt_mo_readsDelta_b, x_al0, x_call, x_getf, x_goto, x_icgt, x_ifeq, x_ifne, x_il1, x_iret, x_is1, x_ldc, x_putf]
      refine s_aNode (d := d) hM hT h15 hm h16 hG h0 (fun v j g1 e f1 r1 M1 T1 e15 V1 e16 => ?_) fun f' j g1 e f1 e22 e23 => ?_
      · have a := ndF_k hG e
        simp -implicitDefEqProofs (disch := first | assumption | omega) only [szS_0, szS_i, szS_r, szS_l, x_cons, x_goto, ob_some, kl_i, kl_r, kl_l, kl_n, push_n, push_s, pop_0, pop_i, pop_r, Int.reduceToNat, List.length_cons, List.length_nil, Nat.reduceAdd, Nat.reduceLeDiff, Nat.zero_add, true_and, nI_n0, nat_le, Nat.add_zero, rt_mo_readsDelta_0, rt_mo_readsDelta_1, rt_mo_readsDelta_b, x_al0, x_call, x_getf, x_goto, x_icgt, x_ifeq, x_ifne, x_il1, x_iret, x_is1, x_ldc, x_putf]
        refine ih j (m + 1) (v 7) g1 (by have := a.2.2.1; omega) M1 T1 e15 (by have := a.2.1; omega) e16 a.1.1.2.2.2.2.1 a.2.2.2 (fun L j' G' g2 e2 m2 => ?_) fun f' j' g2 e2 f2 x22 x23 => ?_
        · obtain ⟨b1, b2, b3, b4, b5, b6, b7⟩ := m2
          exact HN _ _ _ g2 (eu.trans ((bl_r e).trans (cl_r e2))) ⟨FR_t f1 b1, fun x hx => by rw [b2 x (by omega)]; exact r1 x hx, b3, b4, by rw [b5, List.length_cons]; congr 1; omega, b6, fun f hf => by rw [b2 _ (by omega)]; exact V1 f hf, b7⟩
        · exact HX _ _ g2 (eu.trans ((bl_r e).trans (cl_l e2))) (FR_t f1 f2) x22 x23
      · simp -implicitDefEqProofs (disch := first | assumption | omega) only [szS_0, szS_i, szS_r, szS_l, x_cons, x_goto, ob_some, kl_i, kl_r, kl_l, kl_n, push_n, push_s, pop_0, pop_i, pop_r, Int.reduceToNat, List.length_cons, List.length_nil, Nat.reduceAdd, Nat.reduceLeDiff, Nat.zero_add, true_and, nI_n0, nat_le, Nat.add_zero, rt_mo_readsDelta_0, rt_mo_readsDelta_1, rt_mo_readsDelta_b, x_al0, x_call, x_getf, x_goto, x_icgt, x_ifeq, x_ifne, x_il1, x_iret, x_is1, x_ldc, x_putf, b_mo_readsDelta_12, ↓reduceIte]
        exact HX _ _ g1 (eu.trans (bl_l e)) f1 e22 e23
theorem s_readsDelta (hM : TT T n 0 g) (hT : mT T n 0 0 g) (HN : ∀ L g', dlF T n = .inr L → FR [203] [15, 16, 18, 19, 20, 21, 22, 23] g g' → g' 196 15 = nI L.length → mVs g' 0 L → P (some (.int (nI 1))) (E g' q)) (HX : ∀ f' j g', dlF T n = .inl (f', j) → FR [203] [15, 16, 18, 19, 20, 21, 22, 23] g g' → g' 196 22 = nI f' → g' 196 23 = nI (kB T n j) → P (some (.int (nI 0))) (E g' q)) : callC (ev (d + 15)) mo_readsDelta [.ref 196] (E g q) P := by
  refine in_mo_readsDelta rfl ?_
  have hn := hM.2.1
  have n10 : (nI 1 = nI 0) = False := eq_false (by decide)
  obtain ⟨g1, hg1⟩ : ∃ g1, g1 = upw g 196 (pu (pu (g 196) 15 (nI 0)) 16 (nI 0)) := ⟨_, rfl⟩
  have e1 : ∀ b, b ≠ 196 → g1 b = g b := fun b hb => by rw [hg1, upw_o hb]
  have e2 : ∀ x, x ≠ 15 → x ≠ 16 → g1 196 x = g 196 x := fun x x1 x2 => by rw [hg1, upw_s, pu_n x2, pu_n x1]
  have f1 : FR [203] [15, 16, 18, 19, 20, 21, 22, 23] g g1 := ⟨fun a a1 _ => e1 a a1, fun x hx => e2 x (fun e => hx (by rw [e]; decide)) (fun e => hx (by rw [e]; decide))⟩
  rw [b_mo_readsDelta_0]
  simp -implicitDefEqProofs (disch := first | assumption | omega) only [szS_0, szS_i, szS_r, szS_l, x_cons, x_goto, ob_some, kl_i, kl_r, kl_l, kl_n, push_n, push_s, pop_0, pop_i, pop_r, Int.reduceToNat, List.length_cons, List.length_nil, Nat.reduceAdd, Nat.reduceLeDiff, Nat.zero_add, true_and, nI_n0, nat_le, Nat.add_zero, rt_mo_readsDelta_0, rt_mo_readsDelta_1, rt_mo_readsDelta_b, x_al0, x_call, x_getf, x_goto, x_icgt, x_ifeq, x_ifne, x_il1, x_iret, x_is1, x_ldc, x_putf, fd_196_0, fd_196_1, fd_196_2, fd_196_3, fd_196_4, sf_196_4, fd_196_5, sf_196_5, fd_196_6, fd_196_7, fd_196_8, fd_196_9, fd_196_10, fd_196_11, fd_196_12, sf_196_12, fd_196_13, sf_196_13, fd_196_14, sf_196_14, fd_196_15, sf_196_15, fd_196_16, sf_196_16, fd_196_17, sf_196_17, fd_196_18, sf_196_18, fd_196_19, sf_196_19, fd_196_20, sf_196_20, fd_196_21, sf_196_21, fd_196_22, sf_196_22, fd_196_23, sf_196_23, fd_196_24, sf_196_24, fd_196_25, sf_196_25, fd_196_26, sf_196_26, fd_196_27, fd_196_28, fd_196_29, fd_196_30, sf_196_30, fd_196_31, fd_196_32, fd_196_33, fd_196_34, fd_196_35, fd_196_36, fd_196_37, sf_196_37, fd_196_38, fd_196_39, sf_196_39, fd_196_40, sf_196_40, fd_196_41, sf_196_41, fd_196_42, fd_196_43, fd_196_44, pu_g, pu_w, upw_s, upw_w]
  rw [← hg1]
  refine rd_lp hn 401 0 0 0 g1 (by omega) (TT_f hM (e1 204 (by decide)) (e2 17 (by decide) (by decide)) (e2 12 (by decide) (by decide))) (mT_f hT (e2 18 (by decide) (by decide)) (e2 19 (by decide) (by decide)) (e2 20 (by decide) (by decide)) (e2 21 (by decide) (by decide))) (by rw [hg1, upw_s, pu_n (by decide), pu_s]) (by decide) (by rw [hg1, upw_s, pu_s]) (by decide) (Nat.zero_le _) (fun L j G' g2 e m2 => ?_) fun f' j g2 e f2 x22 x23 => ?_
  · obtain ⟨b1, b2, b3, b4, b5, b6, b7⟩ := m2
    obtain ⟨k1, k2, k3, k4, k5⟩ := nsF_k 401 0 0 0 (Nat.zero_le _) (by decide) (by decide) e
    have ed : dlF T n = if G' < L.length then .inr L else .inl (4, j) := by
      unfold dlF
      rw [e]
    rw [Nat.zero_add] at b5
    rw [b_mo_readsDelta_31]
    simp -implicitDefEqProofs (disch := first | assumption | omega) only [szS_0, szS_i, szS_r, szS_l, x_cons, x_goto, ob_some, kl_i, kl_r, kl_l, kl_n, push_n, push_s, pop_0, pop_i, pop_r, Int.reduceToNat, List.length_cons, List.length_nil, Nat.reduceAdd, Nat.reduceLeDiff, Nat.zero_add, true_and, nI_n0, nat_le, Nat.add_zero, rt_mo_readsDelta_0, rt_mo_readsDelta_1, rt_mo_readsDelta_b, x_al0, x_call, x_getf, x_goto, x_icgt, x_ifeq, x_ifne, x_il1, x_iret, x_is1, x_ldc, x_putf, n10, ↓reduceIte, b_mo_readsDelta_37, fd_196_0, fd_196_1, fd_196_2, fd_196_3, fd_196_4, sf_196_4, fd_196_5, sf_196_5, fd_196_6, fd_196_7, fd_196_8, fd_196_9, fd_196_10, fd_196_11, fd_196_12, sf_196_12, fd_196_13, sf_196_13, fd_196_14, sf_196_14, fd_196_15, sf_196_15, fd_196_16, sf_196_16, fd_196_17, sf_196_17, fd_196_18, sf_196_18, fd_196_19, sf_196_19, fd_196_20, sf_196_20, fd_196_21, sf_196_21, fd_196_22, sf_196_22, fd_196_23, sf_196_23, fd_196_24, sf_196_24, fd_196_25, sf_196_25, fd_196_26, sf_196_26, fd_196_27, fd_196_28, fd_196_29, fd_196_30, sf_196_30, fd_196_31, fd_196_32, fd_196_33, fd_196_34, fd_196_35, fd_196_36, fd_196_37, sf_196_37, fd_196_38, fd_196_39, sf_196_39, fd_196_40, sf_196_40, fd_196_41, sf_196_41, fd_196_42, fd_196_43, fd_196_44, b5, b6, nI_ltE]
    by_cases hl : G' < L.length
    · rw [if_pos hl] at ed
      simp only [hl, ↓reduceIte]
      try simp -implicitDefEqProofs (disch := first | assumption | omega) only [b_mo_readsDelta_56, szS_0, szS_i, szS_r, szS_l, x_cons, x_goto, ob_some, kl_i, kl_r, kl_l, kl_n, push_n, push_s, pop_0, pop_i, pop_r, Int.reduceToNat, List.length_cons, List.length_nil, Nat.reduceAdd, Nat.reduceLeDiff, Nat.zero_add, true_and, nI_n0, nat_le, Nat.add_zero, rt_mo_readsDelta_0, rt_mo_readsDelta_1, rt_mo_readsDelta_b, x_al0, x_call, x_getf, x_goto, x_icgt, x_ifeq, x_ifne, x_il1, x_iret, x_is1, x_ldc, x_putf, b_mo_readsDelta_61]
      exact HN L g2 ed (FR_t f1 b1) b5 b7
    · rw [if_neg hl] at ed
      simp only [hl, ↓reduceIte]
      try simp -implicitDefEqProofs (disch := first | assumption | omega) only [szS_0, szS_i, szS_r, szS_l, x_cons, x_goto, ob_some, kl_i, kl_r, kl_l, kl_n, push_n, push_s, pop_0, pop_i, pop_r, Int.reduceToNat, List.length_cons, List.length_nil, Nat.reduceAdd, Nat.reduceLeDiff, Nat.zero_add, true_and, nI_n0, nat_le, Nat.add_zero, rt_mo_readsDelta_0, rt_mo_readsDelta_1, rt_mo_readsDelta_b, x_al0, x_call, x_getf, x_goto, x_icgt, x_ifeq, x_ifne, x_il1, x_iret, x_is1, x_ldc, x_putf]
      refine s_dbad (d := d + 13) (m := 0) b4 fun g3 x3 => ?_
      simp -implicitDefEqProofs (disch := first | assumption | omega) only [szS_0, szS_i, szS_r, szS_l, x_cons, x_goto, ob_some, kl_i, kl_r, kl_l, kl_n, push_n, push_s, pop_0, pop_i, pop_r, Int.reduceToNat, List.length_cons, List.length_nil, Nat.reduceAdd, Nat.reduceLeDiff, Nat.zero_add, true_and, nI_n0, nat_le, Nat.add_zero, rt_mo_readsDelta_0, rt_mo_readsDelta_1, rt_mo_readsDelta_b, x_al0, x_call, x_getf, x_goto, x_icgt, x_ifeq, x_ifne, x_il1, x_iret, x_is1, x_ldc, x_putf, ↓reduceIte, b_mo_readsDelta_60, b_mo_readsDelta_61]
      exact HX _ _ g3 ed (FR_t f1 (FR_t b1 (FR_m rfl rfl x3.1.1))) x3.2.1 x3.2.2
  · have ed : dlF T n = .inl (f', j) := by
      unfold dlF
      rw [e]
    rw [b_mo_readsDelta_31]
    simp -implicitDefEqProofs (disch := first | assumption | omega) only [szS_0, szS_i, szS_r, szS_l, x_cons, x_goto, ob_some, kl_i, kl_r, kl_l, kl_n, push_n, push_s, pop_0, pop_i, pop_r, Int.reduceToNat, List.length_cons, List.length_nil, Nat.reduceAdd, Nat.reduceLeDiff, Nat.zero_add, true_and, nI_n0, nat_le, Nat.add_zero, rt_mo_readsDelta_0, rt_mo_readsDelta_1, rt_mo_readsDelta_b, x_al0, x_call, x_getf, x_goto, x_icgt, x_ifeq, x_ifne, x_il1, x_iret, x_is1, x_ldc, x_putf, ↓reduceIte]
    exact HX _ _ g2 ed (FR_t f1 f2) x22 x23
end MD2
/-! the class reads a delta -/
def cD (m : Nat) (v : Nat → Nat) (g : Nat → Nat → Int32) : Prop := g 63 m = nI (v 0) ∧ g 64 m = nI (v 1) ∧ (∀ a, a < 3 → g 65 (m * 3 + a) = nI (v (2 + a))) ∧ g 70 m = nI (v 5) ∧ g 71 m = nI (v 6)
def dFc (m : Nat) (g g' : Nat → Nat → Int32) : Prop := (∀ a, a ≠ 168 → a ≠ 63 → a ≠ 64 → a ≠ 65 → a ≠ 70 → a ≠ 71 → g' a = g a) ∧ (∀ x, x ≠ 4 → x ≠ 5 → x ≠ 10 → g' 168 x = g 168 x) ∧ (∀ x, x ≠ m → g' 63 x = g 63 x ∧ g' 64 x = g 64 x ∧ g' 70 x = g 70 x ∧ g' 71 x = g 71 x) ∧ ∀ x, x < m * 3 ∨ m * 3 + 3 ≤ x → g' 65 x = g 65 x
theorem dFc_t {m : Nat} {g g1 g2 : Nat → Nat → Int32} (h : dFc m g g1) (h' : dFc m g1 g2) : dFc m g g2 :=
  ⟨fun a a1 a2 a3 a4 a5 a6 => (h'.1 a a1 a2 a3 a4 a5 a6).trans (h.1 a a1 a2 a3 a4 a5 a6), fun x x1 x2 x3 => (h'.2.1 x x1 x2 x3).trans (h.2.1 x x1 x2 x3), fun x hx => ⟨(h'.2.2.1 x hx).1.trans (h.2.2.1 x hx).1, (h'.2.2.1 x hx).2.1.trans (h.2.2.1 x hx).2.1, (h'.2.2.1 x hx).2.2.1.trans (h.2.2.1 x hx).2.2.1, (h'.2.2.1 x hx).2.2.2.trans (h.2.2.1 x hx).2.2.2⟩, fun x hx => (h'.2.2.2 x hx).trans (h.2.2.2 x hx)⟩
def dXc (T : Nat → Nat) (n f j : Nat) (g g' : Nat → Nat → Int32) : Prop := (∀ a, a ≠ 168 → a ≠ 63 → a ≠ 64 → a ≠ 65 → a ≠ 70 → a ≠ 71 → g' a = g a) ∧ (∀ x, x ≠ 2 → x ≠ 3 → x ≠ 4 → x ≠ 5 → x ≠ 10 → g' 168 x = g 168 x) ∧ g' 168 2 = nI f ∧ g' 168 3 = nI (kB T n j)
theorem dXc_t {T : Nat → Nat} {n f j m : Nat} {g g1 g2 : Nat → Nat → Int32} (h : dFc m g g1) (h' : dXc T n f j g1 g2) : dXc T n f j g g2 :=
  ⟨fun a a1 a2 a3 a4 a5 a6 => (h'.1 a a1 a2 a3 a4 a5 a6).trans (h.1 a a1 a2 a3 a4 a5 a6), fun x x1 x2 x3 x4 x5 => (h'.2.1 x x1 x2 x3 x4 x5).trans (h.2.1 x x3 x4 x5), h'.2.2⟩
def dJ (T : Nat → Nat) (n i m : Nat) (v : Nat → Nat) (g : Nat → Nat → Int32) : Prop := tkC T n 0 i g ∧ m < 16 ∧ cD m v g
theorem dXc_X {T : Nat → Nat} {n i f : Nat} {g g' : Nat → Nat → Int32} (h : rdX T n i f g g') : dXc T n f i g g' := ⟨fun a a1 _ _ _ _ _ => h.1 a a1, fun x x1 x2 _ _ _ => h.2.1 x x1 x2, h.2.2.1, h.2.2.2⟩
theorem dFc_N {T : Nat → Nat} {n i m : Nat} {g g' : Nat → Nat → Int32} (h : rdN T n 0 i g g') : dFc m g g' :=
  ⟨fun a a1 _ _ _ _ _ => h.1 a a1, fun x x1 x2 x3 => h.2.1 x x1 x2 x3, fun x _ => ⟨by rw [h.1 63 (by decide)], by rw [h.1 64 (by decide)], by rw [h.1 70 (by decide)], by rw [h.1 71 (by decide)]⟩, fun x _ => by rw [h.1 65 (by decide)]⟩
theorem cD_c {m : Nat} {v : Nat → Nat} {g g' : Nat → Nat → Int32} (h : cD m v g) (e : ∀ a, a = 63 ∨ a = 64 ∨ a = 65 ∨ a = 70 ∨ a = 71 → g' a = g a) : cD m v g' := by
  unfold cD at *
  rw [e 63 (by omega), e 64 (by omega), e 65 (by omega), e 70 (by omega), e 71 (by omega)]
  exact h
theorem dJ_N {T : Nat → Nat} {n i m : Nat} {v : Nat → Nat} {g g' : Nat → Nat → Int32} (hJ : dJ T n i m v g) (h : rdN T n 0 i g g') : dJ T n (i + 1) m v g' := ⟨h.2.2, hJ.2.1, cD_c hJ.2.2 fun a ha => h.1 a (by omega)⟩
section CD2
variable {d : Nat} {g : Nat → Nat → Int32} {q : Nat → Nat → Int64} {P : QT} {T : Nat → Nat} {n i m : Nat} {v : Nat → Nat}
theorem ct_0 : CT_ 0 0 = 10 ∧ CT_ 0 1 = 11 ∧ CT_ 0 2 = 12 ∧ CT_ 0 3 = 13 ∧ CT_ 0 4 = 5 ∧ CT_ 0 5 = 14 ∧ WN 0 = 6 := by decide
theorem s_cwd {w c : Nat} (hw : w < 6) (hc : CT_ 0 w = c) (h : dJ T n i m v g) (HN : ∀ g', wdF T n c v i = .inr (v, i + 1) → dFc m g g' → dJ T n (i + 1) m v g' → P (some (.int (nI 1))) (E g' q)) (HX : ∀ g', wdF T n c v i = .inl (1, i) → dXc T n 1 i g g' → P (some (.int (nI 0))) (E g' q)) : callC (ev (d + 3)) re_takeWord [.ref 168, .int (nI w)] (E g q) P :=
  s_takeWord (k := 0) (by decide) h.1 (by rw [ct_0.2.2.2.2.2.2]; exact hw) (fun e g' o => HN g' (if_pos (e.trans hc)) (dFc_N o) (dJ_N h o)) fun e g' x => HX g' (if_neg (fun e2 => e (e2.trans hc.symm))) (dXc_X x)
theorem s_ctarget {a : Nat} (ha : a < 3) (h : dJ T n i m v g) (hv : v 1 = a) (HN : ∀ g', arF T n m a v i = .inr (upA a (kN T n i) v, i + 1) → dFc m g g' → dJ T n (i + 1) m (upA a (kN T n i) v) g' → P (some (.int (nI 1))) (E g' q)) (HX : ∀ f j g', arF T n m a v i = .inl (f, j) → dXc T n f j g g' → P (some (.int (nI 0))) (E g' q)) : callC (ev (d + 3)) pa_readTarget [.ref 173, .ref 62, .int (nI m)] (E g q) P := by
  refine in_pa_readTarget rfl ?_
  have hm := h.2.1
  obtain ⟨c0, c1, c2, c5, c6⟩ := h.2.2
  rw [hv] at c1
  have n10 : (nI 1 = nI 0) = False := eq_false (by decide)
  have eu : arF T n m a v i = if kC T n 0 i ≠ 2 then .inl (1, i) else if m + 1 ≤ kN T n i ∧ kN T n i ≤ 15 then .inr (upA a (kN T n i) v, i + 1) else .inl (2, i) := rfl
  rw [b_pa_readTarget_0]
  simp -implicitDefEqProofs (disch := first | assumption | omega) only [szS_0, szS_i, szS_r, szS_l, x_cons, x_goto, ob_some, kl_i, kl_r, kl_l, kl_n, push_n, push_s, pop_0, pop_i, pop_r, Int.reduceToNat, List.length_cons, List.length_nil, Nat.reduceAdd, Nat.reduceLeDiff, Nat.zero_add, true_and, nI_n0, nat_le, Nat.add_zero, rt_pa_readTarget_0, rt_pa_readTarget_1, rt_pa_readTarget_b, x_al0, x_al1, x_call, x_getf, x_iadd, x_iaload, x_iastore, x_icge, x_ifne, x_il2, x_il3, x_imul, x_iret, x_is3, x_ldc, fd_173_0, nI_add]
  refine s_findNumber (d := d) (k := 0) (by decide) h.1 (by omega) (by decide) (fun k2 l1 l2 e5 l3 => ?_) (fun k2 g1 x1 => ?_) fun k2 hr g1 x1 => ?_
  · rw [if_neg (fun h => h k2), if_pos ⟨l1, l2⟩] at eu
    have l9 : m * 3 + a < 48 := by omega
    obtain ⟨g1, hg1⟩ : ∃ g1, g1 = upw (upw g 65 (pu (g 65) (m * 3 + a) (nI (kN T n i)))) 64 (pu (g 64) m (nI (a + 1))) := ⟨_, rfl⟩
    have e1 : ∀ b, b ≠ 64 → b ≠ 65 → g1 b = g b := fun b b1 b2 => by rw [hg1, upw_o b1, upw_o b2]
    simp -implicitDefEqProofs (disch := first | assumption | omega) only [szS_0, szS_i, szS_r, szS_l, x_cons, x_goto, ob_some, kl_i, kl_r, kl_l, kl_n, push_n, push_s, pop_0, pop_i, pop_r, Int.reduceToNat, List.length_cons, List.length_nil, Nat.reduceAdd, Nat.reduceLeDiff, Nat.zero_add, true_and, nI_n0, nat_le, Nat.add_zero, rt_pa_readTarget_0, rt_pa_readTarget_1, rt_pa_readTarget_b, x_al0, x_al1, x_call, x_getf, x_iadd, x_iaload, x_iastore, x_icge, x_ifne, x_il2, x_il3, x_imul, x_iret, x_is3, x_ldc, n10, ↓reduceIte, b_pa_readTarget_17, fd_62_0, sf_62_0, fd_62_1, fd_62_2, fd_62_3, fd_62_4, ld_64, sd_64, ln_64, c1, nI_ltE, ha, fd_173_0, fd_168_0, fd_168_1, sf_168_1, fd_168_2, sf_168_2, fd_168_3, sf_168_3, fd_168_4, sf_168_4, fd_168_5, sf_168_5, fd_168_6, fd_168_7, fd_168_8, fd_168_9, sf_168_9, fd_168_10, sf_168_10, nI_mul, nI_add, ld_65, sd_65, ln_65, e5, pu_g, upw_o, upw_s, b_pa_readTarget_55]
    rw [← hg1]
    refine s_rnext (tkC_f h.1 (fun x _ => by rw [e1 168 (by decide) (by decide)]) (e1 170 (by decide) (by decide)) (e1 171 (by decide) (by decide)) (e1 172 (by decide) (by decide))) fun g2 f1 f2 t2 => ?_
    simp -implicitDefEqProofs (disch := first | assumption | omega) only [szS_0, szS_i, szS_r, szS_l, x_cons, x_goto, ob_some, kl_i, kl_r, kl_l, kl_n, push_n, push_s, pop_0, pop_i, pop_r, Int.reduceToNat, List.length_cons, List.length_nil, Nat.reduceAdd, Nat.reduceLeDiff, Nat.zero_add, true_and, nI_n0, nat_le, Nat.add_zero, rt_pa_readTarget_0, rt_pa_readTarget_1, rt_pa_readTarget_b, x_al0, x_al1, x_call, x_getf, x_iadd, x_iaload, x_iastore, x_icge, x_ifne, x_il2, x_il3, x_imul, x_iret, x_is3, x_ldc]
    refine HN g2 eu ⟨fun b b1 b2 b3 b4 b5 b6 => by rw [f1 b b1, e1 b b3 b4], fun x x1 x2 x3 => by rw [f2 x x1 x2 x3, e1 168 (by decide) (by decide)], fun x hx => ⟨?_, ?_, ?_, ?_⟩, fun x hx => ?_⟩ ⟨t2, hm, ?_, ?_, fun b hb => ?_, ?_, ?_⟩
    · rw [f1 63 (by decide), e1 63 (by decide) (by decide)]
    · rw [f1 64 (by decide), hg1, upw_s, pu_n hx]
    · rw [f1 70 (by decide), e1 70 (by decide) (by decide)]
    · rw [f1 71 (by decide), e1 71 (by decide) (by decide)]
    · rw [f1 65 (by decide), hg1, upw_o (by decide), upw_s, pu_n (by omega)]
    · rw [f1 63 (by decide), e1 63 (by decide) (by decide), upA_o (by decide) (by decide) (by omega)]
      exact c0
    · rw [f1 64 (by decide), hg1, upw_s, pu_s, upA_1]
    · rw [f1 65 (by decide), hg1, upw_o (by decide), upw_s]
      by_cases eb : b = a
      · rw [eb, pu_s, upA_a ha]
      · rw [pu_n (by omega), upA_o (by omega) (by omega) (by omega)]
        exact c2 b hb
    · rw [f1 70 (by decide), e1 70 (by decide) (by decide), upA_o (by decide) (by decide) (by omega)]
      exact c5
    · rw [f1 71 (by decide), e1 71 (by decide) (by decide), upA_o (by decide) (by decide) (by omega)]
      exact c6
  · rw [if_pos k2] at eu
    simp -implicitDefEqProofs (disch := first | assumption | omega) only [szS_0, szS_i, szS_r, szS_l, x_cons, x_goto, ob_some, kl_i, kl_r, kl_l, kl_n, push_n, push_s, pop_0, pop_i, pop_r, Int.reduceToNat, List.length_cons, List.length_nil, Nat.reduceAdd, Nat.reduceLeDiff, Nat.zero_add, true_and, nI_n0, nat_le, Nat.add_zero, rt_pa_readTarget_0, rt_pa_readTarget_1, rt_pa_readTarget_b, x_al0, x_al1, x_call, x_getf, x_iadd, x_iaload, x_iastore, x_icge, x_ifne, x_il2, x_il3, x_imul, x_iret, x_is3, x_ldc, ↓reduceIte]
    exact HX _ _ g1 eu (dXc_X x1)
  · rw [if_neg (fun h => h k2), if_neg hr] at eu
    simp -implicitDefEqProofs (disch := first | assumption | omega) only [szS_0, szS_i, szS_r, szS_l, x_cons, x_goto, ob_some, kl_i, kl_r, kl_l, kl_n, push_n, push_s, pop_0, pop_i, pop_r, Int.reduceToNat, List.length_cons, List.length_nil, Nat.reduceAdd, Nat.reduceLeDiff, Nat.zero_add, true_and, nI_n0, nat_le, Nat.add_zero, rt_pa_readTarget_0, rt_pa_readTarget_1, rt_pa_readTarget_b, x_al0, x_al1, x_call, x_getf, x_iadd, x_iaload, x_iastore, x_icge, x_ifne, x_il2, x_il3, x_imul, x_iret, x_is3, x_ldc, ↓reduceIte]
    exact HX _ _ g1 eu (dXc_X x1)
theorem s_cfork (h : dJ T n i m v g) (hv : v 1 = 0) (HN : ∀ v' j g', fkF T n m v i = .inr (v', j) → dFc m g g' → dJ T n j m v' g' → P (some (.int (nI 1))) (E g' q)) (HX : ∀ f j g', fkF T n m v i = .inl (f, j) → dXc T n f j g g' → P (some (.int (nI 0))) (E g' q)) : callC (ev (d + 4)) pa_readFork [.ref 173, .ref 62, .int (nI m)] (E g q) P := by
  refine in_pa_readFork rfl ?_
  have n10 : (nI 1 = nI 0) = False := eq_false (by decide)
  have hw4 : 4 < WN 0 := by decide
  have eu : fkF T n m v i = bn (wdF T n 13 v i) fun v i => bn (arF T n m 0 v i) fun v i => bn (wdF T n 5 v i) fun v i => bn (arF T n m 1 v i) fun v i => if kC T n 0 i = 5 then arF T n m 2 v (i + 1) else .inr (v, i) := rfl
  have bad : ∀ g2, P (some (.int (nI 0))) (E g2 q) → wp (ev (d + 3)) P pa_readFork 40 [some (.ref 173), some (.ref 62), some (.int (nI m))] [] (E g2 q) := fun g2 hp => by
    rw [b_pa_readFork_40]
    simp -implicitDefEqProofs (disch := first | assumption | omega) only [szS_0, szS_i, szS_r, szS_l, x_cons, x_goto, ob_some, kl_i, kl_r, kl_l, kl_n, push_n, push_s, pop_0, pop_i, pop_r, Int.reduceToNat, List.length_cons, List.length_nil, Nat.reduceAdd, Nat.reduceLeDiff, Nat.zero_add, true_and, nI_n0, nat_le, Nat.add_zero, rt_pa_readFork_0, rt_pa_readFork_1, rt_pa_readFork_b, x_al0, x_al1, x_call, x_getf, x_ifeq, x_ifne, x_il2, x_iret, x_ldc]
    exact hp
  rw [b_pa_readFork_0]
  simp -implicitDefEqProofs (disch := first | assumption | omega) only [szS_0, szS_i, szS_r, szS_l, x_cons, x_goto, ob_some, kl_i, kl_r, kl_l, kl_n, push_n, push_s, pop_0, pop_i, pop_r, Int.reduceToNat, List.length_cons, List.length_nil, Nat.reduceAdd, Nat.reduceLeDiff, Nat.zero_add, true_and, nI_n0, nat_le, Nat.add_zero, rt_pa_readFork_0, rt_pa_readFork_1, rt_pa_readFork_b, x_al0, x_al1, x_call, x_getf, x_ifeq, x_ifne, x_il2, x_iret, x_ldc, fd_173_0]
  refine s_cwd (d := d) (w := 3) (c := 13) (by decide) (by decide) h (fun g1 e1 f1 i1 => ?_) fun g1 e1 x1 => ?_
  · rw [bn_r e1] at eu
    simp -implicitDefEqProofs (disch := first | assumption | omega) only [szS_0, szS_i, szS_r, szS_l, x_cons, x_goto, ob_some, kl_i, kl_r, kl_l, kl_n, push_n, push_s, pop_0, pop_i, pop_r, Int.reduceToNat, List.length_cons, List.length_nil, Nat.reduceAdd, Nat.reduceLeDiff, Nat.zero_add, true_and, nI_n0, nat_le, Nat.add_zero, rt_pa_readFork_0, rt_pa_readFork_1, rt_pa_readFork_b, x_al0, x_al1, x_call, x_getf, x_ifeq, x_ifne, x_il2, x_iret, x_ldc, n10, ↓reduceIte]
    refine s_ctarget (d := d) (a := 0) (by decide) i1 hv (fun g2 e2 f2 i2 => ?_) fun f j g2 e2 x2 => ?_
    · rw [bn_r e2] at eu
      have f2 := dFc_t f1 f2
      simp -implicitDefEqProofs (disch := first | assumption | omega) only [szS_0, szS_i, szS_r, szS_l, x_cons, x_goto, ob_some, kl_i, kl_r, kl_l, kl_n, push_n, push_s, pop_0, pop_i, pop_r, Int.reduceToNat, List.length_cons, List.length_nil, Nat.reduceAdd, Nat.reduceLeDiff, Nat.zero_add, true_and, nI_n0, nat_le, Nat.add_zero, rt_pa_readFork_0, rt_pa_readFork_1, rt_pa_readFork_b, x_al0, x_al1, x_call, x_getf, x_ifeq, x_ifne, x_il2, x_iret, x_ldc, n10, ↓reduceIte, fd_173_0]
      refine s_cwd (d := d) (w := 4) (c := 5) (by decide) (by decide) i2 (fun g3 e3 f3 i3 => ?_) fun g3 e3 x3 => ?_
      · rw [bn_r e3] at eu
        have f3 := dFc_t f2 f3
        simp -implicitDefEqProofs (disch := first | assumption | omega) only [szS_0, szS_i, szS_r, szS_l, x_cons, x_goto, ob_some, kl_i, kl_r, kl_l, kl_n, push_n, push_s, pop_0, pop_i, pop_r, Int.reduceToNat, List.length_cons, List.length_nil, Nat.reduceAdd, Nat.reduceLeDiff, Nat.zero_add, true_and, nI_n0, nat_le, Nat.add_zero, rt_pa_readFork_0, rt_pa_readFork_1, rt_pa_readFork_b, x_al0, x_al1, x_call, x_getf, x_ifeq, x_ifne, x_il2, x_iret, x_ldc, n10, ↓reduceIte]
        refine s_ctarget (d := d) (a := 1) (by decide) i3 upA_1 (fun g4 e4 f4 i4 => ?_) fun f j g4 e4 x4 => ?_
        · rw [bn_r e4] at eu
          have f4 := dFc_t f3 f4
          simp -implicitDefEqProofs (disch := first | assumption | omega) only [szS_0, szS_i, szS_r, szS_l, x_cons, x_goto, ob_some, kl_i, kl_r, kl_l, kl_n, push_n, push_s, pop_0, pop_i, pop_r, Int.reduceToNat, List.length_cons, List.length_nil, Nat.reduceAdd, Nat.reduceLeDiff, Nat.zero_add, true_and, nI_n0, nat_le, Nat.add_zero, rt_pa_readFork_0, rt_pa_readFork_1, rt_pa_readFork_b, x_al0, x_al1, x_call, x_getf, x_ifeq, x_ifne, x_il2, x_iret, x_ldc, n10, ↓reduceIte, b_pa_readFork_42, fd_173_0, s_cisWord (k := 0) (by decide) i4.1 hw4, ct_0.2.2.2.2.1, bI_0]
          by_cases c5 : kC T n 0 (i + 1 + 1 + 1 + 1) = 5
          · rw [if_pos c5] at eu
            rw [decide_eq_true c5]
            simp -implicitDefEqProofs (disch := first | assumption | omega) only [Bool.true_eq_false, ↓reduceIte, b_pa_readFork_55, szS_0, szS_i, szS_r, szS_l, x_cons, x_goto, ob_some, kl_i, kl_r, kl_l, kl_n, push_n, push_s, pop_0, pop_i, pop_r, Int.reduceToNat, List.length_cons, List.length_nil, Nat.reduceAdd, Nat.reduceLeDiff, Nat.zero_add, true_and, nI_n0, nat_le, Nat.add_zero, rt_pa_readFork_0, rt_pa_readFork_1, rt_pa_readFork_b, x_al0, x_al1, x_call, x_getf, x_ifeq, x_ifne, x_il2, x_iret, x_ldc, fd_173_0]
            refine s_rnext (d := d + 1) i4.1 fun g5 a5 b5 t5 => ?_
            have i5 := dJ_N i4 ⟨a5, b5, t5⟩
            have f5 := dFc_t f4 (dFc_N ⟨a5, b5, t5⟩)
            simp -implicitDefEqProofs (disch := first | assumption | omega) only [szS_0, szS_i, szS_r, szS_l, x_cons, x_goto, ob_some, kl_i, kl_r, kl_l, kl_n, push_n, push_s, pop_0, pop_i, pop_r, Int.reduceToNat, List.length_cons, List.length_nil, Nat.reduceAdd, Nat.reduceLeDiff, Nat.zero_add, true_and, nI_n0, nat_le, Nat.add_zero, rt_pa_readFork_0, rt_pa_readFork_1, rt_pa_readFork_b, x_al0, x_al1, x_call, x_getf, x_ifeq, x_ifne, x_il2, x_iret, x_ldc]
            refine s_ctarget (d := d) (a := 2) (by decide) i5 upA_1 (fun g6 e6 f6 i6 => ?_) fun f j g6 e6 x6 => ?_
            · simp -implicitDefEqProofs (disch := first | assumption | omega) only [szS_0, szS_i, szS_r, szS_l, x_cons, x_goto, ob_some, kl_i, kl_r, kl_l, kl_n, push_n, push_s, pop_0, pop_i, pop_r, Int.reduceToNat, List.length_cons, List.length_nil, Nat.reduceAdd, Nat.reduceLeDiff, Nat.zero_add, true_and, nI_n0, nat_le, Nat.add_zero, rt_pa_readFork_0, rt_pa_readFork_1, rt_pa_readFork_b, x_al0, x_al1, x_call, x_getf, x_ifeq, x_ifne, x_il2, x_iret, x_ldc]
              exact HN _ _ g6 (eu.trans e6) (dFc_t f5 f6) i6
            · simp -implicitDefEqProofs (disch := first | assumption | omega) only [szS_0, szS_i, szS_r, szS_l, x_cons, x_goto, ob_some, kl_i, kl_r, kl_l, kl_n, push_n, push_s, pop_0, pop_i, pop_r, Int.reduceToNat, List.length_cons, List.length_nil, Nat.reduceAdd, Nat.reduceLeDiff, Nat.zero_add, true_and, nI_n0, nat_le, Nat.add_zero, rt_pa_readFork_0, rt_pa_readFork_1, rt_pa_readFork_b, x_al0, x_al1, x_call, x_getf, x_ifeq, x_ifne, x_il2, x_iret, x_ldc]
              exact HX _ _ g6 (eu.trans e6) (dXc_t f5 x6)
          · rw [if_neg c5] at eu
            rw [decide_eq_false c5]
            simp -implicitDefEqProofs (disch := first | assumption | omega) only [↓reduceIte, szS_0, szS_i, szS_r, szS_l, x_cons, x_goto, ob_some, kl_i, kl_r, kl_l, kl_n, push_n, push_s, pop_0, pop_i, pop_r, Int.reduceToNat, List.length_cons, List.length_nil, Nat.reduceAdd, Nat.reduceLeDiff, Nat.zero_add, true_and, nI_n0, nat_le, Nat.add_zero, rt_pa_readFork_0, rt_pa_readFork_1, rt_pa_readFork_b, x_al0, x_al1, x_call, x_getf, x_ifeq, x_ifne, x_il2, x_iret, x_ldc]
            exact HN _ _ g4 eu f4 i4
        · simp -implicitDefEqProofs (disch := first | assumption | omega) only [szS_0, szS_i, szS_r, szS_l, x_cons, x_goto, ob_some, kl_i, kl_r, kl_l, kl_n, push_n, push_s, pop_0, pop_i, pop_r, Int.reduceToNat, List.length_cons, List.length_nil, Nat.reduceAdd, Nat.reduceLeDiff, Nat.zero_add, true_and, nI_n0, nat_le, Nat.add_zero, rt_pa_readFork_0, rt_pa_readFork_1, rt_pa_readFork_b, x_al0, x_al1, x_call, x_getf, x_ifeq, x_ifne, x_il2, x_iret, x_ldc, ↓reduceIte]
          exact bad g4 (HX _ _ g4 (eu.trans (bn_l e4)) (dXc_t f3 x4))
      · simp -implicitDefEqProofs (disch := first | assumption | omega) only [szS_0, szS_i, szS_r, szS_l, x_cons, x_goto, ob_some, kl_i, kl_r, kl_l, kl_n, push_n, push_s, pop_0, pop_i, pop_r, Int.reduceToNat, List.length_cons, List.length_nil, Nat.reduceAdd, Nat.reduceLeDiff, Nat.zero_add, true_and, nI_n0, nat_le, Nat.add_zero, rt_pa_readFork_0, rt_pa_readFork_1, rt_pa_readFork_b, x_al0, x_al1, x_call, x_getf, x_ifeq, x_ifne, x_il2, x_iret, x_ldc, ↓reduceIte]
        exact bad g3 (HX _ _ g3 (eu.trans (bn_l e3)) (dXc_t f2 x3))
    · simp -implicitDefEqProofs (disch := first | assumption | omega) only [szS_0, szS_i, szS_r, szS_l, x_cons, x_goto, ob_some, kl_i, kl_r, kl_l, kl_n, push_n, push_s, pop_0, pop_i, pop_r, Int.reduceToNat, List.length_cons, List.length_nil, Nat.reduceAdd, Nat.reduceLeDiff, Nat.zero_add, true_and, nI_n0, nat_le, Nat.add_zero, rt_pa_readFork_0, rt_pa_readFork_1, rt_pa_readFork_b, x_al0, x_al1, x_call, x_getf, x_ifeq, x_ifne, x_il2, x_iret, x_ldc, ↓reduceIte]
      exact bad g2 (HX _ _ g2 (eu.trans (bn_l e2)) (dXc_t f1 x2))
  · simp -implicitDefEqProofs (disch := first | assumption | omega) only [szS_0, szS_i, szS_r, szS_l, x_cons, x_goto, ob_some, kl_i, kl_r, kl_l, kl_n, push_n, push_s, pop_0, pop_i, pop_r, Int.reduceToNat, List.length_cons, List.length_nil, Nat.reduceAdd, Nat.reduceLeDiff, Nat.zero_add, true_and, nI_n0, nat_le, Nat.add_zero, rt_pa_readFork_0, rt_pa_readFork_1, rt_pa_readFork_b, x_al0, x_al1, x_call, x_getf, x_ifeq, x_ifne, x_il2, x_iret, x_ldc, ↓reduceIte]
    exact bad g1 (HX _ _ g1 (eu.trans (bn_l e1)) x1)
/-- a number comes to a place, and the next token -/
theorem ctn {p b : Nat} (hb : b = 70 ∧ p = 5 ∨ b = 71 ∧ p = 6) {x : Nat} (h : dJ T n i m v g) {g2 : Nat → Nat → Int32} (f1 : ∀ a, a ≠ 168 → g2 a = upw g b (pu (g b) m (nI x)) a) (f2 : ∀ j, j ≠ 4 → j ≠ 5 → j ≠ 10 → g2 168 j = upw g b (pu (g b) m (nI x)) 168 j) (t2 : tkC T n 0 (i + 1) g2) : dFc m g g2 ∧ dJ T n (i + 1) m (unn v p x) g2 := by
  obtain ⟨c0, c1, c2, c5, c6⟩ := h.2.2
  have hm := h.2.1
  have f2' : ∀ j, j ≠ 4 → j ≠ 5 → j ≠ 10 → g2 168 j = g 168 j := fun j j1 j2 j3 => by rw [f2 j j1 j2 j3, upw_o (by omega)]
  have u1 : ∀ k, k ≠ p → unn v p x k = v k := fun k hk => unn_n hk
  rcases hb with ⟨rfl, rfl⟩ | ⟨rfl, rfl⟩
  · have o : ∀ a, a ≠ 168 → a ≠ 70 → g2 a = g a := fun a a1 a2 => by rw [f1 a a1, upw_o a2]
    have o70 : g2 70 = pu (g 70) m (nI x) := by rw [f1 70 (by decide), upw_s]
    refine ⟨⟨fun a a1 a2 a3 a4 a5 a6 => o a a1 a5, f2', fun y hy => ⟨by rw [o 63 (by decide) (by decide)], by rw [o 64 (by decide) (by decide)], by rw [o70, pu_n hy], by rw [o 71 (by decide) (by decide)]⟩, fun y _ => by rw [o 65 (by decide) (by decide)]⟩, t2, hm, ?_, ?_, fun a ha => ?_, ?_, ?_⟩
    · rw [o 63 (by decide) (by decide), u1 0 (by decide)]; exact c0
    · rw [o 64 (by decide) (by decide), u1 1 (by decide)]; exact c1
    · rw [o 65 (by decide) (by decide), u1 _ (by omega)]; exact c2 a ha
    · rw [o70, pu_s, unn_s]
    · rw [o 71 (by decide) (by decide), u1 6 (by decide)]; exact c6
  · have o : ∀ a, a ≠ 168 → a ≠ 71 → g2 a = g a := fun a a1 a2 => by rw [f1 a a1, upw_o a2]
    have o71 : g2 71 = pu (g 71) m (nI x) := by rw [f1 71 (by decide), upw_s]
    refine ⟨⟨fun a a1 a2 a3 a4 a5 a6 => o a a1 a6, f2', fun y hy => ⟨by rw [o 63 (by decide) (by decide)], by rw [o 64 (by decide) (by decide)], by rw [o 70 (by decide) (by decide)], by rw [o71, pu_n hy]⟩, fun y _ => by rw [o 65 (by decide) (by decide)]⟩, t2, hm, ?_, ?_, fun a ha => ?_, ?_, ?_⟩
    · rw [o 63 (by decide) (by decide), u1 0 (by decide)]; exact c0
    · rw [o 64 (by decide) (by decide), u1 1 (by decide)]; exact c1
    · rw [o 65 (by decide) (by decide), u1 _ (by omega)]; exact c2 a ha
    · rw [o 70 (by decide) (by decide), u1 5 (by decide)]; exact c5
    · rw [o71, pu_s, unn_s]
theorem s_ctown (h : dJ T n i m v g) (hv : v 1 = 0) (HN : ∀ v' j g', twF T n m v i = .inr (v', j) → dFc m g g' → dJ T n j m v' g' → P (some (.int (nI 1))) (E g' q)) (HX : ∀ f j g', twF T n m v i = .inl (f, j) → dXc T n f j g g' → P (some (.int (nI 0))) (E g' q)) : callC (ev (d + 4)) pa_readTown [.ref 173, .ref 62, .ref 67, .int (nI m)] (E g q) P := by
  refine in_pa_readTown rfl ?_
  have n10 : (nI 1 = nI 0) = False := eq_false (by decide)
  have hm := h.2.1
  have eu : twF T n m v i = bn (nuF T n 5 0 999 v i) fun v i => bn (wdF T n 14 v i) fun v i => bn (nuF T n 6 1 999 v i) fun v i => bn (wdF T n 13 v i) fun v i => arF T n m 0 v i := rfl
  have en : ∀ p lo v i, nuF T n p lo 999 v i = if kC T n 0 i ≠ 2 then .inl (1, i) else if lo ≤ kN T n i ∧ kN T n i ≤ 999 then .inr (unn v p (kN T n i), i + 1) else .inl (2, i) := fun _ _ _ _ => rfl
  have bad1 : ∀ g2, P (some (.int (nI 0))) (E g2 q) → wp (ev (d + 3)) P pa_readTown 63 [some (.ref 173), some (.ref 62), some (.ref 67), some (.int (nI m))] [] (E g2 q) := fun g2 hp => by
    rw [b_pa_readTown_63]
    simp -implicitDefEqProofs (disch := first | assumption | omega) only [szS_0, szS_i, szS_r, szS_l, x_cons, x_goto, ob_some, kl_i, kl_r, kl_l, kl_n, push_n, push_s, pop_0, pop_i, pop_r, Int.reduceToNat, List.length_cons, List.length_nil, Nat.reduceAdd, Nat.reduceLeDiff, Nat.zero_add, true_and, nI_n0, nat_le, Nat.add_zero, rt_pa_readTown_0, rt_pa_readTown_1, rt_pa_readTown_b, x_aaload, x_al0, x_al1, x_al2, x_call, x_getf, x_goto, x_iastore, x_ifeq, x_ifne, x_il3, x_iret, x_ldc]
    exact hp
  have bad2 : ∀ g2, P (some (.int (nI 0))) (E g2 q) → wp (ev (d + 3)) P pa_readTown 111 [some (.ref 173), some (.ref 62), some (.ref 67), some (.int (nI m))] [] (E g2 q) := fun g2 hp => by
    rw [b_pa_readTown_111]
    simp -implicitDefEqProofs (disch := first | assumption | omega) only [szS_0, szS_i, szS_r, szS_l, x_cons, x_goto, ob_some, kl_i, kl_r, kl_l, kl_n, push_n, push_s, pop_0, pop_i, pop_r, Int.reduceToNat, List.length_cons, List.length_nil, Nat.reduceAdd, Nat.reduceLeDiff, Nat.zero_add, true_and, nI_n0, nat_le, Nat.add_zero, rt_pa_readTown_0, rt_pa_readTown_1, rt_pa_readTown_b, x_aaload, x_al0, x_al1, x_al2, x_call, x_getf, x_goto, x_iastore, x_ifeq, x_ifne, x_il3, x_iret, x_ldc, b_pa_readTown_112]
    exact hp
  rw [b_pa_readTown_0]
  simp -implicitDefEqProofs (disch := first | assumption | omega) only [szS_0, szS_i, szS_r, szS_l, x_cons, x_goto, ob_some, kl_i, kl_r, kl_l, kl_n, push_n, push_s, pop_0, pop_i, pop_r, Int.reduceToNat, List.length_cons, List.length_nil, Nat.reduceAdd, Nat.reduceLeDiff, Nat.zero_add, true_and, nI_n0, nat_le, Nat.add_zero, rt_pa_readTown_0, rt_pa_readTown_1, rt_pa_readTown_b, x_aaload, x_al0, x_al1, x_al2, x_call, x_getf, x_goto, x_iastore, x_ifeq, x_ifne, x_il3, x_iret, x_ldc, fd_173_0]
  refine s_findNumber (d := d + 1) (k := 0) (by decide) h.1 (by decide) (by decide) (fun k2 l1 l2 e5 l3 => ?_) (fun k2 g1 x1 => ?_) fun k2 hr g1 x1 => ?_
  · have e1 : nuF T n 5 0 999 v i = .inr (unn v 5 (kN T n i), i + 1) := by rw [en, if_neg (fun h => h k2), if_pos ⟨l1, l2⟩]
    rw [bn_r e1] at eu
    simp -implicitDefEqProofs (disch := first | assumption | omega) only [szS_0, szS_i, szS_r, szS_l, x_cons, x_goto, ob_some, kl_i, kl_r, kl_l, kl_n, push_n, push_s, pop_0, pop_i, pop_r, Int.reduceToNat, List.length_cons, List.length_nil, Nat.reduceAdd, Nat.reduceLeDiff, Nat.zero_add, true_and, nI_n0, nat_le, Nat.add_zero, rt_pa_readTown_0, rt_pa_readTown_1, rt_pa_readTown_b, x_aaload, x_al0, x_al1, x_al2, x_call, x_getf, x_goto, x_iastore, x_ifeq, x_ifne, x_il3, x_iret, x_ldc, n10, ↓reduceIte, b_pa_readTown_16, fd_67_0, sf_67_0, fd_67_1, sf_67_1, fd_67_2, sf_67_2, fd_67_3, sf_67_3, fd_67_4, sf_67_4, fd_67_5, fd_67_6, fd_67_7, fd_67_8, fd_67_9, fd_67_10, fd_173_0, fd_168_0, fd_168_1, sf_168_1, fd_168_2, sf_168_2, fd_168_3, sf_168_3, fd_168_4, sf_168_4, fd_168_5, sf_168_5, fd_168_6, fd_168_7, fd_168_8, fd_168_9, sf_168_9, fd_168_10, sf_168_10, ld_69_0, ld_69_1, ld_69_2, ld_69_3, ld_69_4, ld_69_5, ld_69_6, ld_69_7, ld_70, sd_70, ln_70, e5, pu_g]
    refine s_rnext (d := d + 1) (i := i) (tkC_f h.1 (fun x _ => by rw [upw_o (by decide)]) (upw_o (by decide)) (upw_o (by decide)) (upw_o (by decide))) fun g1 f1 f2 t1 => ?_
    obtain ⟨f1, i1⟩ := ctn (p := 5) (b := 70) (Or.inl ⟨rfl, rfl⟩) h f1 f2 t1
    simp -implicitDefEqProofs (disch := first | assumption | omega) only [szS_0, szS_i, szS_r, szS_l, x_cons, x_goto, ob_some, kl_i, kl_r, kl_l, kl_n, push_n, push_s, pop_0, pop_i, pop_r, Int.reduceToNat, List.length_cons, List.length_nil, Nat.reduceAdd, Nat.reduceLeDiff, Nat.zero_add, true_and, nI_n0, nat_le, Nat.add_zero, rt_pa_readTown_0, rt_pa_readTown_1, rt_pa_readTown_b, x_aaload, x_al0, x_al1, x_al2, x_call, x_getf, x_goto, x_iastore, x_ifeq, x_ifne, x_il3, x_iret, x_ldc, fd_173_0]
    refine s_cwd (d := d) (w := 5) (c := 14) (by decide) (by decide) i1 (fun g2 e2 f2 i2 => ?_) fun g2 e2 x2 => ?_
    · rw [bn_r e2] at eu
      have f2 := dFc_t f1 f2
      simp -implicitDefEqProofs (disch := first | assumption | omega) only [szS_0, szS_i, szS_r, szS_l, x_cons, x_goto, ob_some, kl_i, kl_r, kl_l, kl_n, push_n, push_s, pop_0, pop_i, pop_r, Int.reduceToNat, List.length_cons, List.length_nil, Nat.reduceAdd, Nat.reduceLeDiff, Nat.zero_add, true_and, nI_n0, nat_le, Nat.add_zero, rt_pa_readTown_0, rt_pa_readTown_1, rt_pa_readTown_b, x_aaload, x_al0, x_al1, x_al2, x_call, x_getf, x_goto, x_iastore, x_ifeq, x_ifne, x_il3, x_iret, x_ldc, n10, ↓reduceIte, fd_173_0]
      refine s_findNumber (d := d + 1) (k := 0) (by decide) i2.1 (by decide) (by decide) (fun k3 l4 l5 e6 l6 => ?_) (fun k3 g3 x3 => ?_) fun k3 hr g3 x3 => ?_
      · have e3 : nuF T n 6 1 999 (unn v 5 (kN T n i)) (i + 1 + 1) = .inr (unn (unn v 5 (kN T n i)) 6 (kN T n (i + 1 + 1)), i + 1 + 1 + 1) := by rw [en, if_neg (fun h => h k3), if_pos ⟨l4, l5⟩]
        rw [bn_r e3] at eu
        simp -implicitDefEqProofs (disch := first | assumption | omega) only [szS_0, szS_i, szS_r, szS_l, x_cons, x_goto, ob_some, kl_i, kl_r, kl_l, kl_n, push_n, push_s, pop_0, pop_i, pop_r, Int.reduceToNat, List.length_cons, List.length_nil, Nat.reduceAdd, Nat.reduceLeDiff, Nat.zero_add, true_and, nI_n0, nat_le, Nat.add_zero, rt_pa_readTown_0, rt_pa_readTown_1, rt_pa_readTown_b, x_aaload, x_al0, x_al1, x_al2, x_call, x_getf, x_goto, x_iastore, x_ifeq, x_ifne, x_il3, x_iret, x_ldc, n10, ↓reduceIte, b_pa_readTown_65, fd_67_0, sf_67_0, fd_67_1, sf_67_1, fd_67_2, sf_67_2, fd_67_3, sf_67_3, fd_67_4, sf_67_4, fd_67_5, fd_67_6, fd_67_7, fd_67_8, fd_67_9, fd_67_10, fd_173_0, fd_168_0, fd_168_1, sf_168_1, fd_168_2, sf_168_2, fd_168_3, sf_168_3, fd_168_4, sf_168_4, fd_168_5, sf_168_5, fd_168_6, fd_168_7, fd_168_8, fd_168_9, sf_168_9, fd_168_10, sf_168_10, ld_69_0, ld_69_1, ld_69_2, ld_69_3, ld_69_4, ld_69_5, ld_69_6, ld_69_7, ld_71, sd_71, ln_71, e6, pu_g]
        refine s_rnext (d := d + 1) (i := i + 1 + 1) (tkC_f i2.1 (fun x _ => by rw [upw_o (by decide)]) (upw_o (by decide)) (upw_o (by decide)) (upw_o (by decide))) fun g3 f3 f4 t3 => ?_
        obtain ⟨f3, i3⟩ := ctn (p := 6) (b := 71) (Or.inr ⟨rfl, rfl⟩) i2 f3 f4 t3
        have f3 := dFc_t f2 f3
        simp -implicitDefEqProofs (disch := first | assumption | omega) only [szS_0, szS_i, szS_r, szS_l, x_cons, x_goto, ob_some, kl_i, kl_r, kl_l, kl_n, push_n, push_s, pop_0, pop_i, pop_r, Int.reduceToNat, List.length_cons, List.length_nil, Nat.reduceAdd, Nat.reduceLeDiff, Nat.zero_add, true_and, nI_n0, nat_le, Nat.add_zero, rt_pa_readTown_0, rt_pa_readTown_1, rt_pa_readTown_b, x_aaload, x_al0, x_al1, x_al2, x_call, x_getf, x_goto, x_iastore, x_ifeq, x_ifne, x_il3, x_iret, x_ldc, fd_173_0]
        refine s_cwd (d := d) (w := 3) (c := 13) (by decide) (by decide) i3 (fun g4 e4 f4 i4 => ?_) fun g4 e4 x4 => ?_
        · rw [bn_r e4] at eu
          have f4 := dFc_t f3 f4
          simp -implicitDefEqProofs (disch := first | assumption | omega) only [szS_0, szS_i, szS_r, szS_l, x_cons, x_goto, ob_some, kl_i, kl_r, kl_l, kl_n, push_n, push_s, pop_0, pop_i, pop_r, Int.reduceToNat, List.length_cons, List.length_nil, Nat.reduceAdd, Nat.reduceLeDiff, Nat.zero_add, true_and, nI_n0, nat_le, Nat.add_zero, rt_pa_readTown_0, rt_pa_readTown_1, rt_pa_readTown_b, x_aaload, x_al0, x_al1, x_al2, x_call, x_getf, x_goto, x_iastore, x_ifeq, x_ifne, x_il3, x_iret, x_ldc, n10, ↓reduceIte]
          refine s_ctarget (d := d) (a := 0) (by decide) i4 (by rw [unn_n (by decide), unn_n (by decide)]; exact hv) (fun g5 e5 f5 i5 => ?_) fun f j g5 e5 x5 => ?_
          · simp -implicitDefEqProofs (disch := first | assumption | omega) only [szS_0, szS_i, szS_r, szS_l, x_cons, x_goto, ob_some, kl_i, kl_r, kl_l, kl_n, push_n, push_s, pop_0, pop_i, pop_r, Int.reduceToNat, List.length_cons, List.length_nil, Nat.reduceAdd, Nat.reduceLeDiff, Nat.zero_add, true_and, nI_n0, nat_le, Nat.add_zero, rt_pa_readTown_0, rt_pa_readTown_1, rt_pa_readTown_b, x_aaload, x_al0, x_al1, x_al2, x_call, x_getf, x_goto, x_iastore, x_ifeq, x_ifne, x_il3, x_iret, x_ldc, n10, ↓reduceIte, b_pa_readTown_112]
            exact HN _ _ g5 (eu.trans e5) (dFc_t f4 f5) i5
          · simp -implicitDefEqProofs (disch := first | assumption | omega) only [szS_0, szS_i, szS_r, szS_l, x_cons, x_goto, ob_some, kl_i, kl_r, kl_l, kl_n, push_n, push_s, pop_0, pop_i, pop_r, Int.reduceToNat, List.length_cons, List.length_nil, Nat.reduceAdd, Nat.reduceLeDiff, Nat.zero_add, true_and, nI_n0, nat_le, Nat.add_zero, rt_pa_readTown_0, rt_pa_readTown_1, rt_pa_readTown_b, x_aaload, x_al0, x_al1, x_al2, x_call, x_getf, x_goto, x_iastore, x_ifeq, x_ifne, x_il3, x_iret, x_ldc, ↓reduceIte]
            exact bad2 g5 (HX _ _ g5 (eu.trans e5) (dXc_t f4 x5))
        · simp -implicitDefEqProofs (disch := first | assumption | omega) only [szS_0, szS_i, szS_r, szS_l, x_cons, x_goto, ob_some, kl_i, kl_r, kl_l, kl_n, push_n, push_s, pop_0, pop_i, pop_r, Int.reduceToNat, List.length_cons, List.length_nil, Nat.reduceAdd, Nat.reduceLeDiff, Nat.zero_add, true_and, nI_n0, nat_le, Nat.add_zero, rt_pa_readTown_0, rt_pa_readTown_1, rt_pa_readTown_b, x_aaload, x_al0, x_al1, x_al2, x_call, x_getf, x_goto, x_iastore, x_ifeq, x_ifne, x_il3, x_iret, x_ldc, ↓reduceIte]
          exact bad2 g4 (HX _ _ g4 (eu.trans (bn_l e4)) (dXc_t f3 x4))
      · simp -implicitDefEqProofs (disch := first | assumption | omega) only [szS_0, szS_i, szS_r, szS_l, x_cons, x_goto, ob_some, kl_i, kl_r, kl_l, kl_n, push_n, push_s, pop_0, pop_i, pop_r, Int.reduceToNat, List.length_cons, List.length_nil, Nat.reduceAdd, Nat.reduceLeDiff, Nat.zero_add, true_and, nI_n0, nat_le, Nat.add_zero, rt_pa_readTown_0, rt_pa_readTown_1, rt_pa_readTown_b, x_aaload, x_al0, x_al1, x_al2, x_call, x_getf, x_goto, x_iastore, x_ifeq, x_ifne, x_il3, x_iret, x_ldc, ↓reduceIte]
        exact bad1 g3 (HX _ _ g3 (eu.trans (bn_l (by rw [en, if_pos k3]))) (dXc_t f2 (dXc_X x3)))
      · simp -implicitDefEqProofs (disch := first | assumption | omega) only [szS_0, szS_i, szS_r, szS_l, x_cons, x_goto, ob_some, kl_i, kl_r, kl_l, kl_n, push_n, push_s, pop_0, pop_i, pop_r, Int.reduceToNat, List.length_cons, List.length_nil, Nat.reduceAdd, Nat.reduceLeDiff, Nat.zero_add, true_and, nI_n0, nat_le, Nat.add_zero, rt_pa_readTown_0, rt_pa_readTown_1, rt_pa_readTown_b, x_aaload, x_al0, x_al1, x_al2, x_call, x_getf, x_goto, x_iastore, x_ifeq, x_ifne, x_il3, x_iret, x_ldc, ↓reduceIte]
        exact bad1 g3 (HX _ _ g3 (eu.trans (bn_l (by rw [en, if_neg (fun h => h k3), if_neg hr]))) (dXc_t f2 (dXc_X x3)))
    · simp -implicitDefEqProofs (disch := first | assumption | omega) only [szS_0, szS_i, szS_r, szS_l, x_cons, x_goto, ob_some, kl_i, kl_r, kl_l, kl_n, push_n, push_s, pop_0, pop_i, pop_r, Int.reduceToNat, List.length_cons, List.length_nil, Nat.reduceAdd, Nat.reduceLeDiff, Nat.zero_add, true_and, nI_n0, nat_le, Nat.add_zero, rt_pa_readTown_0, rt_pa_readTown_1, rt_pa_readTown_b, x_aaload, x_al0, x_al1, x_al2, x_call, x_getf, x_goto, x_iastore, x_ifeq, x_ifne, x_il3, x_iret, x_ldc, ↓reduceIte]
      exact bad1 g2 (HX _ _ g2 (eu.trans (bn_l e2)) (dXc_t f1 x2))
  · simp -implicitDefEqProofs (disch := first | assumption | omega) only [szS_0, szS_i, szS_r, szS_l, x_cons, x_goto, ob_some, kl_i, kl_r, kl_l, kl_n, push_n, push_s, pop_0, pop_i, pop_r, Int.reduceToNat, List.length_cons, List.length_nil, Nat.reduceAdd, Nat.reduceLeDiff, Nat.zero_add, true_and, nI_n0, nat_le, Nat.add_zero, rt_pa_readTown_0, rt_pa_readTown_1, rt_pa_readTown_b, x_aaload, x_al0, x_al1, x_al2, x_call, x_getf, x_goto, x_iastore, x_ifeq, x_ifne, x_il3, x_iret, x_ldc, ↓reduceIte]
    exact HX _ _ g1 (eu.trans (bn_l (by rw [en, if_pos k2]))) (dXc_X x1)
  · simp -implicitDefEqProofs (disch := first | assumption | omega) only [szS_0, szS_i, szS_r, szS_l, x_cons, x_goto, ob_some, kl_i, kl_r, kl_l, kl_n, push_n, push_s, pop_0, pop_i, pop_r, Int.reduceToNat, List.length_cons, List.length_nil, Nat.reduceAdd, Nat.reduceLeDiff, Nat.zero_add, true_and, nI_n0, nat_le, Nat.add_zero, rt_pa_readTown_0, rt_pa_readTown_1, rt_pa_readTown_b, x_aaload, x_al0, x_al1, x_al2, x_call, x_getf, x_goto, x_iastore, x_ifeq, x_ifne, x_il3, x_iret, x_ldc, ↓reduceIte]
    exact HX _ _ g1 (eu.trans (bn_l (by rw [en, if_neg (fun h => h k2), if_neg hr]))) (dXc_X x1)
end CD2
