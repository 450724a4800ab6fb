/-! a text, told to both -/
section TXT
variable {d : Nat} {g : Nat → Nat → Int32} {q : Nat → Nat → Int64} {P : QT} {T : Nat → Nat} {n : Nat} {w : Nat → Int32} {V M : LW} {pl : PL} {im : IM} {R : RD}
theorem s_tellD (hc : Tc 1 w g) (hx : Tx true 1 w g) (hl : CL 1 g V M) (hw : WI w) (hR : RT T n g)
    (HN : ∀ L g', dlF T n = .inr L → (∀ b, b = 0 ∨ (31 ≤ b ∧ b < 61) ∨ b = 169 ∨ 196 ≤ b → g' b = g b) → (∀ x, x ≠ 4 → x ≠ 5 → x ≠ 9 → x ≠ 10 → g' 168 x = g 168 x) → KA (dlR w L) V M g' → rgK [] g' → zS g' → P (some (.int (nI L.length))) (E g' q))
    (HX : ∀ f j g', dlF T n = .inl (f, j) → (∀ b, b < 61 ∨ (91 ≤ b ∧ b < 168) ∨ b = 169 ∨ 196 ≤ b → g' b = g b) → (∀ x, x ≠ 2 → x ≠ 3 → x ≠ 4 → x ≠ 5 → x ≠ 9 → x ≠ 10 → g' 168 x = g 168 x) → g' 168 2 = nI f → g' 168 3 = nI (kB T n j) → zS g' → P (some (.int (-1))) (E g' q)) :
    callC (ev (d + 11)) vr_tellDelta [.ref 0] (E g q) P := by
  refine in_vr_tellDelta rfl ?_
  have n10 : (nI 1 = nI 0) = False := eq_false (by decide)
  rw [b_vr_tellDelta_0]
  simp -implicitDefEqProofs (disch := first | assumption | omega) only [szS_0, szS_i, szS_r, szS_l, x_cons, x_goto, ob_some, kl_i, kl_r, kl_l, kl_n, push_n, push_s, pop_0, pop_i, pop_r, Int.reduceToNat, List.length_cons, List.length_nil, Nat.reduceAdd, Nat.reduceLeDiff, Nat.zero_add, true_and, nI_n0, nat_le, Nat.add_zero, rt_vr_tellDelta, x_al0, x_call, x_getf, x_ifne, x_iret, x_m1, fd_0_0, fd_0_1, fd_0_2, fd_0_3, fd_0_4, fd_0_5, fd_0_6, fd_0_7, fd_0_8, fd_0_9, sf_0_9]
  refine s_tcopy (d := d + 7) (t := 61) (s := 1) (by decide) (by decide) (by decide) fun g1 c1 => ?_
  simp -implicitDefEqProofs (disch := first | assumption | omega) only [szS_0, szS_i, szS_r, szS_l, x_cons, x_goto, ob_some, kl_i, kl_r, kl_l, kl_n, push_n, push_s, pop_0, pop_i, pop_r, Int.reduceToNat, List.length_cons, List.length_nil, Nat.reduceAdd, Nat.reduceLeDiff, Nat.zero_add, true_and, nI_n0, nat_le, Nat.add_zero, rt_vr_tellDelta, x_al0, x_call, x_getf, x_ifne, x_iret, x_m1, fd_0_0, fd_0_1, fd_0_2, fd_0_3, fd_0_4, fd_0_5, fd_0_6, fd_0_7, fd_0_8, fd_0_9, sf_0_9]
  refine s_clrD (d := d + 7) fun g2 c2 => ?_
  obtain ⟨k1, k2, k3, k4, k5, k6, k7, k8, k9⟩ := id c2
  simp -implicitDefEqProofs (disch := first | assumption | omega) only [szS_0, szS_i, szS_r, szS_l, x_cons, x_goto, ob_some, kl_i, kl_r, kl_l, kl_n, push_n, push_s, pop_0, pop_i, pop_r, Int.reduceToNat, List.length_cons, List.length_nil, Nat.reduceAdd, Nat.reduceLeDiff, Nat.zero_add, true_and, nI_n0, nat_le, Nat.add_zero, rt_vr_tellDelta, x_al0, x_call, x_getf, x_ifne, x_iret, x_m1, fd_0_0, fd_0_1, fd_0_2, fd_0_3, fd_0_4, fd_0_5, fd_0_6, fd_0_7, fd_0_8, fd_0_9, sf_0_9]
  have o2 : ∀ b, b < 61 ∨ 91 ≤ b → g2 b = g b := fun b hb => by rw [k1 b (by omega), c1.1 b (by omega)]
  have z2 : zS g2 := ⟨by rw [k1 84 (by omega), c1.2.2.2.1.2.2.2 0 (by decide)]; exact hl.1.2.2.2, by rw [k1 88 (by omega), c1.2.2.2.2.1.2.2.2 0 (by decide)]; exact hl.2.1.2.2.2⟩
  refine s_creadDelta (d := d) (RT_f hR (o2 169 (by omega)) (by rw [o2 168 (by omega)])) k2 (fun x hx => ⟨(k4 x hx).2, fun a ha => k5 _ (by omega), (k6 x hx).1, (k6 x hx).2.1⟩) (fun L g3 e f3 f62 r3 e62 D3 Z3 => ?_) fun f j g3 e f3 r3 e2 e3 => ?_
  · have hL := dlF_k e
    have hWI := (WI_dl (w := w) hw hL).1
    obtain ⟨hl16, hl0, ⟨G', hk⟩, hall⟩ := id hL
    simp -implicitDefEqProofs (disch := first | assumption | omega) only [szS_0, szS_i, szS_r, szS_l, x_cons, x_goto, ob_some, kl_i, kl_r, kl_l, kl_n, push_n, push_s, pop_0, pop_i, pop_r, Int.reduceToNat, List.length_cons, List.length_nil, Nat.reduceAdd, Nat.reduceLeDiff, Nat.zero_add, true_and, nI_n0, nat_le, Nat.add_zero, rt_vr_tellDelta, x_al0, x_call, x_getf, x_ifne, x_iret, x_m1, n10, ↓reduceIte, b_vr_tellDelta_34, fd_0_0, fd_0_1, fd_0_2, fd_0_3, fd_0_4, fd_0_5, fd_0_6, fd_0_7, fd_0_8, fd_0_9, sf_0_9]
    refine in_to_openFirstArms rfl ?_
    rw [b_to_openFirstArms_0]
    simp -implicitDefEqProofs (disch := first | assumption | omega) only [szS_0, szS_i, szS_r, szS_l, x_cons, x_goto, ob_some, kl_i, kl_r, kl_l, kl_n, push_n, push_s, pop_0, pop_i, pop_r, Int.reduceToNat, List.length_cons, List.length_nil, Nat.reduceAdd, Nat.reduceLeDiff, Nat.zero_add, true_and, nI_n0, nat_le, Nat.add_zero, i_1, rt_to_openFirstArms, x_al0, x_getf, x_goto, x_iaload, x_iastore, x_icge, x_ifne, x_il1, x_inc1, x_is1, x_ldc, x_vret]
    rw [show E g3 q = E (upw g3 78 (g3 78)) q by rw [upw_g]]
    refine of_lp hl16 e62 D3 (fun n hn => by
      obtain ⟨G1, hb⟩ := nsK_n hk hn
      exact hb.2.1) (fun r hr => ?_) L.length 0 _ (Nat.zero_add _) fun n hn => absurd hn (Nat.not_lt_zero n)
    obtain ⟨g4, hg4⟩ : ∃ g4, g4 = upw g3 78 r := ⟨_, rfl⟩
    rw [← hg4]
    simp -implicitDefEqProofs (disch := first | assumption | omega) only [szS_0, szS_i, szS_r, szS_l, x_cons, x_goto, ob_some, kl_i, kl_r, kl_l, kl_n, push_n, push_s, pop_0, pop_i, pop_r, Int.reduceToNat, List.length_cons, List.length_nil, Nat.reduceAdd, Nat.reduceLeDiff, Nat.zero_add, true_and, nI_n0, nat_le, Nat.add_zero, rt_vr_tellDelta, x_al0, x_call, x_getf, x_ifne, x_iret, x_m1, fd_0_0, fd_0_1, fd_0_2, fd_0_3, fd_0_4, fd_0_5, fd_0_6, fd_0_7, fd_0_8, fd_0_9, sf_0_9, fd_61_0, fd_61_1, fd_61_2, fd_61_3, fd_61_4]
    have q4 : ∀ b, b ≠ 78 → g4 b = g3 b := fun b hb => by rw [hg4, upw_o hb]
    have ts : Ts 61 (dlR w L) g4 := by
      refine ⟨?_, fun m hm => ?_, fun m a hm ha => ?_⟩
      · show g4 62 0 = _
        rw [q4 62 (by decide)]
        exact e62
      · show g4 63 m = dlR w L (10 + 20 * m) ∧ g4 64 m = dlR w L (10 + 20 * m + 1)
        have q0 := dlR_n (w := w) (f := 0) hl16 hm (by decide)
        have q1 := dlR_n (w := w) (f := 1) hl16 hm (by decide)
        rw [Nat.add_zero] at q0
        rw [q0, q1, q4 63 (by decide), q4 64 (by decide)]
        by_cases h : m < L.length
        · have D := cDs_n D3 h
          rw [Nat.zero_add] at D
          rw [if_pos h, if_pos h]
          exact ⟨D.1, D.2.1⟩
        · have Z := Z3 m (by omega) hm
          rw [if_neg h, if_neg h, Z.2]
          exact ⟨(k4 m hm).1, Z.1.1⟩
      · show g4 65 (m * 3 + a) = dlR w L (10 + 20 * m + (2 + a))
        rw [dlR_n hl16 hm (by omega), q4 65 (by decide)]
        by_cases h : m < L.length
        · have D := cDs_n D3 h
          rw [Nat.zero_add] at D
          rw [if_pos h, D.2.2.1 a ha]
          unfold dFv
          rw [if_pos (by omega)]
        · rw [if_neg h]
          exact (Z3 m (by omega) hm).1.2.1 a ha
    refine s_measure (d := d + 8) (t := 61) (by decide) hWI ts fun g5 f5 e5 => ?_
    obtain ⟨t5, x5, l5⟩ := Tc_dl hw hL c1 hx hc hl c2 f3 e62 D3 Z3 hg4 hr f5 e5
    simp -implicitDefEqProofs (disch := first | assumption | omega) only [szS_0, szS_i, szS_r, szS_l, x_cons, x_goto, ob_some, kl_i, kl_r, kl_l, kl_n, push_n, push_s, pop_0, pop_i, pop_r, Int.reduceToNat, List.length_cons, List.length_nil, Nat.reduceAdd, Nat.reduceLeDiff, Nat.zero_add, true_and, nI_n0, nat_le, Nat.add_zero, rt_vr_tellDelta, x_al0, x_call, x_getf, x_ifne, x_iret, x_m1, fd_0_0, fd_0_1, fd_0_2, fd_0_3, fd_0_4, fd_0_5, fd_0_6, fd_0_7, fd_0_8, fd_0_9, sf_0_9]
    refine s_tcopy (d := d + 7) (t := 1) (s := 61) (by decide) (by decide) (by decide) fun g6 c6 => ?_
    have t6 := Tc_cp hWI c6 t5
    have x6 := Tx_cp c6 x5
    have l6 := CL_cp c6 l5
    have e60 : g6 2 0 = nI L.length := t6.1.1
    simp -implicitDefEqProofs (disch := first | assumption | omega) only [szS_0, szS_i, szS_r, szS_l, x_cons, x_goto, ob_some, kl_i, kl_r, kl_l, kl_n, push_n, push_s, pop_0, pop_i, pop_r, Int.reduceToNat, List.length_cons, List.length_nil, Nat.reduceAdd, Nat.reduceLeDiff, Nat.zero_add, true_and, nI_n0, nat_le, Nat.add_zero, rt_vr_tellDelta, x_al0, x_call, x_getf, x_ifne, x_iret, x_m1, fd_0_0, fd_0_1, fd_0_2, fd_0_3, fd_0_4, fd_0_5, fd_0_6, fd_0_7, fd_0_8, fd_0_9, sf_0_9, s_forget, fd_1_0, fd_1_1, fd_1_2, fd_1_3, fd_1_4, fd_2_0, sf_2_0, fd_2_1, fd_2_2, fd_2_3, fd_2_4, upw_o, e60]
    have o5 : ∀ b, b = 0 ∨ (31 ≤ b ∧ b < 61) ∨ b = 169 ∨ 196 ≤ b ∨ b = 84 ∨ b = 88 → g6 b = g2 b := fun b hb => by rw [c6.1 b (by omega), f5 b (by omega), q4 b (by omega), f3 b (by omega) (by omega) (by omega) (by omega) (by omega) (by omega) (by omega) (by omega) (by omega) (by omega)]
    refine HN L _ e (fun b hb => by rw [upw_o (by omega), o5 b (by omega), o2 b (by omega)]) (fun x x1 x2 x3 x4 => by rw [upw_o (by decide), c6.1 168 (by decide), f5 168 (by decide), q4 168 (by decide), r3 x x1 x2 x3 x4, o2 168 (by omega)]) ⟨Tc_c t6 fun a a1 a2 => upw_o (by omega), Tx_c x6 (fun _ _ => rfl) (fun k _ => by rw [upw_o (by decide)]) (fun k _ => by rw [upw_o (by decide)]) (upw_o (by decide)), CL_c l6 fun a a1 a2 a3 => upw_o (by omega)⟩ (rgK_0 (by rw [pu_n (by decide), pu_s]) pu_s) (zS_c z2 fun b hb => by rw [upw_o (by omega), o5 b (by omega)])
  · simp -implicitDefEqProofs (disch := first | assumption | omega) only [szS_0, szS_i, szS_r, szS_l, x_cons, x_goto, ob_some, kl_i, kl_r, kl_l, kl_n, push_n, push_s, pop_0, pop_i, pop_r, Int.reduceToNat, List.length_cons, List.length_nil, Nat.reduceAdd, Nat.reduceLeDiff, Nat.zero_add, true_and, nI_n0, nat_le, Nat.add_zero, rt_vr_tellDelta, x_al0, x_call, x_getf, x_ifne, x_iret, x_m1, ↓reduceIte]
    exact HX f j g3 e (fun b hb => by rw [f3 b (by omega) (by omega) (by omega) (by omega) (by omega) (by omega) (by omega) (by omega) (by omega) (by omega), o2 b (by omega)]) (fun x x1 x2 x3 x4 x5 x6 => by rw [r3 x x1 x2 x3 x4 x5 x6, o2 168 (by omega)]) e2 e3 (zS_c z2 fun b hb => f3 b (by omega) (by omega) (by omega) (by omega) (by omega) (by omega) (by omega) (by omega) (by omega) (by omega))
theorem s_tellL {k b0 b : Nat} (hb : k = 1 ∧ b0 = 22 ∧ b = 82 ∨ k = 2 ∧ b0 = 26 ∧ b = 86) (hR : RT T n g) (hz : g (b + 2) 0 = nI 0)
    (HN : ∀ ls g', lnF T n k 401 0 0 = .inr ls → (∀ a, a ≠ 168 → a ≠ 170 → a ≠ 171 → a ≠ 172 → (a < b ∨ b + 2 < a) → (a < b0 ∨ b0 + 2 < a) → g' a = g a) → (∀ x, x ≠ 4 → x ≠ 5 → x ≠ 9 → x ≠ 10 → g' 168 x = g 168 x) → LC b0 (k - 1) g' ls → g' (b + 2) 0 = nI 0 → P (some (.int (nI ls.length))) (E g' q))
    (HX : ∀ f j g', lnF T n k 401 0 0 = .inl (f, j) → (∀ a, a ≠ 168 → a ≠ 170 → a ≠ 171 → a ≠ 172 → (a < b ∨ b + 2 < a) → g' a = g a) → (∀ x, x ≠ 2 → x ≠ 3 → x ≠ 4 → x ≠ 5 → x ≠ 9 → x ≠ 10 → g' 168 x = g 168 x) → g' 168 2 = nI f → g' 168 3 = nI (kB T n j) → g' (b + 2) 0 = nI 0 → P (some (.int (-1))) (E g' q)) :
    callC (ev (d + 24)) vr_tellLaw [.ref 0, .ref b0, .ref b, .ref (100000 + WID k)] (E g q) P := by
  refine in_vr_tellLaw rfl ?_
  have n10 : (nI 1 = nI 0) = False := eq_false (by decide)
  have hB : b = 22 ∨ b = 26 ∨ b = 52 ∨ b = 56 ∨ b = 82 ∨ b = 86 := by omega
  have hB0 : b0 = 22 ∨ b0 = 26 ∨ b0 = 52 ∨ b0 = 56 ∨ b0 = 82 ∨ b0 = 86 := by omega
  rw [b_vr_tellLaw_0]
  simp -implicitDefEqProofs (disch := first | assumption | omega) only [szS_0, szS_i, szS_r, szS_l, x_cons, x_goto, ob_some, kl_i, kl_r, kl_l, kl_n, push_n, push_s, pop_0, pop_i, pop_r, Int.reduceToNat, List.length_cons, List.length_nil, Nat.reduceAdd, Nat.reduceLeDiff, Nat.zero_add, true_and, nI_n0, nat_le, Nat.add_zero, rt_vr_tellLaw, x_al0, x_al1, x_al2, x_al3, x_call, x_getf, x_ifne, x_iret, x_m1, fd_0_0, fd_0_1, fd_0_2, fd_0_3, fd_0_4, fd_0_5, fd_0_6, fd_0_7, fd_0_8, fd_0_9, sf_0_9]
  refine s_creadLaw (d := d) hB (by omega) (by omega) hR hz (fun ls g1 e f1 r1 l1 => ?_) fun f j g1 e f1 r1 e2 e3 ez => ?_
  · simp -implicitDefEqProofs (disch := first | assumption | omega) only [szS_0, szS_i, szS_r, szS_l, x_cons, x_goto, ob_some, kl_i, kl_r, kl_l, kl_n, push_n, push_s, pop_0, pop_i, pop_r, Int.reduceToNat, List.length_cons, List.length_nil, Nat.reduceAdd, Nat.reduceLeDiff, Nat.zero_add, true_and, nI_n0, nat_le, Nat.add_zero, rt_vr_tellLaw, x_al0, x_al1, x_al2, x_al3, x_call, x_getf, x_ifne, x_iret, x_m1, n10, ↓reduceIte, b_vr_tellLaw_14]
    refine s_lcopy (d := d + 21) hB0 (b' := b) hB (by omega) fun g2 f2 c2 => ?_
    have l2 := LC_b c2 l1
    have e0 := l2.1
    have lf : fld (E g2 q) b0 200 = some (.int (g2 b0 0)) := lf_0 hB0
    simp -implicitDefEqProofs (disch := first | assumption | omega) only [szS_0, szS_i, szS_r, szS_l, x_cons, x_goto, ob_some, kl_i, kl_r, kl_l, kl_n, push_n, push_s, pop_0, pop_i, pop_r, Int.reduceToNat, List.length_cons, List.length_nil, Nat.reduceAdd, Nat.reduceLeDiff, Nat.zero_add, true_and, nI_n0, nat_le, Nat.add_zero, rt_vr_tellLaw, x_al0, x_al1, x_al2, x_al3, x_call, x_getf, x_ifne, x_iret, x_m1, lf, e0]
    exact HN ls g2 e (fun a a1 a2 a3 a4 a5 a6 => by rw [f2 a a6, f1 a a1 a2 a3 a4 (by omega) (by omega) (by omega)]) (fun x x1 x2 x3 x4 => by rw [f2 168 (by omega), r1 x x1 x2 x3 x4]) l2 (by rw [f2 (b + 2) (by omega)]; exact l1.2.2.2)
  · simp -implicitDefEqProofs (disch := first | assumption | omega) only [szS_0, szS_i, szS_r, szS_l, x_cons, x_goto, ob_some, kl_i, kl_r, kl_l, kl_n, push_n, push_s, pop_0, pop_i, pop_r, Int.reduceToNat, List.length_cons, List.length_nil, Nat.reduceAdd, Nat.reduceLeDiff, Nat.zero_add, true_and, nI_n0, nat_le, Nat.add_zero, rt_vr_tellLaw, x_al0, x_al1, x_al2, x_al3, x_call, x_getf, x_ifne, x_iret, x_m1, ↓reduceIte]
    exact HX f j g1 e (fun a a1 a2 a3 a4 a5 => f1 a a1 a2 a3 a4 (by omega) (by omega) (by omega)) r1 e2 e3 ez
/-- the class's object behind a text: its reader anew -/
theorem Kc_t {w' : Nat → Int32} {V' M' : LW} {pl' : PL} {a b : Int32} {g' g2 : Nat → Nat → Int32} (h : Kc w V M pl im R g) (hA : KA w' V' M' g2) (hr : rgK pl' g2) (e : ∀ b, b = 0 ∨ (31 ≤ b ∧ b < 61) → g2 b = g b) (e2 : g2 168 2 = a) (e3 : g2 168 3 = b) (hz : zS g2) (hg : g' = upw g2 168 (pu (g2 168) 1 (nI 0))) : Kc w' V' M' pl' im ((0, R.1.2), (a, b)) g' := by
  have o : ∀ b, b ≠ 168 → g' b = g2 b := fun b hb => by rw [hg, upw_o hb]
  refine ⟨KA_c hA fun b b1 b2 _ _ => o b (by omega), rgK_c hr fun b b1 b2 => o b (by omega), imK_c h.2.2.1 fun b hb => by rw [o b (by omega), e b (by omega)], ?_, fun k hk => absurd hk (Nat.not_lt_zero k), ?_, ?_, zS_c hz fun b hb => o b (by omega)⟩
  · rw [hg, upw_s, pu_s]
  · rw [hg, upw_s, pu_n (by decide)]
    exact e2
  · rw [hg, upw_s, pu_n (by decide)]
    exact e3
theorem s_vtext {k : Nat} {B : Nat} (hk : k < 3) (hK : Kc w V M pl im R g) (hD : rowI B w V M) (hn : R.1.1 ≤ 400) (hT : ∀ j, j < R.1.1 → R.1.2 j < 256)
    (H0 : k = 0 → ∀ L g', dlF R.1.2 R.1.1 = .inr L → fC g g' → Kc (dlR w L) V M [] im ((0, R.1.2), (nI 0, -1)) g' → P (some (.int (nI L.length))) (E g' q))
    (H1 : k = 1 → ∀ ls g', lnF R.1.2 R.1.1 k 401 0 0 = .inr ls → fC g g' → Kc w ls M pl im ((0, R.1.2), (nI 0, -1)) g' → P (some (.int (nI ls.length))) (E g' q))
    (H2 : k = 2 → ∀ ls g', lnF R.1.2 R.1.1 k 401 0 0 = .inr ls → fC g g' → Kc w V ls pl im ((0, R.1.2), (nI 0, -1)) g' → P (some (.int (nI ls.length))) (E g' q))
    (HX : ∀ f j g', (k = 0 → dlF R.1.2 R.1.1 = .inl (f, j)) → (k ≠ 0 → lnF R.1.2 R.1.1 k 401 0 0 = .inl (f, j)) → fC g g' → Kc w V M pl im ((0, R.1.2), (nI f, nI (kB R.1.2 R.1.1 j))) g' → P (some (.int (-1))) (E g' q)) :
    callC (ev (d + 25)) vr_text [.ref 0, .int (nI k)] (E g q) P := by
  refine in_vr_text rfl ?_
  have n10 : (nI 1 = nI 0) = False := eq_false (by decide)
  have n20 : (nI 2 = nI 0) = False := eq_false (by decide)
  have n21 : (nI 2 = nI 1) = False := eq_false (by decide)
  obtain ⟨⟨hc, hx, hl⟩, hr, hi, r1, r2, r3, r4, hz⟩ := id hK
  obtain ⟨g1, hg1⟩ : ∃ g1, g1 = upw g 168 (pu (pu (g 168) 2 (nI 0)) 3 (-1)) := ⟨_, rfl⟩
  have o1 : ∀ b, b ≠ 168 → g1 b = g b := fun b hb => by rw [hg1, upw_o hb]
  have m1 : ∀ x, x ≠ 2 → x ≠ 3 → g1 168 x = g 168 x := fun x x1 x2 => by rw [hg1, upw_s, pu_n x2, pu_n x1]
  have m2 : g1 168 2 = nI 0 := by rw [hg1, upw_s, pu_n (by decide), pu_s]
  have m3 : g1 168 3 = -1 := by rw [hg1, upw_s, pu_s]
  have hR : RT R.1.2 R.1.1 g1 := ⟨by rw [m1 1 (by decide) (by decide)]; exact r1, hn, fun j hj => ⟨by rw [o1 169 (by decide)]; exact r2 j hj, hT j hj⟩⟩
  have hc1 : Tc 1 w g1 := Tc_c hc fun a a1 a2 => o1 a (by omega)
  have hx1 : Tx true 1 w g1 := Tx_c hx (fun _ _ => rfl) (fun k _ => by rw [o1 _ (by decide)]) (fun k _ => by rw [o1 _ (by decide)]) (o1 _ (by decide))
  have hl1 : CL 1 g1 V M := CL_c hl fun a a1 a2 a3 => o1 a (by omega)
  have ff : ∀ {d : Nat} {Q : QT}, callC (ev (d + 1)) re_forgetFault [.ref 168] (E g q) Q = Q none (E g1 q) := fun {d} {Q} => by
    rw [hg1]
    refine call_eq (in_re_forgetFault rfl ?_)
    rw [b_re_forgetFault_0]
    simp -implicitDefEqProofs (disch := first | assumption | omega) only [szS_0, szS_i, szS_r, szS_l, x_cons, x_goto, ob_some, kl_i, kl_r, kl_l, kl_n, push_n, push_s, pop_0, pop_i, pop_r, Int.reduceToNat, List.length_cons, List.length_nil, Nat.reduceAdd, Nat.reduceLeDiff, Nat.zero_add, true_and, nI_n0, nat_le, Nat.add_zero, rt_re_forgetFault, x_al0, x_ldc, x_m1, x_putf, x_vret, fd_168_0, fd_168_1, sf_168_1, fd_168_2, sf_168_2, fd_168_3, sf_168_3, fd_168_4, sf_168_4, fd_168_5, sf_168_5, fd_168_6, fd_168_7, fd_168_8, fd_168_9, sf_168_9, fd_168_10, sf_168_10, pu_g, pu_w, upw_s, upw_w]
    all_goals first | rfl | exact ⟨rfl, rfl⟩ | exact ⟨rfl, trivial⟩ | exact ⟨trivial, rfl⟩ | trivial
  have fin : ∀ (x : Int32) (g2 : Nat → Nat → Int32), P (some (.int x)) (E (upw g2 168 (pu (g2 168) 1 (nI 0))) q) → wp (ev (d + 24)) P vr_text 76 [some (.ref 0), some (.int (nI k)), some (.int x)] [] (E g2 q) := fun x g2 hp => by
    rw [b_vr_text_76]
    simp -implicitDefEqProofs (disch := first | assumption | omega) only [szS_0, szS_i, szS_r, szS_l, x_cons, x_goto, ob_some, kl_i, kl_r, kl_l, kl_n, push_n, push_s, pop_0, pop_i, pop_r, Int.reduceToNat, List.length_cons, List.length_nil, Nat.reduceAdd, Nat.reduceLeDiff, Nat.zero_add, true_and, nI_n0, nat_le, Nat.add_zero, rt_vr_text, x_al0, x_call, x_getf, x_goto, x_icne, x_ifne, x_il1, x_il2, x_iret, x_is2, x_ldc, x_m1, x_putf, x_str, fd_0_0, fd_0_1, fd_0_2, fd_0_3, fd_0_4, fd_0_5, fd_0_6, fd_0_7, fd_0_8, fd_0_9, sf_0_9, fd_168_0, fd_168_1, sf_168_1, fd_168_2, sf_168_2, fd_168_3, sf_168_3, fd_168_4, sf_168_4, fd_168_5, sf_168_5, fd_168_6, fd_168_7, fd_168_8, fd_168_9, sf_168_9, fd_168_10, sf_168_10, pu_g]
    exact hp
  have hfC : ∀ g2, (∀ b, 196 ≤ b → g2 b = g1 b) → fC g (upw g2 168 (pu (g2 168) 1 (nI 0))) := fun g2 h b hb => by rw [upw_o (by omega), h b hb, o1 b (by omega)]
  rw [b_vr_text_0]
  simp -implicitDefEqProofs (disch := first | assumption | omega) only [szS_0, szS_i, szS_r, szS_l, x_cons, x_goto, ob_some, kl_i, kl_r, kl_l, kl_n, push_n, push_s, pop_0, pop_i, pop_r, Int.reduceToNat, List.length_cons, List.length_nil, Nat.reduceAdd, Nat.reduceLeDiff, Nat.zero_add, true_and, nI_n0, nat_le, Nat.add_zero, rt_vr_text, x_al0, x_call, x_getf, x_goto, x_icne, x_ifne, x_il1, x_il2, x_iret, x_is2, x_ldc, x_m1, x_putf, x_str, fd_0_0, fd_0_1, fd_0_2, fd_0_3, fd_0_4, fd_0_5, fd_0_6, fd_0_7, fd_0_8, fd_0_9, sf_0_9, ff]
  have hk3 : k = 0 ∨ k = 1 ∨ k = 2 := by omega
  rcases hk3 with rfl | rfl | rfl
  · simp -implicitDefEqProofs (disch := first | assumption | omega) only [szS_0, szS_i, szS_r, szS_l, x_cons, x_goto, ob_some, kl_i, kl_r, kl_l, kl_n, push_n, push_s, pop_0, pop_i, pop_r, Int.reduceToNat, List.length_cons, List.length_nil, Nat.reduceAdd, Nat.reduceLeDiff, Nat.zero_add, true_and, nI_n0, nat_le, Nat.add_zero, rt_vr_text, x_al0, x_call, x_getf, x_goto, x_icne, x_ifne, x_il1, x_il2, x_iret, x_is2, x_ldc, x_m1, x_putf, x_str, ↓reduceIte]
    refine s_tellD (d := d + 13) hc1 hx1 hl1 hD.1 hR (fun L g2 e f2 q2 A2 rg z2 => ?_) fun f j g2 e f2 q2 e2 e3 z2 => ?_
    · simp -implicitDefEqProofs (disch := first | assumption | omega) only [szS_0, szS_i, szS_r, szS_l, x_cons, x_goto, ob_some, kl_i, kl_r, kl_l, kl_n, push_n, push_s, pop_0, pop_i, pop_r, Int.reduceToNat, List.length_cons, List.length_nil, Nat.reduceAdd, Nat.reduceLeDiff, Nat.zero_add, true_and, nI_n0, nat_le, Nat.add_zero, rt_vr_text, x_al0, x_call, x_getf, x_goto, x_icne, x_ifne, x_il1, x_il2, x_iret, x_is2, x_ldc, x_m1, x_putf, x_str]
      refine fin _ g2 (H0 rfl L _ e (hfC g2 fun b hb => f2 b (by omega)) (Kc_t hK A2 rg (fun b hb => by rw [f2 b (by omega), o1 b (by omega)]) ?_ ?_ z2 rfl))
      · rw [q2 2 (by decide) (by decide) (by decide) (by decide)]; exact m2
      · rw [q2 3 (by decide) (by decide) (by decide) (by decide)]; exact m3
    · simp -implicitDefEqProofs (disch := first | assumption | omega) only [szS_0, szS_i, szS_r, szS_l, x_cons, x_goto, ob_some, kl_i, kl_r, kl_l, kl_n, push_n, push_s, pop_0, pop_i, pop_r, Int.reduceToNat, List.length_cons, List.length_nil, Nat.reduceAdd, Nat.reduceLeDiff, Nat.zero_add, true_and, nI_n0, nat_le, Nat.add_zero, rt_vr_text, x_al0, x_call, x_getf, x_goto, x_icne, x_ifne, x_il1, x_il2, x_iret, x_is2, x_ldc, x_m1, x_putf, x_str]
      refine fin _ g2 (HX f j _ (fun _ => e) (fun h => absurd rfl h) (hfC g2 fun b hb => f2 b (by omega)) (Kc_t hK (KA_c ⟨hc1, hx1, hl1⟩ fun b b1 b2 _ _ => f2 b (by omega)) (rgK_c hr fun b b1 b2 => by rw [f2 b (by omega), o1 b (by omega)]) (fun b hb => by rw [f2 b (by omega), o1 b (by omega)]) e2 e3 z2 rfl))
  · simp -implicitDefEqProofs (disch := first | assumption | omega) only [szS_0, szS_i, szS_r, szS_l, x_cons, x_goto, ob_some, kl_i, kl_r, kl_l, kl_n, push_n, push_s, pop_0, pop_i, pop_r, Int.reduceToNat, List.length_cons, List.length_nil, Nat.reduceAdd, Nat.reduceLeDiff, Nat.zero_add, true_and, nI_n0, nat_le, Nat.add_zero, rt_vr_text, x_al0, x_call, x_getf, x_goto, x_icne, x_ifne, x_il1, x_il2, x_iret, x_is2, x_ldc, x_m1, x_putf, x_str, n10, ↓reduceIte, b_vr_text_21, fd_0_0, fd_0_1, fd_0_2, fd_0_3, fd_0_4, fd_0_5, fd_0_6, fd_0_7, fd_0_8, fd_0_9, sf_0_9, fd_1_0, fd_1_1, fd_1_2, fd_1_3, fd_1_4, fd_61_0, fd_61_1, fd_61_2, fd_61_3, fd_61_4]
    refine s_tellL (d := d) (k := 1) (b0 := 22) (b := 82) (Or.inl ⟨rfl, rfl, rfl⟩) hR (by rw [o1 84 (by decide)]; exact hz.1) (fun ls g2 e f2 q2 l2 z2 => ?_) fun f j g2 e f2 q2 e2 e3 z2 => ?_
    · have hls := lnF_k (by decide) (by decide) 401 0 0 (Nat.zero_le _) (Nat.zero_le _) e
      have A2 : KA w ls M g2 := ⟨Tc_c hc1 fun a a1 a2 => f2 a (by omega) (by omega) (by omega) (by omega) (by omega) (by omega), Tx_c hx1 (fun _ _ => rfl) (fun k _ => by rw [f2 7 (by decide) (by decide) (by decide) (by decide) (by decide) (by decide)]) (fun k _ => by rw [f2 8 (by decide) (by decide) (by decide) (by decide) (by decide) (by decide)]) (f2 30 (by decide) (by decide) (by decide) (by decide) (by decide) (by decide)), l2, LC_c (f2 26 (by decide) (by decide) (by decide) (by decide) (by decide) (by decide)) (f2 27 (by decide) (by decide) (by decide) (by decide) (by decide) (by decide)) (f2 28 (by decide) (by decide) (by decide) (by decide) (by decide) (by decide)) hl1.2.1, ⟨hls.2.1, hls.2.2.1⟩, hl1.2.2.2⟩
      simp -implicitDefEqProofs (disch := first | assumption | omega) only [szS_0, szS_i, szS_r, szS_l, x_cons, x_goto, ob_some, kl_i, kl_r, kl_l, kl_n, push_n, push_s, pop_0, pop_i, pop_r, Int.reduceToNat, List.length_cons, List.length_nil, Nat.reduceAdd, Nat.reduceLeDiff, Nat.zero_add, true_and, nI_n0, nat_le, Nat.add_zero, rt_vr_text, x_al0, x_call, x_getf, x_goto, x_icne, x_ifne, x_il1, x_il2, x_iret, x_is2, x_ldc, x_m1, x_putf, x_str]
      refine fin _ g2 (H1 rfl ls _ e (hfC g2 fun b hb => f2 b (by omega) (by omega) (by omega) (by omega) (by omega) (by omega)) (Kc_t hK A2 (rgK_c hr fun b b1 b2 => by rw [f2 b (by omega) (by omega) (by omega) (by omega) (by omega) (by omega), o1 b (by omega)]) (fun b hb => by rw [f2 b (by omega) (by omega) (by omega) (by omega) (by omega) (by omega), o1 b (by omega)]) ?_ ?_ ⟨z2, by rw [f2 88 (by decide) (by decide) (by decide) (by decide) (by decide) (by decide), o1 88 (by decide)]; exact hz.2⟩ rfl))
      · rw [q2 2 (by decide) (by decide) (by decide) (by decide)]; exact m2
      · rw [q2 3 (by decide) (by decide) (by decide) (by decide)]; exact m3
    · simp -implicitDefEqProofs (disch := first | assumption | omega) only [szS_0, szS_i, szS_r, szS_l, x_cons, x_goto, ob_some, kl_i, kl_r, kl_l, kl_n, push_n, push_s, pop_0, pop_i, pop_r, Int.reduceToNat, List.length_cons, List.length_nil, Nat.reduceAdd, Nat.reduceLeDiff, Nat.zero_add, true_and, nI_n0, nat_le, Nat.add_zero, rt_vr_text, x_al0, x_call, x_getf, x_goto, x_icne, x_ifne, x_il1, x_il2, x_iret, x_is2, x_ldc, x_m1, x_putf, x_str]
      refine fin _ g2 (HX f j _ (fun h => absurd h (by decide)) (fun _ => e) (hfC g2 fun b hb => f2 b (by omega) (by omega) (by omega) (by omega) (by omega)) (Kc_t hK (KA_c ⟨hc1, hx1, hl1⟩ fun b b1 b2 _ _ => f2 b (by omega) (by omega) (by omega) (by omega) (by omega)) (rgK_c hr fun b b1 b2 => by rw [f2 b (by omega) (by omega) (by omega) (by omega) (by omega), o1 b (by omega)]) (fun b hb => by rw [f2 b (by omega) (by omega) (by omega) (by omega) (by omega), o1 b (by omega)]) e2 e3 ⟨z2, by rw [f2 88 (by decide) (by decide) (by decide) (by decide) (by decide), o1 88 (by decide)]; exact hz.2⟩ rfl))
  · simp -implicitDefEqProofs (disch := first | assumption | omega) only [szS_0, szS_i, szS_r, szS_l, x_cons, x_goto, ob_some, kl_i, kl_r, kl_l, kl_n, push_n, push_s, pop_0, pop_i, pop_r, Int.reduceToNat, List.length_cons, List.length_nil, Nat.reduceAdd, Nat.reduceLeDiff, Nat.zero_add, true_and, nI_n0, nat_le, Nat.add_zero, rt_vr_text, x_al0, x_call, x_getf, x_goto, x_icne, x_ifne, x_il1, x_il2, x_iret, x_is2, x_ldc, x_m1, x_putf, x_str, n20, n21, ↓reduceIte, b_vr_text_21, b_vr_text_50, fd_0_0, fd_0_1, fd_0_2, fd_0_3, fd_0_4, fd_0_5, fd_0_6, fd_0_7, fd_0_8, fd_0_9, sf_0_9, fd_1_0, fd_1_1, fd_1_2, fd_1_3, fd_1_4, fd_61_0, fd_61_1, fd_61_2, fd_61_3, fd_61_4]
    refine s_tellL (d := d) (k := 2) (b0 := 26) (b := 86) (Or.inr ⟨rfl, rfl, rfl⟩) hR (by rw [o1 88 (by decide)]; exact hz.2) (fun ls g2 e f2 q2 l2 z2 => ?_) fun f j g2 e f2 q2 e2 e3 z2 => ?_
    · have hls := lnF_k (by decide) (by decide) 401 0 0 (Nat.zero_le _) (Nat.zero_le _) e
      have A2 : KA w V ls g2 := ⟨Tc_c hc1 fun a a1 a2 => f2 a (by omega) (by omega) (by omega) (by omega) (by omega) (by omega), Tx_c hx1 (fun _ _ => rfl) (fun k _ => by rw [f2 7 (by decide) (by decide) (by decide) (by decide) (by decide) (by decide)]) (fun k _ => by rw [f2 8 (by decide) (by decide) (by decide) (by decide) (by decide) (by decide)]) (f2 30 (by decide) (by decide) (by decide) (by decide) (by decide) (by decide)), LC_c (f2 22 (by decide) (by decide) (by decide) (by decide) (by decide) (by decide)) (f2 23 (by decide) (by decide) (by decide) (by decide) (by decide) (by decide)) (f2 24 (by decide) (by decide) (by decide) (by decide) (by decide) (by decide)) hl1.1, l2, hl1.2.2.1, ⟨hls.2.1, hls.2.2.1⟩⟩
      simp -implicitDefEqProofs (disch := first | assumption | omega) only [szS_0, szS_i, szS_r, szS_l, x_cons, x_goto, ob_some, kl_i, kl_r, kl_l, kl_n, push_n, push_s, pop_0, pop_i, pop_r, Int.reduceToNat, List.length_cons, List.length_nil, Nat.reduceAdd, Nat.reduceLeDiff, Nat.zero_add, true_and, nI_n0, nat_le, Nat.add_zero, rt_vr_text, x_al0, x_call, x_getf, x_goto, x_icne, x_ifne, x_il1, x_il2, x_iret, x_is2, x_ldc, x_m1, x_putf, x_str]
      refine fin _ g2 (H2 rfl ls _ e (hfC g2 fun b hb => f2 b (by omega) (by omega) (by omega) (by omega) (by omega) (by omega)) (Kc_t hK A2 (rgK_c hr fun b b1 b2 => by rw [f2 b (by omega) (by omega) (by omega) (by omega) (by omega) (by omega), o1 b (by omega)]) (fun b hb => by rw [f2 b (by omega) (by omega) (by omega) (by omega) (by omega) (by omega), o1 b (by omega)]) ?_ ?_ ⟨by rw [f2 84 (by decide) (by decide) (by decide) (by decide) (by decide) (by decide), o1 84 (by decide)]; exact hz.1, z2⟩ rfl))
      · rw [q2 2 (by decide) (by decide) (by decide) (by decide)]; exact m2
      · rw [q2 3 (by decide) (by decide) (by decide) (by decide)]; exact m3
    · simp -implicitDefEqProofs (disch := first | assumption | omega) only [szS_0, szS_i, szS_r, szS_l, x_cons, x_goto, ob_some, kl_i, kl_r, kl_l, kl_n, push_n, push_s, pop_0, pop_i, pop_r, Int.reduceToNat, List.length_cons, List.length_nil, Nat.reduceAdd, Nat.reduceLeDiff, Nat.zero_add, true_and, nI_n0, nat_le, Nat.add_zero, rt_vr_text, x_al0, x_call, x_getf, x_goto, x_icne, x_ifne, x_il1, x_il2, x_iret, x_is2, x_ldc, x_m1, x_putf, x_str]
      refine fin _ g2 (HX f j _ (fun h => absurd h (by decide)) (fun _ => e) (hfC g2 fun b hb => f2 b (by omega) (by omega) (by omega) (by omega) (by omega)) (Kc_t hK (KA_c ⟨hc1, hx1, hl1⟩ fun b b1 b2 _ _ => f2 b (by omega) (by omega) (by omega) (by omega) (by omega)) (rgK_c hr fun b b1 b2 => by rw [f2 b (by omega) (by omega) (by omega) (by omega) (by omega), o1 b (by omega)]) (fun b hb => by rw [f2 b (by omega) (by omega) (by omega) (by omega) (by omega), o1 b (by omega)]) e2 e3 ⟨by rw [f2 84 (by decide) (by decide) (by decide) (by decide) (by decide), o1 84 (by decide)]; exact hz.1, z2⟩ rfl))
theorem s_vtextN {k : Int32} (h0 : k ≠ nI 0) (h1 : k ≠ nI 1) (h2 : k ≠ nI 2) (hK : Kc w V M pl im R g) (H : ∀ g', fC g g' → Kc w V M pl im ((0, R.1.2), (nI 0, -1)) g' → P (some (.int (-1))) (E g' q)) : callC (ev (d + 2)) vr_text [.ref 0, .int k] (E g q) P := by
  refine in_vr_text rfl ?_
  obtain ⟨⟨hc, hx, hl⟩, hr, hi, r1, r2, r3, r4, hz⟩ := id hK
  obtain ⟨g1, hg1⟩ : ∃ g1, g1 = upw g 168 (pu (pu (g 168) 2 (nI 0)) 3 (-1)) := ⟨_, rfl⟩
  have o1 : ∀ b, b ≠ 168 → g1 b = g b := fun b hb => by rw [hg1, upw_o hb]
  have ff : ∀ {d : Nat} {Q : QT}, callC (ev (d + 1)) re_forgetFault [.ref 168] (E g q) Q = Q none (E g1 q) := fun {d} {Q} => by
    rw [hg1]
    refine call_eq (in_re_forgetFault rfl ?_)
    rw [b_re_forgetFault_0]
    simp -implicitDefEqProofs (disch := first | assumption | omega) only [szS_0, szS_i, szS_r, szS_l, x_cons, x_goto, ob_some, kl_i, kl_r, kl_l, kl_n, push_n, push_s, pop_0, pop_i, pop_r, Int.reduceToNat, List.length_cons, List.length_nil, Nat.reduceAdd, Nat.reduceLeDiff, Nat.zero_add, true_and, nI_n0, nat_le, Nat.add_zero, rt_re_forgetFault, x_al0, x_ldc, x_m1, x_putf, x_vret, fd_168_0, fd_168_1, sf_168_1, fd_168_2, sf_168_2, fd_168_3, sf_168_3, fd_168_4, sf_168_4, fd_168_5, sf_168_5, fd_168_6, fd_168_7, fd_168_8, fd_168_9, sf_168_9, fd_168_10, sf_168_10, pu_g, pu_w, upw_s, upw_w]
    all_goals first | rfl | exact ⟨rfl, rfl⟩ | exact ⟨rfl, trivial⟩ | exact ⟨trivial, rfl⟩ | trivial
  rw [b_vr_text_0]
  simp -implicitDefEqProofs (disch := first | assumption | omega) only [szS_0, szS_i, szS_r, szS_l, x_cons, x_goto, ob_some, kl_i, kl_r, kl_l, kl_n, push_n, push_s, pop_0, pop_i, pop_r, Int.reduceToNat, List.length_cons, List.length_nil, Nat.reduceAdd, Nat.reduceLeDiff, Nat.zero_add, true_and, nI_n0, nat_le, Nat.add_zero, rt_vr_text, x_al0, x_call, x_getf, x_goto, x_icne, x_ifne, x_il1, x_il2, x_iret, x_is2, x_ldc, x_m1, x_putf, x_str, fd_0_0, fd_0_1, fd_0_2, fd_0_3, fd_0_4, fd_0_5, fd_0_6, fd_0_7, fd_0_8, fd_0_9, sf_0_9, ff, h0, ↓reduceIte, b_vr_text_21, h1, b_vr_text_50, h2, b_vr_text_76, fd_168_0, fd_168_1, sf_168_1, fd_168_2, sf_168_2, fd_168_3, sf_168_3, fd_168_4, sf_168_4, fd_168_5, sf_168_5, fd_168_6, fd_168_7, fd_168_8, fd_168_9, sf_168_9, fd_168_10, sf_168_10, pu_g]
  exact H _ (fun b hb => by rw [upw_o (by omega), o1 b (by omega)]) (Kc_t hK (KA_c ⟨hc, hx, hl⟩ fun b b1 b2 _ _ => o1 b (by omega)) (rgK_c hr fun b b1 b2 => o1 b (by omega)) (fun b hb => o1 b (by omega)) (by rw [hg1, upw_s, pu_n (by decide), pu_s]) (by rw [hg1, upw_s, pu_s]) (zS_c hz fun b hb => o1 b (by omega)) rfl)
theorem Kc_w {w' : Nat → Int32} {g' : Nat → Nat → Int32} (hw : WI w) (h : Kc w V M pl im R g') (e : ∀ x, x < 1205 → w' x = w x) : Kc w' V M pl im R g' :=
  ⟨⟨Tc_w hw h.1.1 fun k _ _ _ _ hk => e k (by omega), Tx_c h.1.2.1 (fun k hk => e k (by omega)) (fun _ _ => rfl) (fun _ _ => rfl) rfl, h.1.2.2⟩, h.2⟩
theorem kB_u {T : Nat → Nat} {n f j f' j' : Nat} {α : Type} {r : Sum (Nat × Nat) α} (h : r = .inl (f, j)) (h' : r = .inl (f', j')) : f = f' ∧ j = j' := by
  rw [h] at h'
  cases h'
  exact ⟨rfl, rfl⟩
end TXT
theorem k_text {d L B : Nat} {xs : Nat → Int32} {g : Nat → Nat → Int32} {q : Nat → Nat → Int64} (hB : 15984 ≤ B) (hW : World B g) (hE : Env L xs g) {k : Int32} : two (d + 51) L xs B vr_text mo_text [.ref 0, .int k] [.ref 196, .int k] g q := by
  obtain ⟨w, V, M, pl, im, R, hD, hK, hM⟩ := hW
  have hw := hD.1.1
  have hn := hD.2.2.2.1
  have hT := hD.2.2.2.2
  by_cases hk : nI 0 ≤ k ∧ k ≤ nI 2
  · obtain ⟨k', hk', rfl⟩ := int_is hk (by decide)
    have hk3 : k' < 3 := by omega
    refine s_vtext (d := d + 26) (B := B) hk3 hK hD.1 hn hT (fun k0 Ln g1 e f1 K1 => ?_) (fun k1 ls g1 e f1 K1 => ?_) (fun k2 ls g1 e f1 K1 => ?_) fun f j g1 h0 hl f1 K1 => ?_
    · refine ⟨_, g1, q, rfl, rfl, Env_C hE f1, ?_⟩
      refine s_mtext (d := d) hk3 (Mc_C hM f1) hn hT (fun _ L2 g2 e2 f2 M2 => ?_) (fun h => absurd k0 h) fun f j g2 h0 _ f2 M2 => ?_
      · have : L2 = Ln := by
          rw [e] at e2
          cases e2
          rfl
        subst this
        have hL := dlF_k e
        have hWD := WI_dl hw hL
        have hr : rowI B (dlR w L2) V M := ⟨hWD.1, LK_c (fun j hj => dlR_o hL.1 (by omega)) hD.1.2.1, LK_c (fun j hj => dlR_o hL.1 (by omega)) hD.1.2.2.1, fun x hx => by rw [dlR_o hL.1 (by omega)]; exact hD.1.2.2.2.1 x hx, Nat.le_trans hWD.2 hB⟩
        exact ⟨rfl, g2, q, rfl, Env_M (Env_C hE f1) f2, dlR w L2, V, M, [], im, ((0, R.1.2), (nI 0, -1)), ⟨hr, plI_0, hD.2.2.1, Nat.zero_le _, fun k hk => absurd hk (Nat.not_lt_zero k)⟩, Kc_M K1 f2, M2⟩
      · rw [e] at h0
        have := h0 k0
        cases this
    · have hk0 : k' ≠ 0 := by omega
      refine ⟨_, g1, q, rfl, rfl, Env_C hE f1, ?_⟩
      refine s_mtext (d := d) hk3 (Mc_C hM f1) hn hT (fun h => absurd h hk0) (fun _ ls2 w' r1 r2 g2 e2 f2 hp hr M2 => ?_) fun f j g2 _ hl f2 M2 => ?_
      · have : ls2 = ls := by
          rw [e] at e2
          cases e2
          rfl
        subst this
        subst k1
        have hls := lnF_k (by decide) (by decide) 401 0 0 (Nat.zero_le _) (Nat.zero_le _) e
        have hS : lnT ls2 ≤ 400 := by
          have := lnT_l (k := 1 - 1) (ls := ls2)
          have := hls.2.2.2
          omega
        have ew : ∀ x, x < 1205 → w' x = w x := fun x hx => hp.2.2.2 x (by omega) (by omega) (by omega) (by omega) (by omega)
        have hrow : rowI B w' ls2 M := ⟨WI_c hw fun k hk => ew k (by omega), LK_p2 (by omega) hS hp hr hls.2.1 hls.2.2.1, LK_o (k := 0) (k' := 1) (by decide) (by decide) (by decide) hp hD.1.2.2.1, fun x hx => by rw [hp.2.2.2 x (by omega) (by omega) (by omega) (by omega) (by omega)]; exact hD.1.2.2.2.1 x hx, by rw [sumH_c 16 fun t ht => by unfold fd vN; rw [ew _ (by omega)]]; exact hD.1.2.2.2.2⟩
        have hpl : plI B w' pl := ⟨hD.2.1.1, fun r hr => ⟨(hD.2.1.2 r hr).1, ⟨by rw [ew 0 (by decide)]; exact (hD.2.1.2 r hr).2.1.1, fun n f hn hf => by rw [ew _ (by omega)]; exact (hD.2.1.2 r hr).2.1.2 n f hn hf⟩, (hD.2.1.2 r hr).2.2⟩⟩
        exact ⟨rfl, g2, q, rfl, Env_M (Env_C hE f1) f2, w', ls2, M, pl, im, ((0, R.1.2), (nI 0, -1)), ⟨hrow, hpl, hD.2.2.1, Nat.zero_le _, fun k hk => absurd hk (Nat.not_lt_zero k)⟩, Kc_M (Kc_w hw K1 ew) f2, M2⟩
      · rw [e] at hl
        have := hl hk0
        cases this
    · have hk0 : k' ≠ 0 := by omega
      refine ⟨_, g1, q, rfl, rfl, Env_C hE f1, ?_⟩
      refine s_mtext (d := d) hk3 (Mc_C hM f1) hn hT (fun h => absurd h hk0) (fun _ ls2 w' r1 r2 g2 e2 f2 hp hr M2 => ?_) fun f j g2 _ hl f2 M2 => ?_
      · have : ls2 = ls := by
          rw [e] at e2
          cases e2
          rfl
        subst this
        subst k2
        have hls := lnF_k (by decide) (by decide) 401 0 0 (Nat.zero_le _) (Nat.zero_le _) e
        have hS : lnT ls2 ≤ 400 := by
          have := lnT_l (k := 2 - 1) (ls := ls2)
          have := hls.2.2.2
          omega
        have ew : ∀ x, x < 1205 → w' x = w x := fun x hx => hp.2.2.2 x (by omega) (by omega) (by omega) (by omega) (by omega)
        have hrow : rowI B w' V ls2 := ⟨WI_c hw fun k hk => ew k (by omega), LK_o (k := 1) (k' := 0) (by decide) (by decide) (by decide) hp hD.1.2.1, LK_p2 (by omega) hS hp hr hls.2.1 hls.2.2.1, fun x hx => by rw [hp.2.2.2 x (by omega) (by omega) (by omega) (by omega) (by omega)]; exact hD.1.2.2.2.1 x hx, by rw [sumH_c 16 fun t ht => by unfold fd vN; rw [ew _ (by omega)]]; exact hD.1.2.2.2.2⟩
        have hpl : plI B w' pl := ⟨hD.2.1.1, fun r hr => ⟨(hD.2.1.2 r hr).1, ⟨by rw [ew 0 (by decide)]; exact (hD.2.1.2 r hr).2.1.1, fun n f hn hf => by rw [ew _ (by omega)]; exact (hD.2.1.2 r hr).2.1.2 n f hn hf⟩, (hD.2.1.2 r hr).2.2⟩⟩
        exact ⟨rfl, g2, q, rfl, Env_M (Env_C hE f1) f2, w', V, ls2, pl, im, ((0, R.1.2), (nI 0, -1)), ⟨hrow, hpl, hD.2.2.1, Nat.zero_le _, fun k hk => absurd hk (Nat.not_lt_zero k)⟩, Kc_M (Kc_w hw K1 ew) f2, M2⟩
      · rw [e] at hl
        have := hl hk0
        cases this
    · refine ⟨_, g1, q, rfl, rfl, Env_C hE f1, ?_⟩
      refine s_mtext (d := d) hk3 (Mc_C hM f1) hn hT (fun k0 L2 g2 e2 => ?_) (fun k0 ls2 w' r1 r2 g2 e2 => ?_) fun f' j' g2 h0' hl' f2 M2 => ?_
      · rw [h0 k0] at e2
        cases e2
      · rw [hl k0] at e2
        cases e2
      · have : f' = f ∧ j' = j := by
          by_cases k0 : k' = 0
          · have a := h0 k0
            rw [h0' k0] at a
            cases a
            exact ⟨rfl, rfl⟩
          · have a := hl k0
            rw [hl' k0] at a
            cases a
            exact ⟨rfl, rfl⟩
        obtain ⟨rfl, rfl⟩ := this
        exact ⟨rfl, g2, q, rfl, Env_M (Env_C hE f1) f2, w, V, M, pl, im, ((0, R.1.2), (nI f', nI (kB R.1.2 R.1.1 j'))), ⟨hD.1, hD.2.1, hD.2.2.1, Nat.zero_le _, fun k hk => absurd hk (Nat.not_lt_zero k)⟩, Kc_M K1 f2, M2⟩
  · have ne : ∀ a : Nat, a < 3 → k ≠ nI a := fun a ha e => hk (by
      rw [e]
      exact ⟨by rw [nI_leE (by decide) (by omega)]; omega, by rw [nI_leE (by omega) (by decide)]; omega⟩)
    refine s_vtextN (d := d + 49) (ne 0 (by decide)) (ne 1 (by decide)) (ne 2 (by decide)) hK fun g1 f1 K1 => ⟨_, g1, q, rfl, rfl, Env_C hE f1, ?_⟩
    exact s_mtextN (d := d) hk (Mc_C hM f1) fun g2 f2 M2 => ⟨rfl, g2, q, rfl, Env_M (Env_C hE f1) f2, w, V, M, pl, im, ((0, R.1.2), (nI 0, -1)), ⟨hD.1, hD.2.1, hD.2.2.1, Nat.zero_le _, fun k hk => absurd hk (Nat.not_lt_zero k)⟩, Kc_M K1 f2, M2⟩
