/-! the class reads a delta's nodes -/
def zR (m : Nat) (g : Nat → Nat → Int32) : Prop := g 64 m = nI 0 ∧ (∀ a, a < 3 → g 65 (m * 3 + a) = nI 0) ∧ g 70 m = nI 0 ∧ g 71 m = nI 0
/-- what a node may change -/
def dFn (m : Nat) (g g' : Nat → Nat → Int32) : Prop := (∀ a, a ≠ 168 → a ≠ 62 → a ≠ 63 → a ≠ 64 → a ≠ 65 → a ≠ 70 → a ≠ 71 → g' a = g a) ∧ (∀ x, x ≠ 0 → g' 62 x = g 62 x) ∧ (∀ x, x ≠ 4 → x ≠ 5 → x ≠ 10 → g' 168 x = g 168 x) ∧ (∀ x, x ≠ m → g' 63 x = g 63 x ∧ g' 64 x = g 64 x ∧ g' 70 x = g 70 x ∧ g' 71 x = g 71 x) ∧ ∀ x, x < m * 3 ∨ m * 3 + 3 ≤ x → g' 65 x = g 65 x
/-- what a fault may change -/
def dXn (T : Nat → Nat) (n f j : Nat) (g g' : Nat → Nat → Int32) : Prop := (∀ a, a ≠ 168 → a ≠ 62 → a ≠ 63 → a ≠ 64 → a ≠ 65 → a ≠ 70 → a ≠ 71 → g' a = g a) ∧ (∀ x, x ≠ 2 → x ≠ 3 → x ≠ 4 → x ≠ 5 → x ≠ 10 → g' 168 x = g 168 x) ∧ g' 168 2 = nI f ∧ g' 168 3 = nI (kB T n j)
theorem dXn_c {T : Nat → Nat} {n f j : Nat} {g g' : Nat → Nat → Int32} (h : dXc T n f j g g') : dXn T n f j g g' := ⟨fun a a1 _ a3 a4 a5 a6 a7 => h.1 a a1 a3 a4 a5 a6 a7, h.2⟩
section CN
variable {d : Nat} {g : Nat → Nat → Int32} {q : Nat → Nat → Int64} {P : QT} {T : Nat → Nat} {n i m : Nat} {v : Nat → Nat}
theorem s_cnode {G : Nat} (h : tkC T n 0 i g) (h62 : g 62 0 = nI m) (hm : m ≤ 16) (hz : m < 16 → zR m g) (HN : ∀ v j g', ndF T n m G i = .inr (v, j) → m < 16 → dFn m g g' → tkC T n 0 j g' → cD m v g' → g' 62 0 = nI (m + 1) → P (some (.int (nI 1))) (E g' q)) (HX : ∀ f j g', ndF T n m G i = .inl (f, j) → dXn T n f j g g' → P (some (.int (nI 0))) (E g' q)) : callC (ev (d + 5)) pa_readNode [.ref 173, .ref 61] (E g q) P := by
  refine in_pa_readNode rfl ?_
  have n10 : (nI 1 = nI 0) = False := eq_false (by decide)
  obtain ⟨ht, -⟩ := tkC_t (k := 0) (by decide) h
  have e4 := tkR_k ht
  have hkl := kdN_l (kC T n 0 i)
  have eu : ndF T n m G i = if 10 ≤ kC T n 0 i ∧ kC T n 0 i ≤ 12 then (if m = 16 then .inl (3, i) else bn (inF T n m (kC T n 0 i - 10) G (i + 1)) fun v i => wdF T n 159 v i) else .inl (1, i) := rfl
  obtain ⟨x5, hx5⟩ : ∃ x5, x5 = g 168 5 := ⟨_, rfl⟩
  have bad1 : ¬ (10 ≤ kC T n 0 i ∧ kC T n 0 i ≤ 12) → wp (ev (d + 4)) P pa_readNode 36 [some (.ref 173), some (.ref 61), some (.ref 62), some (.int (nI m)), some (.int x5)] [] (E g q) := by
    intro hs
    rw [if_neg hs] at eu
    rw [b_pa_readNode_36]
    simp -implicitDefEqProofs (disch := first | assumption | omega) only [szS_0, szS_i, szS_r, szS_l, x_cons, x_goto, ob_some, kl_i, kl_r, kl_l, kl_n, push_n, push_s, pop_0, pop_i, pop_r, Int.reduceToNat, List.length_cons, List.length_nil, Nat.reduceAdd, Nat.reduceLeDiff, Nat.zero_add, true_and, nI_n0, nat_le, Nat.add_zero, rt_pa_readNode_0, rt_pa_readNode_1, rt_pa_readNode_b, x_al0, x_al1, x_al2, x_as2, x_call, x_dupi, x_dupr, x_getf, x_iadd, x_iastore, x_icle, x_iclt, x_icne, x_ifne, x_il3, x_il4, x_iret, x_is3, x_is4, x_ldc, x_putf, fd_173_0]
    refine s_refuse (d := d + 3) (k := 0) (by decide) h fun g1 f1 f2 e2 e3 => ?_
    simp -implicitDefEqProofs (disch := first | assumption | omega) only [szS_0, szS_i, szS_r, szS_l, x_cons, x_goto, ob_some, kl_i, kl_r, kl_l, kl_n, push_n, push_s, pop_0, pop_i, pop_r, Int.reduceToNat, List.length_cons, List.length_nil, Nat.reduceAdd, Nat.reduceLeDiff, Nat.zero_add, true_and, nI_n0, nat_le, Nat.add_zero, rt_pa_readNode_0, rt_pa_readNode_1, rt_pa_readNode_b, x_al0, x_al1, x_al2, x_as2, x_call, x_dupi, x_dupr, x_getf, x_iadd, x_iastore, x_icle, x_iclt, x_icne, x_ifne, x_il3, x_il4, x_iret, x_is3, x_is4, x_ldc, x_putf]
    exact HX _ _ g1 eu (dXn_c (dXc_X ⟨f1, f2, e2, e3⟩))
  rw [b_pa_readNode_0]
  simp -implicitDefEqProofs (disch := first | assumption | omega) only [szS_0, szS_i, szS_r, szS_l, x_cons, x_goto, ob_some, kl_i, kl_r, kl_l, kl_n, push_n, push_s, pop_0, pop_i, pop_r, Int.reduceToNat, List.length_cons, List.length_nil, Nat.reduceAdd, Nat.reduceLeDiff, Nat.zero_add, true_and, nI_n0, nat_le, Nat.add_zero, rt_pa_readNode_0, rt_pa_readNode_1, rt_pa_readNode_b, x_al0, x_al1, x_al2, x_as2, x_call, x_dupi, x_dupr, x_getf, x_iadd, x_iastore, x_icle, x_iclt, x_icne, x_ifne, x_il3, x_il4, x_iret, x_is3, x_is4, x_ldc, x_putf, fd_61_0, fd_61_1, fd_61_2, fd_61_3, fd_61_4, fd_62_0, sf_62_0, fd_62_1, fd_62_2, fd_62_3, fd_62_4, fd_173_0, fd_168_0, fd_168_1, sf_168_1, fd_168_2, sf_168_2, fd_168_3, sf_168_3, fd_168_4, sf_168_4, fd_168_5, sf_168_5, fd_168_6, fd_168_7, fd_168_8, fd_168_9, sf_168_9, fd_168_10, sf_168_10, h62, e4, ← hx5, nI_eqE]
  by_cases k1 : kdN (kC T n 0 i) = 1
  · have h2 := kdN_w.mp k1
    obtain ⟨-, w, hw, e1, e5⟩ := ht.2.2.2.2 h2.1 h2.2
    have hw6 : w < 6 := hw
    have ecode : w = 0 ∧ kC T n 0 i = 10 ∨ w = 1 ∧ kC T n 0 i = 11 ∨ w = 2 ∧ kC T n 0 i = 12 ∨ (3 ≤ w ∧ ¬ (10 ≤ kC T n 0 i ∧ kC T n 0 i ≤ 12)) := by
      have : w = 0 ∨ w = 1 ∨ w = 2 ∨ w = 3 ∨ w = 4 ∨ w = 5 := by omega
      rcases this with rfl | rfl | rfl | rfl | rfl | rfl
      · exact Or.inl ⟨rfl, e1⟩
      · exact Or.inr (Or.inl ⟨rfl, e1⟩)
      · exact Or.inr (Or.inr (Or.inl ⟨rfl, e1⟩))
      · exact Or.inr (Or.inr (Or.inr ⟨by decide, by rw [e1]; decide⟩))
      · exact Or.inr (Or.inr (Or.inr ⟨by decide, by rw [e1]; decide⟩))
      · exact Or.inr (Or.inr (Or.inr ⟨by decide, by rw [e1]; decide⟩))
    rw [← hx5] at e5
    simp only [k1, ↓reduceIte]
    try simp -implicitDefEqProofs (disch := first | assumption | omega) only [szS_0, szS_i, szS_r, szS_l, x_cons, x_goto, ob_some, kl_i, kl_r, kl_l, kl_n, push_n, push_s, pop_0, pop_i, pop_r, Int.reduceToNat, List.length_cons, List.length_nil, Nat.reduceAdd, Nat.reduceLeDiff, Nat.zero_add, true_and, nI_n0, nat_le, Nat.add_zero, rt_pa_readNode_0, rt_pa_readNode_1, rt_pa_readNode_b, x_al0, x_al1, x_al2, x_as2, x_call, x_dupi, x_dupr, x_getf, x_iadd, x_iastore, x_icle, x_iclt, x_icne, x_ifne, x_il3, x_il4, x_iret, x_is3, x_is4, x_ldc, x_putf, e5, nI_ltE]
    by_cases w2 : w ≤ 2
    · have hs : 10 ≤ kC T n 0 i ∧ kC T n 0 i ≤ 12 := by omega
      have ew : kC T n 0 i - 10 = w := by omega
      rw [if_pos hs, ew] at eu
      have l2 : ¬ 2 < w := by omega
      simp only [l2, ↓reduceIte]
      try simp -implicitDefEqProofs (disch := first | assumption | omega) only [b_pa_readNode_45, szS_0, szS_i, szS_r, szS_l, x_cons, x_goto, ob_some, kl_i, kl_r, kl_l, kl_n, push_n, push_s, pop_0, pop_i, pop_r, Int.reduceToNat, List.length_cons, List.length_nil, Nat.reduceAdd, Nat.reduceLeDiff, Nat.zero_add, true_and, nI_n0, nat_le, Nat.add_zero, rt_pa_readNode_0, rt_pa_readNode_1, rt_pa_readNode_b, x_al0, x_al1, x_al2, x_as2, x_call, x_dupi, x_dupr, x_getf, x_iadd, x_iastore, x_icle, x_iclt, x_icne, x_ifne, x_il3, x_il4, x_iret, x_is3, x_is4, x_ldc, x_putf, nI_ltE]
      by_cases m16 : m < 16
      · rw [if_neg (by omega)] at eu
        simp only [m16, ↓reduceIte]
        try simp -implicitDefEqProofs (disch := first | assumption | omega) only [b_pa_readNode_60, szS_0, szS_i, szS_r, szS_l, x_cons, x_goto, ob_some, kl_i, kl_r, kl_l, kl_n, push_n, push_s, pop_0, pop_i, pop_r, Int.reduceToNat, List.length_cons, List.length_nil, Nat.reduceAdd, Nat.reduceLeDiff, Nat.zero_add, true_and, nI_n0, nat_le, Nat.add_zero, rt_pa_readNode_0, rt_pa_readNode_1, rt_pa_readNode_b, x_al0, x_al1, x_al2, x_as2, x_call, x_dupi, x_dupr, x_getf, x_iadd, x_iastore, x_icle, x_iclt, x_icne, x_ifne, x_il3, x_il4, x_iret, x_is3, x_is4, x_ldc, x_putf, fd_173_0]
        refine s_rnext (d := d + 2) h fun g1 f1 f2 t1 => ?_
        obtain ⟨g2, hg2⟩ : ∃ g2, g2 = upw g1 63 (pu (g1 63) m (nI w)) := ⟨_, rfl⟩
        have o2 : ∀ a, a ≠ 168 → a ≠ 63 → g2 a = g a := fun a a1 a2 => by rw [hg2, upw_o a2, f1 a a1]
        have o63 : g2 63 = pu (g 63) m (nI w) := by rw [hg2, upw_s, f1 63 (by decide)]
        have o168 : ∀ x, x ≠ 4 → x ≠ 5 → x ≠ 10 → g2 168 x = g 168 x := fun x x1 x2 x3 => by rw [hg2, upw_o (by decide), f2 x x1 x2 x3]
        obtain ⟨z1, z2, z3, z4⟩ := hz m16
        have t2 : tkC T n 0 (i + 1) g2 := tkC_f t1 (fun x _ => by rw [hg2, upw_o (by decide)]) (by rw [hg2, upw_o (by decide)]) (by rw [hg2, upw_o (by decide)]) (by rw [hg2, upw_o (by decide)])
        have i2 : dJ T n (i + 1) m (nd0 w G) g2 := ⟨t2, m16, by rw [o63, pu_s]; rfl, by rw [o2 64 (by decide) (by decide)]; exact z1, fun a ha => by
          rw [o2 65 (by decide) (by decide), z2 a ha]
          have : nd0 w G (2 + a) = 0 := by
            unfold nd0
            rw [unn_n (by omega), unn_n (by omega)]
          rw [this], by rw [o2 70 (by decide) (by decide)]; exact z3, by rw [o2 71 (by decide) (by decide)]; exact z4⟩
        have f2' : dFc m g g2 := ⟨fun a a1 a2 a3 a4 a5 a6 => o2 a a1 a2, o168, fun x hx => ⟨by rw [o63, pu_n hx], by rw [o2 64 (by decide) (by decide)], by rw [o2 70 (by decide) (by decide)], by rw [o2 71 (by decide) (by decide)]⟩, fun x _ => by rw [o2 65 (by decide) (by decide)]⟩
        have fin : ∀ v j g3, inF T n m w G (i + 1) = .inr (v, j) → dFc m g g3 → dJ T n j m v g3 → wp (ev (d + 4)) P pa_readNode 112 [some (.ref 173), some (.ref 61), some (.ref 62), some (.int (nI m)), some (.int (nI w))] [] (E g3 q) := by
          intro v j g3 e3 f3 i3
          rw [bn_r e3] at eu
          have k62 : g3 62 0 = nI m := by rw [f3.1 62 (by decide) (by decide) (by decide) (by decide) (by decide) (by decide)]; exact h62
          obtain ⟨g4, hg4⟩ : ∃ g4, g4 = upw g3 62 (pu (g3 62) 0 (nI (m + 1))) := ⟨_, rfl⟩
          have o4 : ∀ a, a ≠ 62 → g4 a = g3 a := fun a ha => by rw [hg4, upw_o ha]
          have t4 : tkC T n 0 j g4 := tkC_f i3.1 (fun x _ => by rw [o4 168 (by decide)]) (o4 170 (by decide)) (o4 171 (by decide)) (o4 172 (by decide))
          rw [b_pa_readNode_112]
          simp -implicitDefEqProofs (disch := first | assumption | omega) only [szS_0, szS_i, szS_r, szS_l, x_cons, x_goto, ob_some, kl_i, kl_r, kl_l, kl_n, push_n, push_s, pop_0, pop_i, pop_r, Int.reduceToNat, List.length_cons, List.length_nil, Nat.reduceAdd, Nat.reduceLeDiff, Nat.zero_add, true_and, nI_n0, nat_le, Nat.add_zero, rt_pa_readNode_0, rt_pa_readNode_1, rt_pa_readNode_b, x_al0, x_al1, x_al2, x_as2, x_call, x_dupi, x_dupr, x_getf, x_iadd, x_iastore, x_icle, x_iclt, x_icne, x_ifne, x_il3, x_il4, x_iret, x_is3, x_is4, x_ldc, x_putf, fd_62_0, sf_62_0, fd_62_1, fd_62_2, fd_62_3, fd_62_4, k62, nI_add, pu_g]
          rw [← hg4]
          simp -implicitDefEqProofs (disch := first | assumption | omega) only [szS_0, szS_i, szS_r, szS_l, x_cons, x_goto, ob_some, kl_i, kl_r, kl_l, kl_n, push_n, push_s, pop_0, pop_i, pop_r, Int.reduceToNat, List.length_cons, List.length_nil, Nat.reduceAdd, Nat.reduceLeDiff, Nat.zero_add, true_and, nI_n0, nat_le, Nat.add_zero, rt_pa_readNode_0, rt_pa_readNode_1, rt_pa_readNode_b, x_al0, x_al1, x_al2, x_as2, x_call, x_dupi, x_dupr, x_getf, x_iadd, x_iastore, x_icle, x_iclt, x_icne, x_ifne, x_il3, x_il4, x_iret, x_is3, x_is4, x_ldc, x_putf, fd_173_0]
          refine s_takeSign (d := d + 1) (k := 0) (s := 59) (by decide) t4 (by decide) (fun c3 g5 o5 => ?_) fun c3 g5 x5 => ?_
          · have eq : wdF T n 159 v j = .inr (v, j + 1) := if_pos c3
            simp -implicitDefEqProofs (disch := first | assumption | omega) only [szS_0, szS_i, szS_r, szS_l, x_cons, x_goto, ob_some, kl_i, kl_r, kl_l, kl_n, push_n, push_s, pop_0, pop_i, pop_r, Int.reduceToNat, List.length_cons, List.length_nil, Nat.reduceAdd, Nat.reduceLeDiff, Nat.zero_add, true_and, nI_n0, nat_le, Nat.add_zero, rt_pa_readNode_0, rt_pa_readNode_1, rt_pa_readNode_b, x_al0, x_al1, x_al2, x_as2, x_call, x_dupi, x_dupr, x_getf, x_iadd, x_iastore, x_icle, x_iclt, x_icne, x_ifne, x_il3, x_il4, x_iret, x_is3, x_is4, x_ldc, x_putf]
            have q5 : ∀ a, a ≠ 168 → a ≠ 62 → g5 a = g3 a := fun a a1 a2 => by rw [o5.1 a a1, o4 a a2]
            refine HN v (j + 1) g5 (eu.trans eq) m16 ⟨fun a a1 a2 a3 a4 a5 a6 a7 => by rw [q5 a a1 a2, f3.1 a a1 a3 a4 a5 a6 a7], fun x hx => ?_, fun x x1 x2 x3 => by rw [o5.2.1 x x1 x2 x3, o4 168 (by decide), f3.2.1 x x1 x2 x3], fun x hx => ?_, fun x hx => by rw [q5 65 (by decide) (by decide), f3.2.2.2 x hx]⟩ o5.2.2 (cD_c i3.2.2 fun a ha => q5 a (by omega) (by omega)) ?_
            · rw [o5.1 62 (by decide), hg4, upw_s, pu_n hx, f3.1 62 (by decide) (by decide) (by decide) (by decide) (by decide) (by decide)]
            · rw [q5 63 (by decide) (by decide), q5 64 (by decide) (by decide), q5 70 (by decide) (by decide), q5 71 (by decide) (by decide)]
              exact f3.2.2.1 x hx
            · rw [o5.1 62 (by decide), hg4, upw_s, pu_s]
          · have eq : wdF T n 159 v j = .inl (1, j) := if_neg c3
            simp -implicitDefEqProofs (disch := first | assumption | omega) only [szS_0, szS_i, szS_r, szS_l, x_cons, x_goto, ob_some, kl_i, kl_r, kl_l, kl_n, push_n, push_s, pop_0, pop_i, pop_r, Int.reduceToNat, List.length_cons, List.length_nil, Nat.reduceAdd, Nat.reduceLeDiff, Nat.zero_add, true_and, nI_n0, nat_le, Nat.add_zero, rt_pa_readNode_0, rt_pa_readNode_1, rt_pa_readNode_b, x_al0, x_al1, x_al2, x_as2, x_call, x_dupi, x_dupr, x_getf, x_iadd, x_iastore, x_icle, x_iclt, x_icne, x_ifne, x_il3, x_il4, x_iret, x_is3, x_is4, x_ldc, x_putf]
            exact HX _ _ g5 (eu.trans eq) ⟨fun a a1 a2 a3 a4 a5 a6 a7 => by rw [x5.1 a a1, o4 a a2, f3.1 a a1 a3 a4 a5 a6 a7], fun x x1 x2 x3 x4 x6 => by rw [x5.2.1 x x1 x2, o4 168 (by decide), f3.2.1 x x3 x4 x6], x5.2.2.1, x5.2.2.2⟩
        have ei : inF T n m w G (i + 1) = if w = 0 then fkF T n m (nd0 w G) (i + 1) else if w = 1 then twF T n m (nd0 w G) (i + 1) else .inr (nd0 w G, i + 1) := rfl
        simp -implicitDefEqProofs (disch := first | assumption | omega) only [szS_0, szS_i, szS_r, szS_l, x_cons, x_goto, ob_some, kl_i, kl_r, kl_l, kl_n, push_n, push_s, pop_0, pop_i, pop_r, Int.reduceToNat, List.length_cons, List.length_nil, Nat.reduceAdd, Nat.reduceLeDiff, Nat.zero_add, true_and, nI_n0, nat_le, Nat.add_zero, rt_pa_readNode_0, rt_pa_readNode_1, rt_pa_readNode_b, x_al0, x_al1, x_al2, x_as2, x_call, x_dupi, x_dupr, x_getf, x_iadd, x_iastore, x_icle, x_iclt, x_icne, x_ifne, x_il3, x_il4, x_iret, x_is3, x_is4, x_ldc, x_putf, fd_62_0, sf_62_0, fd_62_1, fd_62_2, fd_62_3, fd_62_4, ld_63, sd_63, ln_63, pu_g]
        rw [← hg2]
        simp -implicitDefEqProofs (disch := first | assumption | omega) only [nI_eqE]
        by_cases s0 : w = 0
        · rw [if_pos s0] at ei
          simp only [s0, ↓reduceIte]
          try simp -implicitDefEqProofs (disch := first | assumption | omega) only [szS_0, szS_i, szS_r, szS_l, x_cons, x_goto, ob_some, kl_i, kl_r, kl_l, kl_n, push_n, push_s, pop_0, pop_i, pop_r, Int.reduceToNat, List.length_cons, List.length_nil, Nat.reduceAdd, Nat.reduceLeDiff, Nat.zero_add, true_and, nI_n0, nat_le, Nat.add_zero, rt_pa_readNode_0, rt_pa_readNode_1, rt_pa_readNode_b, x_al0, x_al1, x_al2, x_as2, x_call, x_dupi, x_dupr, x_getf, x_iadd, x_iastore, x_icle, x_iclt, x_icne, x_ifne, x_il3, x_il4, x_iret, x_is3, x_is4, x_ldc, x_putf]
          refine s_cfork (d := d) i2 rfl (fun v j g3 e3 f3 i3 => ?_) fun f j g3 e3 x3 => ?_
          · have := fin v j g3 (ei.trans e3) (dFc_t f2' f3) i3
            rw [s0] at this
            simp -implicitDefEqProofs (disch := first | assumption | omega) only [szS_0, szS_i, szS_r, szS_l, x_cons, x_goto, ob_some, kl_i, kl_r, kl_l, kl_n, push_n, push_s, pop_0, pop_i, pop_r, Int.reduceToNat, List.length_cons, List.length_nil, Nat.reduceAdd, Nat.reduceLeDiff, Nat.zero_add, true_and, nI_n0, nat_le, Nat.add_zero, rt_pa_readNode_0, rt_pa_readNode_1, rt_pa_readNode_b, x_al0, x_al1, x_al2, x_as2, x_call, x_dupi, x_dupr, x_getf, x_iadd, x_iastore, x_icle, x_iclt, x_icne, x_ifne, x_il3, x_il4, x_iret, x_is3, x_is4, x_ldc, x_putf, n10, ↓reduceIte, b_pa_readNode_91, nI_eqE, Nat.reduceEqDiff]
            exact this
          · simp -implicitDefEqProofs (disch := first | assumption | omega) only [szS_0, szS_i, szS_r, szS_l, x_cons, x_goto, ob_some, kl_i, kl_r, kl_l, kl_n, push_n, push_s, pop_0, pop_i, pop_r, Int.reduceToNat, List.length_cons, List.length_nil, Nat.reduceAdd, Nat.reduceLeDiff, Nat.zero_add, true_and, nI_n0, nat_le, Nat.add_zero, rt_pa_readNode_0, rt_pa_readNode_1, rt_pa_readNode_b, x_al0, x_al1, x_al2, x_as2, x_call, x_dupi, x_dupr, x_getf, x_iadd, x_iastore, x_icle, x_iclt, x_icne, x_ifne, x_il3, x_il4, x_iret, x_is3, x_is4, x_ldc, x_putf, ↓reduceIte]
            exact HX _ _ g3 (eu.trans (bn_l (ei.trans e3))) (dXn_c (dXc_t f2' x3))
        · rw [if_neg s0] at ei
          simp only [s0, ↓reduceIte]
          try simp -implicitDefEqProofs (disch := first | assumption | omega) only [b_pa_readNode_91, szS_0, szS_i, szS_r, szS_l, x_cons, x_goto, ob_some, kl_i, kl_r, kl_l, kl_n, push_n, push_s, pop_0, pop_i, pop_r, Int.reduceToNat, List.length_cons, List.length_nil, Nat.reduceAdd, Nat.reduceLeDiff, Nat.zero_add, true_and, nI_n0, nat_le, Nat.add_zero, rt_pa_readNode_0, rt_pa_readNode_1, rt_pa_readNode_b, x_al0, x_al1, x_al2, x_as2, x_call, x_dupi, x_dupr, x_getf, x_iadd, x_iastore, x_icle, x_iclt, x_icne, x_ifne, x_il3, x_il4, x_iret, x_is3, x_is4, x_ldc, x_putf, nI_eqE]
          by_cases s1 : w = 1
          · rw [if_pos s1] at ei
            simp only [s1, ↓reduceIte]
            try simp -implicitDefEqProofs (disch := first | assumption | omega) only [szS_0, szS_i, szS_r, szS_l, x_cons, x_goto, ob_some, kl_i, kl_r, kl_l, kl_n, push_n, push_s, pop_0, pop_i, pop_r, Int.reduceToNat, List.length_cons, List.length_nil, Nat.reduceAdd, Nat.reduceLeDiff, Nat.zero_add, true_and, nI_n0, nat_le, Nat.add_zero, rt_pa_readNode_0, rt_pa_readNode_1, rt_pa_readNode_b, x_al0, x_al1, x_al2, x_as2, x_call, x_dupi, x_dupr, x_getf, x_iadd, x_iastore, x_icle, x_iclt, x_icne, x_ifne, x_il3, x_il4, x_iret, x_is3, x_is4, x_ldc, x_putf, fd_61_0, fd_61_1, fd_61_2, fd_61_3, fd_61_4]
            refine s_ctown (d := d) i2 rfl (fun v j g3 e3 f3 i3 => ?_) fun f j g3 e3 x3 => ?_
            · have := fin v j g3 (ei.trans e3) (dFc_t f2' f3) i3
              rw [s1] at this
              simp -implicitDefEqProofs (disch := first | assumption | omega) only [szS_0, szS_i, szS_r, szS_l, x_cons, x_goto, ob_some, kl_i, kl_r, kl_l, kl_n, push_n, push_s, pop_0, pop_i, pop_r, Int.reduceToNat, List.length_cons, List.length_nil, Nat.reduceAdd, Nat.reduceLeDiff, Nat.zero_add, true_and, nI_n0, nat_le, Nat.add_zero, rt_pa_readNode_0, rt_pa_readNode_1, rt_pa_readNode_b, x_al0, x_al1, x_al2, x_as2, x_call, x_dupi, x_dupr, x_getf, x_iadd, x_iastore, x_icle, x_iclt, x_icne, x_ifne, x_il3, x_il4, x_iret, x_is3, x_is4, x_ldc, x_putf, n10, ↓reduceIte]
              exact this
            · simp -implicitDefEqProofs (disch := first | assumption | omega) only [szS_0, szS_i, szS_r, szS_l, x_cons, x_goto, ob_some, kl_i, kl_r, kl_l, kl_n, push_n, push_s, pop_0, pop_i, pop_r, Int.reduceToNat, List.length_cons, List.length_nil, Nat.reduceAdd, Nat.reduceLeDiff, Nat.zero_add, true_and, nI_n0, nat_le, Nat.add_zero, rt_pa_readNode_0, rt_pa_readNode_1, rt_pa_readNode_b, x_al0, x_al1, x_al2, x_as2, x_call, x_dupi, x_dupr, x_getf, x_iadd, x_iastore, x_icle, x_iclt, x_icne, x_ifne, x_il3, x_il4, x_iret, x_is3, x_is4, x_ldc, x_putf, ↓reduceIte]
              exact HX _ _ g3 (eu.trans (bn_l (ei.trans e3))) (dXn_c (dXc_t f2' x3))
          · rw [if_neg s1] at ei
            simp only [s1, ↓reduceIte]
            exact fin _ _ g2 ei f2' i2
      · rw [if_pos (by omega)] at eu
        simp only [m16, ↓reduceIte]
        try simp -implicitDefEqProofs (disch := first | assumption | omega) only [szS_0, szS_i, szS_r, szS_l, x_cons, x_goto, ob_some, kl_i, kl_r, kl_l, kl_n, push_n, push_s, pop_0, pop_i, pop_r, Int.reduceToNat, List.length_cons, List.length_nil, Nat.reduceAdd, Nat.reduceLeDiff, Nat.zero_add, true_and, nI_n0, nat_le, Nat.add_zero, rt_pa_readNode_0, rt_pa_readNode_1, rt_pa_readNode_b, x_al0, x_al1, x_al2, x_as2, x_call, x_dupi, x_dupr, x_getf, x_iadd, x_iastore, x_icle, x_iclt, x_icne, x_ifne, x_il3, x_il4, x_iret, x_is3, x_is4, x_ldc, x_putf, fd_173_0]
        refine s_refuse (d := d + 3) (k := 0) (by decide) h fun g1 f1 f2 e2 e3 => ?_
        simp -implicitDefEqProofs (disch := first | assumption | omega) only [szS_0, szS_i, szS_r, szS_l, x_cons, x_goto, ob_some, kl_i, kl_r, kl_l, kl_n, push_n, push_s, pop_0, pop_i, pop_r, Int.reduceToNat, List.length_cons, List.length_nil, Nat.reduceAdd, Nat.reduceLeDiff, Nat.zero_add, true_and, nI_n0, nat_le, Nat.add_zero, rt_pa_readNode_0, rt_pa_readNode_1, rt_pa_readNode_b, x_al0, x_al1, x_al2, x_as2, x_call, x_dupi, x_dupr, x_getf, x_iadd, x_iastore, x_icle, x_iclt, x_icne, x_ifne, x_il3, x_il4, x_iret, x_is3, x_is4, x_ldc, x_putf]
        exact HX _ _ g1 eu (dXn_c (dXc_X ⟨f1, f2, e2, e3⟩))
    · have := bad1 (by omega)
      rw [e5] at this
      have l2 : 2 < w := by omega
      simp only [l2, ↓reduceIte]
      exact this
  · simp only [k1, ↓reduceIte]
    exact bad1 fun h => k1 (kdN_w.mpr (by omega))
def cDs (g : Nat → Nat → Int32) : Nat → List (Nat → Nat) → Prop
  | _, [] => True
  | m, v :: L => cD m v g ∧ cDs g (m + 1) L
def cLn (T : Nat → Nat) (n m : Nat) (L : List (Nat → Nat)) (j : Nat) (g g' : Nat → Nat → Int32) : Prop := (∀ a, a ≠ 168 → a ≠ 62 → a ≠ 63 → a ≠ 64 → a ≠ 65 → a ≠ 70 → a ≠ 71 → g' a = g a) ∧ (∀ x, x ≠ 0 → g' 62 x = g 62 x) ∧ (∀ x, x ≠ 4 → x ≠ 5 → x ≠ 10 → g' 168 x = g 168 x) ∧ (∀ x, x < m → g' 63 x = g 63 x ∧ g' 64 x = g 64 x ∧ g' 70 x = g 70 x ∧ g' 71 x = g 71 x) ∧ (∀ x, x < m * 3 → g' 65 x = g 65 x) ∧ tkC T n 0 j g' ∧ g' 62 0 = nI (m + L.length) ∧ cDs g' m L ∧ ∀ x, m + L.length ≤ x → x < 16 → zR x g' ∧ g' 63 x = g 63 x
theorem cn_lp (hn : n ≤ 400) : ∀ (f i m G : Nat) (g : Nat → Nat → Int32), n + 1 ≤ i + f → tkC T n 0 i g → g 62 0 = nI m → m ≤ 16 → G ≤ 15 → i ≤ n → (∀ x, m ≤ x → x < 16 → zR x g) →
    (∀ L j G' g', nsF T n f i m G = .inr (L, (j, G')) → cLn T n m L j g g' → ∀ o, wp (ev (d + 9)) P pa_readDelta 43 [some (.ref 173), some (.ref 61), o] [] (E g' q)) → (∀ f' j g', nsF T n f i m G = .inl (f', j) → dXn T n f' j g g' → P (some (.int (nI 0))) (E g' q)) →
    wp (ev (d + 9)) P pa_readDelta 11 [some (.ref 173), some (.ref 61), some (.int (nI m))] [] (E g q) := by
  intro f
  induction f with
  | zero =>
    intro i m G g hf _ _ _ _ hi
    omega
  | succ f ih =>
    intro i m G g hf hT h62 hm hG hi hz HN HX
    obtain ⟨ht, -⟩ := tkC_t (k := 0) (by decide) hT
    have e4 := tkR_k ht
    have hkl := kdN_l (kC T n 0 i)
    have n10 : (nI 1 = nI 0) = False := eq_false (by decide)
    have lm : ¬ 16 < m := by omega
    have eu : nsF T n (f + 1) i m G = if kC T n 0 i = 0 then .inr ([], (i, G)) else bl (ndF T n m G i) fun v j => cl_ v (nsF T n f j (m + 1) (v 7)) := rfl
    rw [b_pa_readDelta_11]
    simp -implicitDefEqProofs (disch := first | assumption | omega) only [szS_0, szS_i, szS_r, szS_l, x_cons, x_goto, ob_some, kl_i, kl_r, kl_l, kl_n, push_n, push_s, pop_0, pop_i, pop_r, Int.reduceToNat, List.length_cons, List.length_nil, Nat.reduceAdd, Nat.reduceLeDiff, Nat.zero_add, true_and, nI_n0, nat_le, Nat.add_zero, i_1, rt_pa_readDelta_0, rt_pa_readDelta_1, rt_pa_readDelta_b, x_al0, x_al1, x_call, x_getf, x_goto, x_icgt, x_ifeq, x_ifle, x_ifne, x_il2, x_inc2, x_iret, x_is2, x_ldc, x_str, nI_ltE, lm, ↓reduceIte, fd_173_0, fd_168_0, fd_168_1, sf_168_1, fd_168_2, sf_168_2, fd_168_3, sf_168_3, fd_168_4, sf_168_4, fd_168_5, sf_168_5, fd_168_6, fd_168_7, fd_168_8, fd_168_9, sf_168_9, fd_168_10, sf_168_10, e4, nI_eqE]
    by_cases k0 : kdN (kC T n 0 i) = 0
    · rw [if_pos (kdN_0.mp k0)] at eu
      simp only [k0, ↓reduceIte]
      exact HN _ _ _ g eu ⟨fun _ _ _ _ _ _ _ _ => rfl, fun _ _ => rfl, fun _ _ _ _ => rfl, fun _ _ => ⟨rfl, rfl, rfl, rfl⟩, fun _ _ => rfl, hT, h62, trivial, fun x x1 x2 => ⟨hz x x1 x2, rfl⟩⟩ _
    · rw [if_neg (fun e => k0 (kdN_0.mpr e))] at eu
      simp only [k0, ↓reduceIte]
      try simp -implicitDefEqProofs (disch := first | assumption | omega) only [szS_0, szS_i, szS_r, szS_l, x_cons, x_goto, ob_some, kl_i, kl_r, kl_l, kl_n, push_n, push_s, pop_0, pop_i, pop_r, Int.reduceToNat, List.length_cons, List.length_nil, Nat.reduceAdd, Nat.reduceLeDiff, Nat.zero_add, true_and, nI_n0, nat_le, Nat.add_zero, i_1, rt_pa_readDelta_0, rt_pa_readDelta_1, rt_pa_readDelta_b, x_al0, x_al1, x_call, x_getf, x_goto, x_icgt, x_ifeq, x_ifle, x_ifne, x_il2, x_inc2, x_iret, x_is2, x_ldc, x_str]
      refine s_cnode (d := d + 4) (G := G) hT h62 hm (fun h => hz m (Nat.le_refl _) h) (fun v j g1 e m16 f1 t1 c1 e62 => ?_) fun f' j g1 e x1 => ?_
      · have a := ndF_k hG e
        have hz1 : ∀ x, m + 1 ≤ x → x < 16 → zR x g1 := fun x x1 x2 => by
          obtain ⟨z1, z2, z3, z4⟩ := hz x (by omega) x2
          have := f1.2.2.2.1 x (by omega)
          exact ⟨this.2.1.trans z1, fun a ha => (f1.2.2.2.2 _ (by omega)).trans (z2 a ha), this.2.2.1.trans z3, this.2.2.2.trans z4⟩
        simp -implicitDefEqProofs (disch := first | assumption | omega) only [szS_0, szS_i, szS_r, szS_l, x_cons, x_goto, ob_some, kl_i, kl_r, kl_l, kl_n, push_n, push_s, pop_0, pop_i, pop_r, Int.reduceToNat, List.length_cons, List.length_nil, Nat.reduceAdd, Nat.reduceLeDiff, Nat.zero_add, true_and, nI_n0, nat_le, Nat.add_zero, i_1, rt_pa_readDelta_0, rt_pa_readDelta_1, rt_pa_readDelta_b, x_al0, x_al1, x_call, x_getf, x_goto, x_icgt, x_ifeq, x_ifle, x_ifne, x_il2, x_inc2, x_iret, x_is2, x_ldc, x_str, n10, ↓reduceIte, b_pa_readDelta_37, nI_add]
        refine ih j (m + 1) (v 7) g1 (by have := a.2.2.1; omega) t1 e62 (by omega) a.1.1.2.2.2.2.1 a.2.2.2 hz1 (fun L j' G' g2 e2 m2 o => ?_) fun f' j' g2 e2 x2 => ?_
        · obtain ⟨b1, b2, b3, b4, b5, b6, b7, b8, b9⟩ := m2
          refine HN _ _ _ g2 (eu.trans ((bl_r e).trans (cl_r e2))) ⟨fun a a1 a2 a3 a4 a5 a6 a7 => (b1 a a1 a2 a3 a4 a5 a6 a7).trans (f1.1 a a1 a2 a3 a4 a5 a6 a7), fun x hx => (b2 x hx).trans (f1.2.1 x hx), fun x x1 x2 x3 => (b3 x x1 x2 x3).trans (f1.2.2.1 x x1 x2 x3), fun x hx => ?_, fun x hx => (b5 x (by omega)).trans (f1.2.2.2.2 x (by omega)), b6, by rw [b7, List.length_cons]; congr 1; omega, ⟨?_, b8⟩, fun x x1 x2 => ?_⟩ o
          · obtain ⟨p1, p2, p3, p4⟩ := b4 x (by omega)
            obtain ⟨q1, q2, q3, q4⟩ := f1.2.2.2.1 x (by omega)
            exact ⟨p1.trans q1, p2.trans q2, p3.trans q3, p4.trans q4⟩
          · obtain ⟨p1, p2, p3, p4⟩ := b4 m (by omega)
            obtain ⟨q1, q2, q3, q4, q5⟩ := c1
            exact ⟨p1.trans q1, p2.trans q2, fun a ha => (b5 _ (by omega)).trans (q3 a ha), p3.trans q4, p4.trans q5⟩
          · rw [List.length_cons] at x1
            have := b9 x (by omega) x2
            exact ⟨this.1, this.2.trans (f1.2.2.2.1 x (by omega)).1⟩
        · exact HX _ _ g2 (eu.trans ((bl_r e).trans (cl_l e2))) ⟨fun a a1 a2 a3 a4 a5 a6 a7 => (x2.1 a a1 a2 a3 a4 a5 a6 a7).trans (f1.1 a a1 a2 a3 a4 a5 a6 a7), fun x x1 x3 x4 x5 x6 => (x2.2.1 x x1 x3 x4 x5 x6).trans (f1.2.2.1 x x4 x5 x6), x2.2.2⟩
      · simp -implicitDefEqProofs (disch := first | assumption | omega) only [szS_0, szS_i, szS_r, szS_l, x_cons, x_goto, ob_some, kl_i, kl_r, kl_l, kl_n, push_n, push_s, pop_0, pop_i, pop_r, Int.reduceToNat, List.length_cons, List.length_nil, Nat.reduceAdd, Nat.reduceLeDiff, Nat.zero_add, true_and, nI_n0, nat_le, Nat.add_zero, i_1, rt_pa_readDelta_0, rt_pa_readDelta_1, rt_pa_readDelta_b, x_al0, x_al1, x_call, x_getf, x_goto, x_icgt, x_ifeq, x_ifle, x_ifne, x_il2, x_inc2, x_iret, x_is2, x_ldc, x_str, ↓reduceIte]
        exact HX _ _ g1 (eu.trans (bl_l e)) x1
/-- whether each goal is there -/
theorem at_in {N x : Nat} (hN : N ≤ 16) (hx : x < 16) (h62 : g 62 0 = nI N) (hv : v 1 ≤ 3) (hl : ∀ a, a < v 1 → v (2 + a) ≤ 15) (hc : cD x v g) (H1 : (∀ a, a < v 1 → v (2 + a) < N) → wp (ev d) P pa_allThere 47 [some (.ref 62), some (.int (nI x)), some (.int (nI (v 1)))] [] (E g q)) (H0 : (∃ a, a < v 1 ∧ ¬ v (2 + a) < N) → P (some (.int (nI 0))) (E g q)) : ∀ (j a : Nat), a + j = v 1 → (∀ b, b < a → v (2 + b) < N) →
    wp (ev d) P pa_allThere 12 [some (.ref 62), some (.int (nI x)), some (.int (nI a))] [] (E g q) := by
  intro j
  induction j with
  | zero =>
    intro a ha hb
    have ha : a = v 1 := ha
    subst ha
    have c1 := hc.2.1
    rw [b_pa_allThere_12]
    simp -implicitDefEqProofs (disch := first | assumption | omega) only [szS_0, szS_i, szS_r, szS_l, x_cons, x_goto, ob_some, kl_i, kl_r, kl_l, kl_n, push_n, push_s, pop_0, pop_i, pop_r, Int.reduceToNat, List.length_cons, List.length_nil, Nat.reduceAdd, Nat.reduceLeDiff, Nat.zero_add, true_and, nI_n0, nat_le, Nat.add_zero, i_1, rt_pa_allThere_0, rt_pa_allThere_1, rt_pa_allThere_b, x_al0, x_getf, x_goto, x_iadd, x_iaload, x_icge, x_iclt, x_il1, x_il2, x_imul, x_inc1, x_inc2, x_iret, x_is1, x_is2, x_ldc, fd_62_0, sf_62_0, fd_62_1, fd_62_2, fd_62_3, fd_62_4, ld_64, sd_64, ln_64, c1, nI_ltE, Nat.lt_irrefl, ↓reduceIte]
    exact H1 hb
  | succ j ih =>
    intro a ha hb
    have ha' : a < v 1 := by omega
    have c1 := hc.2.1
    have c2 := hc.2.2.1 a (by omega)
    have l2 := hl a ha'
    have l9 : x * 3 + a < 48 := by omega
    rw [b_pa_allThere_12]
    simp -implicitDefEqProofs (disch := first | assumption | omega) only [szS_0, szS_i, szS_r, szS_l, x_cons, x_goto, ob_some, kl_i, kl_r, kl_l, kl_n, push_n, push_s, pop_0, pop_i, pop_r, Int.reduceToNat, List.length_cons, List.length_nil, Nat.reduceAdd, Nat.reduceLeDiff, Nat.zero_add, true_and, nI_n0, nat_le, Nat.add_zero, i_1, rt_pa_allThere_0, rt_pa_allThere_1, rt_pa_allThere_b, x_al0, x_getf, x_goto, x_iadd, x_iaload, x_icge, x_iclt, x_il1, x_il2, x_imul, x_inc1, x_inc2, x_iret, x_is1, x_is2, x_ldc, fd_62_0, sf_62_0, fd_62_1, fd_62_2, fd_62_3, fd_62_4, ld_64, sd_64, ln_64, c1, nI_ltE, ha', ↓reduceIte, nI_mul, nI_add, ld_65, sd_65, ln_65, c2, h62]
    by_cases h1 : v (2 + a) < N
    · simp only [h1, ↓reduceIte]
      try simp -implicitDefEqProofs (disch := first | assumption | omega) only [b_pa_allThere_41, szS_0, szS_i, szS_r, szS_l, x_cons, x_goto, ob_some, kl_i, kl_r, kl_l, kl_n, push_n, push_s, pop_0, pop_i, pop_r, Int.reduceToNat, List.length_cons, List.length_nil, Nat.reduceAdd, Nat.reduceLeDiff, Nat.zero_add, true_and, nI_n0, nat_le, Nat.add_zero, i_1, rt_pa_allThere_0, rt_pa_allThere_1, rt_pa_allThere_b, x_al0, x_getf, x_goto, x_iadd, x_iaload, x_icge, x_iclt, x_il1, x_il2, x_imul, x_inc1, x_inc2, x_iret, x_is1, x_is2, x_ldc, nI_add]
      refine ih (a + 1) (by omega) fun b hb' => ?_
      by_cases e : b = a
      · rw [e]
        exact h1
      · exact hb b (by omega)
    · simp only [h1, ↓reduceIte]
      try simp -implicitDefEqProofs (disch := first | assumption | omega) only [szS_0, szS_i, szS_r, szS_l, x_cons, x_goto, ob_some, kl_i, kl_r, kl_l, kl_n, push_n, push_s, pop_0, pop_i, pop_r, Int.reduceToNat, List.length_cons, List.length_nil, Nat.reduceAdd, Nat.reduceLeDiff, Nat.zero_add, true_and, nI_n0, nat_le, Nat.add_zero, i_1, rt_pa_allThere_0, rt_pa_allThere_1, rt_pa_allThere_b, x_al0, x_getf, x_goto, x_iadd, x_iaload, x_icge, x_iclt, x_il1, x_il2, x_imul, x_inc1, x_inc2, x_iret, x_is1, x_is2, x_ldc]
      exact H0 ⟨a, ha', h1⟩
theorem at_lp {N : Nat} (hN : N ≤ 16) (h62 : g 62 0 = nI N) : ∀ (L : List (Nat → Nat)) (x : Nat) (o : Option Value), x + L.length = N → cDs g x L → (∀ v, v ∈ L → v 1 ≤ 3 ∧ ∀ a, a < v 1 → v (2 + a) ≤ 15) → ((∀ v, v ∈ L → ∀ a, a < v 1 → v (2 + a) < N) → P (some (.int (nI 1))) (E g q)) → ((¬ ∀ v, v ∈ L → ∀ a, a < v 1 → v (2 + a) < N) → P (some (.int (nI 0))) (E g q)) →
    wp (ev d) P pa_allThere 2 [some (.ref 62), some (.int (nI x)), o] [] (E g q) := by
  intro L
  induction L with
  | nil =>
    intro x o hx _ _ H1 _
    have hx : x = N := hx
    subst hx
    rw [b_pa_allThere_2]
    simp -implicitDefEqProofs (disch := first | assumption | omega) only [szS_0, szS_i, szS_r, szS_l, x_cons, x_goto, ob_some, kl_i, kl_r, kl_l, kl_n, push_n, push_s, pop_0, pop_i, pop_r, Int.reduceToNat, List.length_cons, List.length_nil, Nat.reduceAdd, Nat.reduceLeDiff, Nat.zero_add, true_and, nI_n0, nat_le, Nat.add_zero, i_1, rt_pa_allThere_0, rt_pa_allThere_1, rt_pa_allThere_b, x_al0, x_getf, x_goto, x_iadd, x_iaload, x_icge, x_iclt, x_il1, x_il2, x_imul, x_inc1, x_inc2, x_iret, x_is1, x_is2, x_ldc, fd_62_0, sf_62_0, fd_62_1, fd_62_2, fd_62_3, fd_62_4, h62, nI_ltE, Nat.lt_irrefl, ↓reduceIte, b_pa_allThere_53]
    exact H1 fun v hv => absurd hv List.not_mem_nil
  | cons v L ih =>
    intro x o hx hc hk H1 H0
    rw [List.length_cons] at hx
    have hx' : x < N := by omega
    have hv := hk v (List.mem_cons_self ..)
    rw [b_pa_allThere_2]
    simp -implicitDefEqProofs (disch := first | assumption | omega) only [szS_0, szS_i, szS_r, szS_l, x_cons, x_goto, ob_some, kl_i, kl_r, kl_l, kl_n, push_n, push_s, pop_0, pop_i, pop_r, Int.reduceToNat, List.length_cons, List.length_nil, Nat.reduceAdd, Nat.reduceLeDiff, Nat.zero_add, true_and, nI_n0, nat_le, Nat.add_zero, i_1, rt_pa_allThere_0, rt_pa_allThere_1, rt_pa_allThere_b, x_al0, x_getf, x_goto, x_iadd, x_iaload, x_icge, x_iclt, x_il1, x_il2, x_imul, x_inc1, x_inc2, x_iret, x_is1, x_is2, x_ldc, fd_62_0, sf_62_0, fd_62_1, fd_62_2, fd_62_3, fd_62_4, h62, nI_ltE, hx', ↓reduceIte]
    refine at_in hN (by omega) h62 hv.1 hv.2 hc.1 (fun ha => ?_) (fun ⟨a, a1, a2⟩ => ?_) (v 1) 0 (Nat.zero_add _) fun b hb => absurd hb (Nat.not_lt_zero b)
    · rw [b_pa_allThere_47]
      simp -implicitDefEqProofs (disch := first | assumption | omega) only [szS_0, szS_i, szS_r, szS_l, x_cons, x_goto, ob_some, kl_i, kl_r, kl_l, kl_n, push_n, push_s, pop_0, pop_i, pop_r, Int.reduceToNat, List.length_cons, List.length_nil, Nat.reduceAdd, Nat.reduceLeDiff, Nat.zero_add, true_and, nI_n0, nat_le, Nat.add_zero, i_1, rt_pa_allThere_0, rt_pa_allThere_1, rt_pa_allThere_b, x_al0, x_getf, x_goto, x_iadd, x_iaload, x_icge, x_iclt, x_il1, x_il2, x_imul, x_inc1, x_inc2, x_iret, x_is1, x_is2, x_ldc, nI_add]
      refine ih (x + 1) _ (by omega) hc.2 (fun u hu => hk u (List.mem_cons_of_mem _ hu)) (fun h => H1 fun u hu => ?_) fun h => H0 fun h2 => h fun u hu => h2 u (List.mem_cons_of_mem _ hu)
      rcases List.mem_cons.mp hu with rfl | hu
      · exact ha
      · exact h u hu
    · exact H0 fun h => a2 (h v (List.mem_cons_self ..) a a1)
theorem nsK_m : ∀ {L : List (Nat → Nat)} {m G G' : Nat}, nsK m G L G' → ∀ v, v ∈ L → v 1 ≤ 3 ∧ ∀ a, a < v 1 → v (2 + a) ≤ 15
  | [], _, _, _, _ => fun _ h => absurd h List.not_mem_nil
  | u :: L, m, G, G', h => fun v hv => by
    rcases List.mem_cons.mp hv with rfl | hv
    · exact ⟨h.1.1.1, fun a ha => (h.1.1.2.1 a ha).2.1⟩
    · exact nsK_m h.2 v hv
/-- a delta that is read into the spare one, where all is cleared -/
theorem s_creadDelta (hR : RT T n g) (h62 : g 62 0 = nI 0) (hz : ∀ x, x < 16 → zR x g)
    (HN : ∀ L g', dlF T n = .inr L → (∀ a, a ≠ 168 → a ≠ 170 → a ≠ 171 → a ≠ 172 → a ≠ 62 → a ≠ 63 → a ≠ 64 → a ≠ 65 → a ≠ 70 → a ≠ 71 → g' a = g a) → (∀ x, x ≠ 0 → g' 62 x = g 62 x) → (∀ x, x ≠ 4 → x ≠ 5 → x ≠ 9 → x ≠ 10 → g' 168 x = g 168 x) → g' 62 0 = nI L.length → cDs g' 0 L → (∀ x, L.length ≤ x → x < 16 → zR x g' ∧ g' 63 x = g 63 x) → P (some (.int (nI 1))) (E g' q))
    (HX : ∀ f j g', dlF T n = .inl (f, j) → (∀ a, a ≠ 168 → a ≠ 170 → a ≠ 171 → a ≠ 172 → a ≠ 62 → a ≠ 63 → a ≠ 64 → a ≠ 65 → a ≠ 70 → a ≠ 71 → g' a = g a) → (∀ x, x ≠ 2 → x ≠ 3 → x ≠ 4 → x ≠ 5 → x ≠ 9 → x ≠ 10 → g' 168 x = g 168 x) → g' 168 2 = nI f → g' 168 3 = nI (kB T n j) → P (some (.int (nI 0))) (E g' q)) :
    callC (ev (d + 10)) pa_readDelta [.ref 173, .ref 61] (E g q) P := by
  refine in_pa_readDelta rfl ?_
  have hn := hR.2.1
  have n10 : (nI 1 = nI 0) = False := eq_false (by decide)
  rw [b_pa_readDelta_0]
  simp -implicitDefEqProofs (disch := first | assumption | omega) only [szS_0, szS_i, szS_r, szS_l, x_cons, x_goto, ob_some, kl_i, kl_r, kl_l, kl_n, push_n, push_s, pop_0, pop_i, pop_r, Int.reduceToNat, List.length_cons, List.length_nil, Nat.reduceAdd, Nat.reduceLeDiff, Nat.zero_add, true_and, nI_n0, nat_le, Nat.add_zero, i_1, rt_pa_readDelta_0, rt_pa_readDelta_1, rt_pa_readDelta_b, x_al0, x_al1, x_call, x_getf, x_goto, x_icgt, x_ifeq, x_ifle, x_ifne, x_il2, x_inc2, x_iret, x_is2, x_ldc, x_str, fd_173_0]
  refine s_begin2 (d := d) (k := 0) (by decide) hR fun g1 f1 r1 t1 => ?_
  have q1 : ∀ a, a < 168 → g1 a = g a := fun a ha => f1 a (by omega) (by omega) (by omega) (by omega)
  simp -implicitDefEqProofs (disch := first | assumption | omega) only [szS_0, szS_i, szS_r, szS_l, x_cons, x_goto, ob_some, kl_i, kl_r, kl_l, kl_n, push_n, push_s, pop_0, pop_i, pop_r, Int.reduceToNat, List.length_cons, List.length_nil, Nat.reduceAdd, Nat.reduceLeDiff, Nat.zero_add, true_and, nI_n0, nat_le, Nat.add_zero, i_1, rt_pa_readDelta_0, rt_pa_readDelta_1, rt_pa_readDelta_b, x_al0, x_al1, x_call, x_getf, x_goto, x_icgt, x_ifeq, x_ifle, x_ifne, x_il2, x_inc2, x_iret, x_is2, x_ldc, x_str]
  refine cn_lp (d := d) hn 401 0 0 0 g1 (by omega) t1 (by rw [q1 62 (by decide)]; exact h62) (by decide) (by decide) (Nat.zero_le _) (fun x _ hx => ?_) (fun L j G' g2 e m2 o => ?_) fun f j g2 e x2 => ?_
  · have := hz x hx
    unfold zR at *
    rw [q1 64 (by decide), q1 65 (by decide), q1 70 (by decide), q1 71 (by decide)]
    exact this
  · obtain ⟨b1, b2, b3, b4, b5, b6, b7, b8, b9⟩ := m2
    obtain ⟨k1, k2, k3, k4, k5⟩ := nsF_k 401 0 0 0 (Nat.zero_le _) (by decide) (by decide) e
    have ed : dlF T n = if G' < L.length then .inr L else .inl (4, j) := by
      unfold dlF
      rw [e]
    rw [Nat.zero_add] at b7 b9
    have fa : ∀ a, a ≠ 168 → a ≠ 170 → a ≠ 171 → a ≠ 172 → a ≠ 62 → a ≠ 63 → a ≠ 64 → a ≠ 65 → a ≠ 70 → a ≠ 71 → g2 a = g a := fun a a1 a2 a3 a4 a5 a6 a7 a8 a9 a10 => by rw [b1 a a1 a5 a6 a7 a8 a9 a10, f1 a a1 a2 a3 a4]
    have good : G' < L.length → P (some (.int (nI 1))) (E g2 q) := fun hl => by
      rw [if_pos hl] at ed
      refine HN L g2 ed fa (fun x hx => by rw [b2 x hx, q1 62 (by decide)]) (fun x x1 x2 x3 x4 => by rw [b3 x x1 x2 x4, r1 x x1 x2 x3 x4]) b7 b8 fun x x1 x2 => ?_
      have := b9 x x1 x2
      exact ⟨this.1, by rw [this.2, q1 63 (by decide)]⟩
    have bad : ¬ G' < L.length → ∀ o, wp (ev (d + 9)) P pa_readDelta 68 [some (.ref 173), some (.ref 61), o] [.int (nI 0)] (E g2 q) := fun hl o => by
      rw [if_neg hl] at ed
      rw [b_pa_readDelta_68]
      simp -implicitDefEqProofs (disch := first | assumption | omega) only [szS_0, szS_i, szS_r, szS_l, x_cons, x_goto, ob_some, kl_i, kl_r, kl_l, kl_n, push_n, push_s, pop_0, pop_i, pop_r, Int.reduceToNat, List.length_cons, List.length_nil, Nat.reduceAdd, Nat.reduceLeDiff, Nat.zero_add, true_and, nI_n0, nat_le, Nat.add_zero, i_1, rt_pa_readDelta_0, rt_pa_readDelta_1, rt_pa_readDelta_b, x_al0, x_al1, x_call, x_getf, x_goto, x_icgt, x_ifeq, x_ifle, x_ifne, x_il2, x_inc2, x_iret, x_is2, x_ldc, x_str, ↓reduceIte, fd_173_0]
      refine s_refuse (d := d + 8) (k := 0) (by decide) b6 fun g3 f3 f4 e2 e3 => ?_
      simp -implicitDefEqProofs (disch := first | assumption | omega) only [szS_0, szS_i, szS_r, szS_l, x_cons, x_goto, ob_some, kl_i, kl_r, kl_l, kl_n, push_n, push_s, pop_0, pop_i, pop_r, Int.reduceToNat, List.length_cons, List.length_nil, Nat.reduceAdd, Nat.reduceLeDiff, Nat.zero_add, true_and, nI_n0, nat_le, Nat.add_zero, i_1, rt_pa_readDelta_0, rt_pa_readDelta_1, rt_pa_readDelta_b, x_al0, x_al1, x_call, x_getf, x_goto, x_icgt, x_ifeq, x_ifle, x_ifne, x_il2, x_inc2, x_iret, x_is2, x_ldc, x_str, ↓reduceIte, b_pa_readDelta_88, b_pa_readDelta_89]
      exact HX _ _ g3 ed (fun a a1 a2 a3 a4 a5 a6 a7 a8 a9 a10 => by rw [f3 a a1]; exact fa a a1 a2 a3 a4 a5 a6 a7 a8 a9 a10) (fun x x1 x2 x3 x4 x5 x6 => by rw [f4 x x1 x2, b3 x x3 x4 x6, r1 x x3 x4 x5 x6]) e2 e3
    have al := ns_all k1
    rw [b_pa_readDelta_43]
    simp -implicitDefEqProofs (disch := first | assumption | omega) only [szS_0, szS_i, szS_r, szS_l, x_cons, x_goto, ob_some, kl_i, kl_r, kl_l, kl_n, push_n, push_s, pop_0, pop_i, pop_r, Int.reduceToNat, List.length_cons, List.length_nil, Nat.reduceAdd, Nat.reduceLeDiff, Nat.zero_add, true_and, nI_n0, nat_le, Nat.add_zero, i_1, rt_pa_readDelta_0, rt_pa_readDelta_1, rt_pa_readDelta_b, x_al0, x_al1, x_call, x_getf, x_goto, x_icgt, x_ifeq, x_ifle, x_ifne, x_il2, x_inc2, x_iret, x_is2, x_ldc, x_str, fd_61_0, fd_61_1, fd_61_2, fd_61_3, fd_61_4, fd_62_0, sf_62_0, fd_62_1, fd_62_2, fd_62_3, fd_62_4, b7, nI_leE]
    by_cases h0 : L.length ≤ 0
    · simp only [h0, ↓reduceIte]
      try simp -implicitDefEqProofs (disch := first | assumption | omega) only [b_pa_readDelta_67, szS_0, szS_i, szS_r, szS_l, x_cons, x_goto, ob_some, kl_i, kl_r, kl_l, kl_n, push_n, push_s, pop_0, pop_i, pop_r, Int.reduceToNat, List.length_cons, List.length_nil, Nat.reduceAdd, Nat.reduceLeDiff, Nat.zero_add, true_and, nI_n0, nat_le, Nat.add_zero, i_1, rt_pa_readDelta_0, rt_pa_readDelta_1, rt_pa_readDelta_b, x_al0, x_al1, x_call, x_getf, x_goto, x_icgt, x_ifeq, x_ifle, x_ifne, x_il2, x_inc2, x_iret, x_is2, x_ldc, x_str]
      exact bad (by omega) o
    · simp only [h0, ↓reduceIte]
      try simp -implicitDefEqProofs (disch := first | assumption | omega) only [szS_0, szS_i, szS_r, szS_l, x_cons, x_goto, ob_some, kl_i, kl_r, kl_l, kl_n, push_n, push_s, pop_0, pop_i, pop_r, Int.reduceToNat, List.length_cons, List.length_nil, Nat.reduceAdd, Nat.reduceLeDiff, Nat.zero_add, true_and, nI_n0, nat_le, Nat.add_zero, i_1, rt_pa_readDelta_0, rt_pa_readDelta_1, rt_pa_readDelta_b, x_al0, x_al1, x_call, x_getf, x_goto, x_icgt, x_ifeq, x_ifle, x_ifne, x_il2, x_inc2, x_iret, x_is2, x_ldc, x_str, fd_61_0, fd_61_1, fd_61_2, fd_61_3, fd_61_4]
      refine in_pa_allThere rfl ?_
      rw [b_pa_allThere_0]
      simp -implicitDefEqProofs (disch := first | assumption | omega) only [szS_0, szS_i, szS_r, szS_l, x_cons, x_goto, ob_some, kl_i, kl_r, kl_l, kl_n, push_n, push_s, pop_0, pop_i, pop_r, Int.reduceToNat, List.length_cons, List.length_nil, Nat.reduceAdd, Nat.reduceLeDiff, Nat.zero_add, true_and, nI_n0, nat_le, Nat.add_zero, i_1, rt_pa_allThere_0, rt_pa_allThere_1, rt_pa_allThere_b, x_al0, x_getf, x_goto, x_iadd, x_iaload, x_icge, x_iclt, x_il1, x_il2, x_imul, x_inc1, x_inc2, x_iret, x_is1, x_is2, x_ldc]
      refine at_lp (N := L.length) (by omega) b7 L 0 _ (Nat.zero_add _) b8 (nsK_m k1) (fun h => ?_) fun h => ?_
      · have hl := al.mpr ⟨by omega, h⟩
        simp -implicitDefEqProofs (disch := first | assumption | omega) only [szS_0, szS_i, szS_r, szS_l, x_cons, x_goto, ob_some, kl_i, kl_r, kl_l, kl_n, push_n, push_s, pop_0, pop_i, pop_r, Int.reduceToNat, List.length_cons, List.length_nil, Nat.reduceAdd, Nat.reduceLeDiff, Nat.zero_add, true_and, nI_n0, nat_le, Nat.add_zero, i_1, rt_pa_readDelta_0, rt_pa_readDelta_1, rt_pa_readDelta_b, x_al0, x_al1, x_call, x_getf, x_goto, x_icgt, x_ifeq, x_ifle, x_ifne, x_il2, x_inc2, x_iret, x_is2, x_ldc, x_str, n10, ↓reduceIte, b_pa_readDelta_68, b_pa_readDelta_84, b_pa_readDelta_89]
        exact good hl
      · have hl : ¬ G' < L.length := fun e2 => h (al.mp e2).2
        simp -implicitDefEqProofs (disch := first | assumption | omega) only [szS_0, szS_i, szS_r, szS_l, x_cons, x_goto, ob_some, kl_i, kl_r, kl_l, kl_n, push_n, push_s, pop_0, pop_i, pop_r, Int.reduceToNat, List.length_cons, List.length_nil, Nat.reduceAdd, Nat.reduceLeDiff, Nat.zero_add, true_and, nI_n0, nat_le, Nat.add_zero, i_1, rt_pa_readDelta_0, rt_pa_readDelta_1, rt_pa_readDelta_b, x_al0, x_al1, x_call, x_getf, x_goto, x_icgt, x_ifeq, x_ifle, x_ifne, x_il2, x_inc2, x_iret, x_is2, x_ldc, x_str, ↓reduceIte, b_pa_readDelta_67]
        exact bad hl o
  · have ed : dlF T n = .inl (f, j) := by
      unfold dlF
      rw [e]
    exact HX _ _ g2 ed (fun a a1 a2 a3 a4 a5 a6 a7 a8 a9 a10 => by rw [x2.1 a a1 a5 a6 a7 a8 a9 a10, f1 a a1 a2 a3 a4]) (fun x x1 x3 x4 x5 x6 x7 => by rw [x2.2.1 x x1 x3 x4 x5 x7, r1 x x4 x5 x6 x7]) x2.2.2.1 x2.2.2.2
end CN
