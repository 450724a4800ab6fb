/-! a law's lines, read by the class -/
def cLs (T : Nat → Nat) (n k b s c : Nat) (ls : LW) (g g' : Nat → Nat → Int32) : Prop := (∀ a, a ≠ 168 → a ≠ b → a ≠ b + 1 → a ≠ b + 2 → g' a = g a) ∧ (∀ x, x ≠ 4 → x ≠ 5 → x ≠ 10 → g' 168 x = g 168 x) ∧ (∀ x, x ≠ 0 → x ≠ 1 → g' b x = g b x) ∧ g' b 0 = nI (c + ls.length) ∧ lnC (k - 1) (g' (b + 1)) (g' (b + 2)) c s ls ∧ (∀ x, x ≤ 2 * c → g' (b + 2) x = g (b + 2) x) ∧ ∀ x, x < s → g' (b + 1) x = g (b + 1) x
def cLX (T : Nat → Nat) (n b f j : Nat) (g g' : Nat → Nat → Int32) : Prop := (∀ a, a ≠ 168 → a ≠ b → a ≠ b + 1 → a ≠ b + 2 → g' a = g a) ∧ (∀ x, x ≠ 2 → x ≠ 3 → x ≠ 4 → x ≠ 5 → x ≠ 10 → g' 168 x = g 168 x) ∧ (∀ x, x ≠ 0 → x ≠ 1 → g' b x = g b x) ∧ g' 168 2 = nI f ∧ g' 168 3 = nI (kB T n j) ∧ g' (b + 2) 0 = g (b + 2) 0
section CL8
variable {d : Nat} {g : Nat → Nat → Int32} {q : Nat → Nat → Int64} {P : QT} {T : Nat → Nat} {n k b s i c : Nat}
theorem s_cbegin (hB : b = 22 ∨ b = 26 ∨ b = 52 ∨ b = 56 ∨ b = 82 ∨ b = 86) (hk0 : 1 ≤ k) (hk : k < 3) (h : tkC T n k i g) (h0 : g b 0 = nI c) (hc : c ≤ 16) (HN : kC T n k i = 7 → c ≠ 16 → ∀ g', rdN T n k i g g' → P (some (.int (nI 1))) (E g' q)) (H1 : kC T n k i ≠ 7 → ∀ g', rdX T n i 1 g g' → P (some (.int (nI 0))) (E g' q)) (H3 : kC T n k i = 7 → c = 16 → ∀ g', rdX T n i 3 g g' → P (some (.int (nI 0))) (E g' q)) : callC (ev (d + 3)) pa_beginLine [.ref 173, .ref b] (E g q) P := by
  refine in_pa_beginLine rfl ?_
  have hcw := ct_w hk0 hk
  have hw0 : 0 < WN k := by omega
  rw [b_pa_beginLine_0]
  simp -implicitDefEqProofs (disch := first | assumption | omega) only [szS_0, szS_i, szS_r, szS_l, x_cons, x_goto, ob_some, kl_i, kl_r, kl_l, kl_n, push_n, push_s, pop_0, pop_i, pop_r, Int.reduceToNat, List.length_cons, List.length_nil, Nat.reduceAdd, Nat.reduceLeDiff, Nat.zero_add, true_and, nI_n0, nat_le, Nat.add_zero, rt_pa_beginLine_0, rt_pa_beginLine_1, rt_pa_beginLine_b, x_al0, x_al1, x_call, x_getf, x_iclt, x_ifne, x_iret, x_ldc, fd_173_0, s_cisWord hk h hw0, hcw.1, bI_0]
  by_cases c7 : kC T n k i = 7
  · rw [decide_eq_true c7]
    simp -implicitDefEqProofs (disch := first | assumption | omega) only [Bool.true_eq_false, ↓reduceIte, b_pa_beginLine_20, szS_0, szS_i, szS_r, szS_l, x_cons, x_goto, ob_some, kl_i, kl_r, kl_l, kl_n, push_n, push_s, pop_0, pop_i, pop_r, Int.reduceToNat, List.length_cons, List.length_nil, Nat.reduceAdd, Nat.reduceLeDiff, Nat.zero_add, true_and, nI_n0, nat_le, Nat.add_zero, rt_pa_beginLine_0, rt_pa_beginLine_1, rt_pa_beginLine_b, x_al0, x_al1, x_call, x_getf, x_iclt, x_ifne, x_iret, x_ldc, lf_0, lf_1, lf_2, lf_3, lf_4, ls_0, ls_1, h0, nI_ltE]
    by_cases c16 : c < 16
    · simp only [c16, ↓reduceIte]
      try simp -implicitDefEqProofs (disch := first | assumption | omega) only [b_pa_beginLine_38, szS_0, szS_i, szS_r, szS_l, x_cons, x_goto, ob_some, kl_i, kl_r, kl_l, kl_n, push_n, push_s, pop_0, pop_i, pop_r, Int.reduceToNat, List.length_cons, List.length_nil, Nat.reduceAdd, Nat.reduceLeDiff, Nat.zero_add, true_and, nI_n0, nat_le, Nat.add_zero, rt_pa_beginLine_0, rt_pa_beginLine_1, rt_pa_beginLine_b, x_al0, x_al1, x_call, x_getf, x_iclt, x_ifne, x_iret, x_ldc, fd_173_0]
      refine s_rnext h fun g1 f1 f2 t1 => ?_
      simp -implicitDefEqProofs (disch := first | assumption | omega) only [szS_0, szS_i, szS_r, szS_l, x_cons, x_goto, ob_some, kl_i, kl_r, kl_l, kl_n, push_n, push_s, pop_0, pop_i, pop_r, Int.reduceToNat, List.length_cons, List.length_nil, Nat.reduceAdd, Nat.reduceLeDiff, Nat.zero_add, true_and, nI_n0, nat_le, Nat.add_zero, rt_pa_beginLine_0, rt_pa_beginLine_1, rt_pa_beginLine_b, x_al0, x_al1, x_call, x_getf, x_iclt, x_ifne, x_iret, x_ldc]
      exact HN c7 (by omega) g1 ⟨f1, f2, t1⟩
    · simp only [c16, ↓reduceIte]
      try simp -implicitDefEqProofs (disch := first | assumption | omega) only [szS_0, szS_i, szS_r, szS_l, x_cons, x_goto, ob_some, kl_i, kl_r, kl_l, kl_n, push_n, push_s, pop_0, pop_i, pop_r, Int.reduceToNat, List.length_cons, List.length_nil, Nat.reduceAdd, Nat.reduceLeDiff, Nat.zero_add, true_and, nI_n0, nat_le, Nat.add_zero, rt_pa_beginLine_0, rt_pa_beginLine_1, rt_pa_beginLine_b, x_al0, x_al1, x_call, x_getf, x_iclt, x_ifne, x_iret, x_ldc, fd_173_0]
      refine s_refuse (d := d + 1) hk h fun g1 f1 f2 e2 e3 => ?_
      simp -implicitDefEqProofs (disch := first | assumption | omega) only [szS_0, szS_i, szS_r, szS_l, x_cons, x_goto, ob_some, kl_i, kl_r, kl_l, kl_n, push_n, push_s, pop_0, pop_i, pop_r, Int.reduceToNat, List.length_cons, List.length_nil, Nat.reduceAdd, Nat.reduceLeDiff, Nat.zero_add, true_and, nI_n0, nat_le, Nat.add_zero, rt_pa_beginLine_0, rt_pa_beginLine_1, rt_pa_beginLine_b, x_al0, x_al1, x_call, x_getf, x_iclt, x_ifne, x_iret, x_ldc]
      exact H3 c7 (by omega) g1 ⟨f1, f2, e2, e3⟩
  · rw [decide_eq_false c7]
    simp -implicitDefEqProofs (disch := first | assumption | omega) only [↓reduceIte, szS_0, szS_i, szS_r, szS_l, x_cons, x_goto, ob_some, kl_i, kl_r, kl_l, kl_n, push_n, push_s, pop_0, pop_i, pop_r, Int.reduceToNat, List.length_cons, List.length_nil, Nat.reduceAdd, Nat.reduceLeDiff, Nat.zero_add, true_and, nI_n0, nat_le, Nat.add_zero, rt_pa_beginLine_0, rt_pa_beginLine_1, rt_pa_beginLine_b, x_al0, x_al1, x_call, x_getf, x_iclt, x_ifne, x_iret, x_ldc, fd_173_0]
    refine s_refuse (d := d + 1) hk h fun g1 f1 f2 e2 e3 => ?_
    simp -implicitDefEqProofs (disch := first | assumption | omega) only [szS_0, szS_i, szS_r, szS_l, x_cons, x_goto, ob_some, kl_i, kl_r, kl_l, kl_n, push_n, push_s, pop_0, pop_i, pop_r, Int.reduceToNat, List.length_cons, List.length_nil, Nat.reduceAdd, Nat.reduceLeDiff, Nat.zero_add, true_and, nI_n0, nat_le, Nat.add_zero, rt_pa_beginLine_0, rt_pa_beginLine_1, rt_pa_beginLine_b, x_al0, x_al1, x_call, x_getf, x_iclt, x_ifne, x_iret, x_ldc]
    exact H1 c7 g1 ⟨f1, f2, e2, e3⟩
theorem s_mark (hB : b = 22 ∨ b = 26 ∨ b = 52 ∨ b = 56 ∨ b = 82 ∨ b = 86) (h0 : g b 0 = nI c) (h1 : g b 1 = nI s) (hc : c < 16) : callC (ev (d + 1)) la_markCondition [.ref b] (E g q) P = P none (E (upw g (b + 2) (pu (g (b + 2)) (2 * c + 1) (nI s))) q) := by
  refine call_eq (in_la_markCondition (by rcases hB with rfl | rfl | rfl | rfl | rfl | rfl <;> rfl) ?_)
  rw [b_la_markCondition_0]
  simp -implicitDefEqProofs (disch := first | assumption | omega) only [szS_0, szS_i, szS_r, szS_l, x_cons, x_goto, ob_some, kl_i, kl_r, kl_l, kl_n, push_n, push_s, pop_0, pop_i, pop_r, Int.reduceToNat, List.length_cons, List.length_nil, Nat.reduceAdd, Nat.reduceLeDiff, Nat.zero_add, true_and, nI_n0, nat_le, Nat.add_zero, rt_la_markCondition, x_al0, x_getf, x_iadd, x_iastore, x_imul, x_ldc, x_vret, lf_0, lf_1, lf_2, lf_3, lf_4, ls_0, ls_1, ll_2, ld_L2, h0, h1, nI_mul, nI_add, pu_g]
  all_goals first | rfl | exact ⟨rfl, rfl⟩ | exact ⟨rfl, trivial⟩ | exact ⟨trivial, rfl⟩ | trivial
theorem s_close (hB : b = 22 ∨ b = 26 ∨ b = 52 ∨ b = 56 ∨ b = 82 ∨ b = 86) (h0 : g b 0 = nI c) (h1 : g b 1 = nI s) (hc : c < 16) : callC (ev (d + 1)) la_closeLine [.ref b] (E g q) P = P none (E (upw (upw g b (pu (g b) 0 (nI (c + 1)))) (b + 2) (pu (g (b + 2)) (2 * (c + 1)) (nI s))) q) := by
  refine call_eq (in_la_closeLine (by rcases hB with rfl | rfl | rfl | rfl | rfl | rfl <;> rfl) ?_)
  have hb2 : b + 2 ≠ b := by omega
  have l1 : 2 * (c + 1) < 33 := by omega
  have n01 : (1 : Nat) ≠ 0 := by decide
  rw [b_la_closeLine_0]
  simp -implicitDefEqProofs (disch := first | assumption | omega) only [szS_0, szS_i, szS_r, szS_l, x_cons, x_goto, ob_some, kl_i, kl_r, kl_l, kl_n, push_n, push_s, pop_0, pop_i, pop_r, Int.reduceToNat, List.length_cons, List.length_nil, Nat.reduceAdd, Nat.reduceLeDiff, Nat.zero_add, true_and, nI_n0, nat_le, Nat.add_zero, rt_la_closeLine, x_al0, x_dupi, x_dupr, x_getf, x_iadd, x_iastore, x_imul, x_ldc, x_putf, x_vret, lf_0, lf_1, lf_2, lf_3, lf_4, ls_0, ls_1, ll_2, ld_L2, h0, nI_add, pu_g, upw_s, pu_s, nI_mul, pu_n, n01, h1, upw_o, hb2]
  all_goals first | rfl | exact ⟨rfl, rfl⟩ | exact ⟨rfl, trivial⟩ | exact ⟨trivial, rfl⟩ | trivial
theorem tkC_o (hB : b = 22 ∨ b = 26 ∨ b = 52 ∨ b = 56 ∨ b = 82 ∨ b = 86) {g' : Nat → Nat → Int32} (h : tkC T n k i g) (e : ∀ a, 168 ≤ a → a < 173 → g' a = g a) : tkC T n k i g' := tkC_f h (fun x _ => by rw [e 168 (by omega) (by omega)]) (e 170 (by omega) (by omega)) (e 171 (by omega) (by omega)) (e 172 (by omega) (by omega))
theorem cl_lp (hB : b = 22 ∨ b = 26 ∨ b = 52 ∨ b = 56 ∨ b = 82 ∨ b = 86) (hk0 : 1 ≤ k) (hk : k < 3) (hn : n ≤ 400) {W : Nat} : ∀ (f i s c : Nat) (g : Nat → Nat → Int32), n + 1 ≤ i + f → tkC T n k i g → g b 0 = nI c → g b 1 = nI s → g (b + 2) (2 * c) = nI s → s ≤ i → i ≤ n → c ≤ 16 →
    (∀ ls g', lnF T n k f i c = .inr ls → cLs T n k b s c ls g g' → P (some (.int (nI 1))) (E g' q)) → (∀ f' j g', lnF T n k f i c = .inl (f', j) → cLX T n b f' j g g' → P (some (.int (nI 0))) (E g' q)) →
    wp (ev (d + 22)) P pa_readLaw 14 [some (.ref 173), some (.ref b), some (.ref W), some (.int (nI c))] [] (E g q) := by
  intro f
  induction f with
  | zero =>
    intro i s c g hf _ _ _ _ _ hi
    omega
  | succ f ih =>
    intro i s c g hf hT h0 h1 hst hs hi hc HN HX
    obtain ⟨ht, -⟩ := tkC_t hk hT
    have e4 := tkR_k ht
    have hkl := kdN_l (kC T n k i)
    have n10 : (nI 1 = nI 0) = False := eq_false (by decide)
    have lc : ¬ 16 < c := by omega
    have hcw := ct_w hk0 hk
    have hw1 : 1 < WN k := by omega
    have b168 : b ≠ 168 ∧ b + 1 ≠ 168 ∧ b + 2 ≠ 168 := by omega
    rw [b_pa_readLaw_14]
    simp -implicitDefEqProofs (disch := first | assumption | omega) only [szS_0, szS_i, szS_r, szS_l, x_cons, x_goto, ob_some, kl_i, kl_r, kl_l, kl_n, push_n, push_s, pop_0, pop_i, pop_r, Int.reduceToNat, List.length_cons, List.length_nil, Nat.reduceAdd, Nat.reduceLeDiff, Nat.zero_add, true_and, nI_n0, nat_le, Nat.add_zero, i_1, rt_pa_readLaw_0, rt_pa_readLaw_1, rt_pa_readLaw_b, x_al0, x_al1, x_al2, x_call, x_getf, x_goto, x_icgt, x_ifeq, x_ifne, x_il3, x_inc3, x_iret, x_is3, x_ldc, nI_ltE, lc, ↓reduceIte, fd_173_0, fd_168_0, fd_168_1, sf_168_1, fd_168_2, sf_168_2, fd_168_3, sf_168_3, fd_168_4, sf_168_4, fd_168_5, sf_168_5, fd_168_6, fd_168_7, fd_168_8, fd_168_9, sf_168_9, fd_168_10, sf_168_10, e4, nI_eqE]
    by_cases k0 : kdN (kC T n k i) = 0
    · have c0 := kdN_0.mp k0
      simp only [k0, ↓reduceIte]
      try simp -implicitDefEqProofs (disch := first | assumption | omega) only [b_pa_readLaw_105, szS_0, szS_i, szS_r, szS_l, x_cons, x_goto, ob_some, kl_i, kl_r, kl_l, kl_n, push_n, push_s, pop_0, pop_i, pop_r, Int.reduceToNat, List.length_cons, List.length_nil, Nat.reduceAdd, Nat.reduceLeDiff, Nat.zero_add, true_and, nI_n0, nat_le, Nat.add_zero, i_1, rt_pa_readLaw_0, rt_pa_readLaw_1, rt_pa_readLaw_b, x_al0, x_al1, x_al2, x_call, x_getf, x_goto, x_icgt, x_ifeq, x_ifne, x_il3, x_inc3, x_iret, x_is3, x_ldc]
      exact HN [] g (if_pos c0) ⟨fun _ _ _ _ _ => rfl, fun _ _ _ _ => rfl, fun _ _ _ => rfl, h0, trivial, fun _ _ => rfl, fun _ _ => rfl⟩
    · have c0 : kC T n k i ≠ 0 := fun e => k0 (kdN_0.mpr e)
      simp only [k0, ↓reduceIte]
      try simp -implicitDefEqProofs (disch := first | assumption | omega) only [szS_0, szS_i, szS_r, szS_l, x_cons, x_goto, ob_some, kl_i, kl_r, kl_l, kl_n, push_n, push_s, pop_0, pop_i, pop_r, Int.reduceToNat, List.length_cons, List.length_nil, Nat.reduceAdd, Nat.reduceLeDiff, Nat.zero_add, true_and, nI_n0, nat_le, Nat.add_zero, i_1, rt_pa_readLaw_0, rt_pa_readLaw_1, rt_pa_readLaw_b, x_al0, x_al1, x_al2, x_call, x_getf, x_goto, x_icgt, x_ifeq, x_ifne, x_il3, x_inc3, x_iret, x_is3, x_ldc]
      have eu : lnF T n k (f + 1) i c = if kC T n k i ≠ 7 then .inl (1, i) else if c = 16 then .inl (3, i) else bw (smF T n k (i + 1)) fun A j => bw (whF T n k j) fun C j2 => if kC T n k j2 = 159 then cw (A, C) (lnF T n k f (j2 + 1) (c + 1)) else .inl (1, j2) := if_neg c0
      have badX : ∀ f' g1, rdX T n i f' g g1 → cLX T n b f' i g g1 := fun f' g1 x => ⟨fun a a1 _ _ _ => x.1 a a1, fun y y1 y2 _ _ _ => x.2.1 y y1 y2, fun y _ _ => by rw [x.1 b b168.1], x.2.2.1, x.2.2.2, by rw [x.1 (b + 2) b168.2.2]⟩
      refine s_cbegin (d := d + 19) hB hk0 hk hT h0 hc (fun c7 c16 g1 r1 => ?_) (fun c7 g1 x1 => ?_) fun c7 c16 g1 x1 => ?_
      · rw [if_neg (fun h => h c7), if_neg c16] at eu
        have hin := kC_l (T := T) (n := n) (i := i) hk (by omega)
        have hc16 : c < 16 := by omega
        have h1b : ∀ x, g1 b x = g b x := fun x => by rw [r1.1 b b168.1]
        have h1b1 : ∀ x, g1 (b + 1) x = g (b + 1) x := fun x => by rw [r1.1 (b + 1) b168.2.1]
        have h1b2 : ∀ x, g1 (b + 2) x = g (b + 2) x := fun x => by rw [r1.1 (b + 2) b168.2.2]
        have i1 : gIn T n k b s (i + 1) g1 := ⟨r1.2.2, by rw [h1b]; exact h1, by omega, by omega, hn, hk, by omega⟩
        simp -implicitDefEqProofs (disch := first | assumption | omega) only [szS_0, szS_i, szS_r, szS_l, x_cons, x_goto, ob_some, kl_i, kl_r, kl_l, kl_n, push_n, push_s, pop_0, pop_i, pop_r, Int.reduceToNat, List.length_cons, List.length_nil, Nat.reduceAdd, Nat.reduceLeDiff, Nat.zero_add, true_and, nI_n0, nat_le, Nat.add_zero, i_1, rt_pa_readLaw_0, rt_pa_readLaw_1, rt_pa_readLaw_b, x_al0, x_al1, x_al2, x_call, x_getf, x_goto, x_icgt, x_ifeq, x_ifne, x_il3, x_inc3, x_iret, x_is3, x_ldc, n10, ↓reduceIte]
        refine s_csum (d := d + 18) hB hk0 i1 (fun A j g2 e o2 => ?_) fun f' j g2 e x2 => ?_
        · have u := smF_k hk0 hk e
          have hlA := okR_cs hs u
          have i2 := gIn_t i1 o2 hlA u.2.1 (okR_j1 u)
          have k0b : g2 b 0 = nI c := by rw [o2.2.2.1 0 (by decide), h1b]; exact h0
          have k1b := i2.2.1
          -- the mark
          obtain ⟨g3, hg3⟩ : ∃ g3, g3 = upw g2 (b + 2) (pu (g2 (b + 2)) (2 * c + 1) (nI (s + (cxL (k - 1) A).length))) := ⟨_, rfl⟩
          have e3 : ∀ a, a ≠ b + 2 → g3 a = g2 a := fun a ha => by rw [hg3, upw_o ha]
          have i3 : gIn T n k b (s + (cxL (k - 1) A).length) j g3 := ⟨tkC_o hB i2.1 fun a a1 a2 => e3 a (by omega), by rw [e3 b (by omega)]; exact k1b, i2.2.2⟩
          have j0b : g3 b 0 = nI c := by rw [e3 b (by omega)]; exact k0b
          have st3 : g3 (b + 2) = pu (g (b + 2)) (2 * c + 1) (nI (s + (cxL (k - 1) A).length)) := by
            rw [hg3, upw_s, o2.1 (b + 2) b168.2.2 (by omega) (by omega), r1.1 (b + 2) b168.2.2]
          have cd3 : cdR (g3 (b + 1)) s (cxL (k - 1) A) := by rw [e3 (b + 1) (by omega)]; exact o2.2.2.2.2.2.1
          have fa3 : ∀ a, a ≠ 168 → a ≠ b → a ≠ b + 1 → a ≠ b + 2 → g3 a = g a := fun a a1 a2 a3 a4 => by rw [e3 a a4, o2.1 a a1 a2 a3, r1.1 a a1]
          have f168 : ∀ x, x ≠ 4 → x ≠ 5 → x ≠ 10 → g3 168 x = g 168 x := fun x x1 x2 x3 => by rw [e3 168 (by omega), o2.2.1 x x1 x2 x3, r1.2.1 x x1 x2 x3]
          have fb3 : ∀ x, x ≠ 1 → g3 b x = g b x := fun x hx => by rw [e3 b (by omega), o2.2.2.1 x hx, h1b]
          have fc3 : ∀ x, x < s → g3 (b + 1) x = g (b + 1) x := fun x hx => by rw [e3 (b + 1) (by omega), o2.2.2.2.2.2.2 x hx, h1b1]
          -- behind the when
          have fin : ∀ C j2 g4, whF T n k j = .inr (C, j2) → gOK T n k b (s + (cxL (k - 1) A).length) (cxL (k - 1) C) j2 g3 g4 → wp (ev (d + 22)) P pa_readLaw 81 [some (.ref 173), some (.ref b), some (.ref W), some (.int (nI c))] [] (E g4 q) := by
            intro C j2 g4 e2 o4
            obtain ⟨w1', w2, w3, w4, w5⟩ := whF_k hk0 hk u.2.1 e2
            have eu2 : lnF T n k (f + 1) i c = if kC T n k j2 = 159 then cw (A, C) (lnF T n k f (j2 + 1) (c + 1)) else .inl (1, j2) := eu.trans ((bw_r e).trans (bw_r e2))
            have i4 := gIn_t i3 o4 (by omega) w2 (by have := okR_j1 u; omega)
            have p0b : g4 b 0 = nI c := by rw [o4.2.2.1 0 (by decide)]; exact j0b
            have p1b := i4.2.1
            obtain ⟨g5, hg5⟩ : ∃ g5, g5 = upw (upw g4 b (pu (g4 b) 0 (nI (c + 1)))) (b + 2) (pu (g4 (b + 2)) (2 * (c + 1)) (nI (s + (cxL (k - 1) A).length + (cxL (k - 1) C).length))) := ⟨_, rfl⟩
            have e5 : ∀ a, a ≠ b → a ≠ b + 2 → g5 a = g4 a := fun a a1 a2 => by rw [hg5, upw_o a2, upw_o a1]
            have t5 : tkC T n k j2 g5 := tkC_o hB i4.1 fun a a1 a2 => e5 a (by omega) (by omega)
            have b5 : g5 b = pu (g4 b) 0 (nI (c + 1)) := by rw [hg5, upw_o (by omega), upw_s]
            have s4 : g4 (b + 2) = pu (g (b + 2)) (2 * c + 1) (nI (s + (cxL (k - 1) A).length)) := (o4.1 (b + 2) b168.2.2 (by omega) (by omega)).trans st3
            have s5 : g5 (b + 2) = pu (pu (g (b + 2)) (2 * c + 1) (nI (s + (cxL (k - 1) A).length))) (2 * (c + 1)) (nI (s + (cxL (k - 1) A).length + (cxL (k - 1) C).length)) := by rw [hg5, upw_s, s4]
            have c5 : g5 (b + 1) = g4 (b + 1) := e5 (b + 1) (by omega) (by omega)
            have fa5 : ∀ a, a ≠ 168 → a ≠ b → a ≠ b + 1 → a ≠ b + 2 → g5 a = g a := fun a a1 a2 a3 a4 => by rw [e5 a a2 a4, o4.1 a a1 a2 a3, fa3 a a1 a2 a3 a4]
            have f5 : ∀ x, x ≠ 4 → x ≠ 5 → x ≠ 10 → g5 168 x = g 168 x := fun x x1 x2 x3 => by rw [e5 168 (by omega) (by omega), o4.2.1 x x1 x2 x3, f168 x x1 x2 x3]
            have fb5 : ∀ x, x ≠ 0 → x ≠ 1 → g5 b x = g b x := fun x x1 x2 => by rw [b5, pu_n x1, o4.2.2.1 x x2, fb3 x x2]
            rw [b_pa_readLaw_81]
            simp -implicitDefEqProofs (disch := first | assumption | omega) only [szS_0, szS_i, szS_r, szS_l, x_cons, x_goto, ob_some, kl_i, kl_r, kl_l, kl_n, push_n, push_s, pop_0, pop_i, pop_r, Int.reduceToNat, List.length_cons, List.length_nil, Nat.reduceAdd, Nat.reduceLeDiff, Nat.zero_add, true_and, nI_n0, nat_le, Nat.add_zero, i_1, rt_pa_readLaw_0, rt_pa_readLaw_1, rt_pa_readLaw_b, x_al0, x_al1, x_al2, x_call, x_getf, x_goto, x_icgt, x_ifeq, x_ifne, x_il3, x_inc3, x_iret, x_is3, x_ldc]
            rw [s_close hB p0b p1b hc16, ← hg5]
            simp -implicitDefEqProofs (disch := first | assumption | omega) only [szS_0, szS_i, szS_r, szS_l, x_cons, x_goto, ob_some, kl_i, kl_r, kl_l, kl_n, push_n, push_s, pop_0, pop_i, pop_r, Int.reduceToNat, List.length_cons, List.length_nil, Nat.reduceAdd, Nat.reduceLeDiff, Nat.zero_add, true_and, nI_n0, nat_le, Nat.add_zero, i_1, rt_pa_readLaw_0, rt_pa_readLaw_1, rt_pa_readLaw_b, x_al0, x_al1, x_al2, x_call, x_getf, x_goto, x_icgt, x_ifeq, x_ifne, x_il3, x_inc3, x_iret, x_is3, x_ldc, fd_173_0]
            refine s_takeSign (d := d + 19) (s := 59) hk t5 (by decide) (fun c3 g6 o6 => ?_) fun c3 g6 x6 => ?_
            · rw [if_pos c3] at eu2
              have hjn := kC_l (T := T) (n := n) (i := j2) hk (by omega)
              have q6 : ∀ a, a ≠ 168 → g6 a = g5 a := fun a ha => o6.1 a ha
              have d6 : g6 b = pu (g4 b) 0 (nI (c + 1)) := (q6 b b168.1).trans b5
              have d6c : g6 (b + 1) = g4 (b + 1) := (q6 (b + 1) b168.2.1).trans c5
              have d6s := (q6 (b + 2) b168.2.2).trans s5
              simp -implicitDefEqProofs (disch := first | assumption | omega) only [szS_0, szS_i, szS_r, szS_l, x_cons, x_goto, ob_some, kl_i, kl_r, kl_l, kl_n, push_n, push_s, pop_0, pop_i, pop_r, Int.reduceToNat, List.length_cons, List.length_nil, Nat.reduceAdd, Nat.reduceLeDiff, Nat.zero_add, true_and, nI_n0, nat_le, Nat.add_zero, i_1, rt_pa_readLaw_0, rt_pa_readLaw_1, rt_pa_readLaw_b, x_al0, x_al1, x_al2, x_call, x_getf, x_goto, x_icgt, x_ifeq, x_ifne, x_il3, x_inc3, x_iret, x_is3, x_ldc, n10, ↓reduceIte, b_pa_readLaw_99, nI_add]
              refine ih (j2 + 1) (s + (cxL (k - 1) A).length + (cxL (k - 1) C).length) (c + 1) g6 (by have := u.1; omega) o6.2.2 (by rw [d6, pu_s]) (by rw [d6, pu_n (by decide)]; exact p1b) (by rw [d6s, pu_s]) (by omega) hjn (by omega) (fun ls g7 e7 l7 => ?_) fun f' j' g7 e7 x7 => ?_
              · obtain ⟨a1, a2, a3, a4, a5, a6, a7⟩ := l7
                have st7 : ∀ x, x ≤ 2 * (c + 1) → g7 (b + 2) x = pu (pu (g (b + 2)) (2 * c + 1) (nI (s + (cxL (k - 1) A).length))) (2 * (c + 1)) (nI (s + (cxL (k - 1) A).length + (cxL (k - 1) C).length)) x := fun x hx => by rw [a6 x hx, d6s]
                have cd7 : ∀ x, x < s + (cxL (k - 1) A).length + (cxL (k - 1) C).length → g7 (b + 1) x = g4 (b + 1) x := fun x hx => by rw [a7 x hx, d6c]
                refine HN _ g7 (eu2.trans (cw_r e7)) ⟨fun a x1 x2 x3 x4 => by rw [a1 a x1 x2 x3 x4, q6 a x1, fa5 a x1 x2 x3 x4], fun x x1 x2 x3 => by rw [a2 x x1 x2 x3, o6.2.1 x x1 x2 x3, f5 x x1 x2 x3], fun x x1 x2 => by rw [a3 x x1 x2, q6 b b168.1, fb5 x x1 x2], by rw [a4, List.length_cons]; congr 1; omega, ⟨⟨?_, ?_, ?_, by omega, ?_, ?_⟩, a5⟩, fun x hx => ?_, fun x hx => ?_⟩
                · rw [st7 _ (by omega), pu_n (by omega), pu_n (by omega)]
                  exact hst
                · rw [st7 _ (by omega), pu_n (by omega), pu_s]
                · rw [st7 _ (by omega), show 2 * c + 2 = 2 * (c + 1) by omega, pu_s]
                · refine cdR_b (N := s + (cxL (k - 1) A).length) (Nat.le_refl _) (fun x hx => ?_) cd3
                  rw [cd7 x (by omega), o4.2.2.2.2.2.2 x hx]
                · exact cdR_b (N := s + (cxL (k - 1) A).length + (cxL (k - 1) C).length) (Nat.le_refl _) cd7 o4.2.2.2.2.2.1
                · rw [st7 x (by omega), pu_n (by omega), pu_n (by omega)]
                · rw [cd7 x (by omega), o4.2.2.2.2.2.2 x (by omega), fc3 x hx]
              · obtain ⟨a1, a2, a3, a4, a5, a6⟩ := x7
                exact HX _ _ g7 (eu2.trans (cw_l e7)) ⟨fun a x1 x2 x3 x4 => by rw [a1 a x1 x2 x3 x4, q6 a x1, fa5 a x1 x2 x3 x4], fun x x1 x2 x3 x4 x5 => by rw [a2 x x1 x2 x3 x4 x5, o6.2.1 x x3 x4 x5, f5 x x3 x4 x5], fun x x1 x2 => by rw [a3 x x1 x2, q6 b b168.1, fb5 x x1 x2], a4, a5, by rw [a6, d6s, pu_n (by omega), pu_n (by omega)]⟩
            · rw [if_neg c3] at eu2
              simp -implicitDefEqProofs (disch := first | assumption | omega) only [szS_0, szS_i, szS_r, szS_l, x_cons, x_goto, ob_some, kl_i, kl_r, kl_l, kl_n, push_n, push_s, pop_0, pop_i, pop_r, Int.reduceToNat, List.length_cons, List.length_nil, Nat.reduceAdd, Nat.reduceLeDiff, Nat.zero_add, true_and, nI_n0, nat_le, Nat.add_zero, i_1, rt_pa_readLaw_0, rt_pa_readLaw_1, rt_pa_readLaw_b, x_al0, x_al1, x_al2, x_call, x_getf, x_goto, x_icgt, x_ifeq, x_ifne, x_il3, x_inc3, x_iret, x_is3, x_ldc, ↓reduceIte]
              exact HX _ _ g6 eu2 ⟨fun a x1 x2 x3 x4 => by rw [x6.1 a x1, fa5 a x1 x2 x3 x4], fun x x1 x2 x3 x4 x5 => by rw [x6.2.1 x x1 x2, f5 x x3 x4 x5], fun x x1 x2 => by rw [x6.1 b b168.1, fb5 x x1 x2], x6.2.2.1, x6.2.2.2, by rw [x6.1 (b + 2) b168.2.2, s5, pu_n (by omega), pu_n (by omega)]⟩
          simp -implicitDefEqProofs (disch := first | assumption | omega) only [szS_0, szS_i, szS_r, szS_l, x_cons, x_goto, ob_some, kl_i, kl_r, kl_l, kl_n, push_n, push_s, pop_0, pop_i, pop_r, Int.reduceToNat, List.length_cons, List.length_nil, Nat.reduceAdd, Nat.reduceLeDiff, Nat.zero_add, true_and, nI_n0, nat_le, Nat.add_zero, i_1, rt_pa_readLaw_0, rt_pa_readLaw_1, rt_pa_readLaw_b, x_al0, x_al1, x_al2, x_call, x_getf, x_goto, x_icgt, x_ifeq, x_ifne, x_il3, x_inc3, x_iret, x_is3, x_ldc, n10, ↓reduceIte, b_pa_readLaw_48]
          rw [s_mark hB k0b k1b hc16, ← hg3]
          simp -implicitDefEqProofs (disch := first | assumption | omega) only [szS_0, szS_i, szS_r, szS_l, x_cons, x_goto, ob_some, kl_i, kl_r, kl_l, kl_n, push_n, push_s, pop_0, pop_i, pop_r, Int.reduceToNat, List.length_cons, List.length_nil, Nat.reduceAdd, Nat.reduceLeDiff, Nat.zero_add, true_and, nI_n0, nat_le, Nat.add_zero, i_1, rt_pa_readLaw_0, rt_pa_readLaw_1, rt_pa_readLaw_b, x_al0, x_al1, x_al2, x_call, x_getf, x_goto, x_icgt, x_ifeq, x_ifne, x_il3, x_inc3, x_iret, x_is3, x_ldc, fd_173_0, s_cisWord hk i3.1 hw1, hcw.2.1, bI_0]
          by_cases c3 : kC T n k j = 3
          · rw [decide_eq_true c3]
            have ew : whF T n k j = anF T n k (oneF T n k 8) (j + 1) := if_pos c3
            have hjn := kC_l (T := T) (n := n) (i := j) hk (by omega)
            have hA : gFn T n k b (d + 22) pa_readChoice [.int (nI 0)] (anF T n k (oneF T n k 8)) := s_choice (d := d + 19) hB hk0 (s_ccond hB hk0 hk 8 d (Nat.le_refl 8)) (oneF_k hk0 hk 8)
            simp -implicitDefEqProofs (disch := first | assumption | omega) only [Bool.true_eq_false, ↓reduceIte, szS_0, szS_i, szS_r, szS_l, x_cons, x_goto, ob_some, kl_i, kl_r, kl_l, kl_n, push_n, push_s, pop_0, pop_i, pop_r, Int.reduceToNat, List.length_cons, List.length_nil, Nat.reduceAdd, Nat.reduceLeDiff, Nat.zero_add, true_and, nI_n0, nat_le, Nat.add_zero, i_1, rt_pa_readLaw_0, rt_pa_readLaw_1, rt_pa_readLaw_b, x_al0, x_al1, x_al2, x_call, x_getf, x_goto, x_icgt, x_ifeq, x_ifne, x_il3, x_inc3, x_iret, x_is3, x_ldc, fd_173_0]
            refine s_cnx (d := d + 20) hB i3 fun g4 o4 => ?_
            have i4 := gIn_0 i3 o4 hjn
            simp -implicitDefEqProofs (disch := first | assumption | omega) only [szS_0, szS_i, szS_r, szS_l, x_cons, x_goto, ob_some, kl_i, kl_r, kl_l, kl_n, push_n, push_s, pop_0, pop_i, pop_r, Int.reduceToNat, List.length_cons, List.length_nil, Nat.reduceAdd, Nat.reduceLeDiff, Nat.zero_add, true_and, nI_n0, nat_le, Nat.add_zero, i_1, rt_pa_readLaw_0, rt_pa_readLaw_1, rt_pa_readLaw_b, x_al0, x_al1, x_al2, x_call, x_getf, x_goto, x_icgt, x_ifeq, x_ifne, x_il3, x_inc3, x_iret, x_is3, x_ldc]
            refine hA i4 (fun C j2 g5 e2 o5 => ?_) fun f' j2 g5 e2 x5 => ?_
            · simp -implicitDefEqProofs (disch := first | assumption | omega) only [szS_0, szS_i, szS_r, szS_l, x_cons, x_goto, ob_some, kl_i, kl_r, kl_l, kl_n, push_n, push_s, pop_0, pop_i, pop_r, Int.reduceToNat, List.length_cons, List.length_nil, Nat.reduceAdd, Nat.reduceLeDiff, Nat.zero_add, true_and, nI_n0, nat_le, Nat.add_zero, i_1, rt_pa_readLaw_0, rt_pa_readLaw_1, rt_pa_readLaw_b, x_al0, x_al1, x_al2, x_call, x_getf, x_goto, x_icgt, x_ifeq, x_ifne, x_il3, x_inc3, x_iret, x_is3, x_ldc, n10, ↓reduceIte]
              exact fin C j2 g5 (ew.trans e2) (gOK_n o4 o5)
            · have x5 := gXx_t o4 x5
              simp -implicitDefEqProofs (disch := first | assumption | omega) only [szS_0, szS_i, szS_r, szS_l, x_cons, x_goto, ob_some, kl_i, kl_r, kl_l, kl_n, push_n, push_s, pop_0, pop_i, pop_r, Int.reduceToNat, List.length_cons, List.length_nil, Nat.reduceAdd, Nat.reduceLeDiff, Nat.zero_add, true_and, nI_n0, nat_le, Nat.add_zero, i_1, rt_pa_readLaw_0, rt_pa_readLaw_1, rt_pa_readLaw_b, x_al0, x_al1, x_al2, x_call, x_getf, x_goto, x_icgt, x_ifeq, x_ifne, x_il3, x_inc3, x_iret, x_is3, x_ldc, ↓reduceIte]
              exact HX _ _ g5 (eu.trans ((bw_r e).trans (bw_l (ew.trans e2)))) ⟨fun a x1 x2 x3 x4 => by rw [x5.1 a x1 x2 x3, fa3 a x1 x2 x3 x4], fun x x1 x2 x3 x4 x6 => by rw [x5.2.1 x x1 x2 x3 x4 x6, f168 x x3 x4 x6], fun x x1 x2 => by rw [x5.2.2.1 x x2, fb3 x x2], x5.2.2.2.1, x5.2.2.2.2.1, by rw [x5.1 (b + 2) b168.2.2 (by omega) (by omega), st3, pu_n (by omega)]⟩
          · rw [decide_eq_false c3]
            simp -implicitDefEqProofs (disch := first | assumption | omega) only [↓reduceIte]
            exact fin [] j g3 (if_neg c3) (gOK_r i3)
        · simp -implicitDefEqProofs (disch := first | assumption | omega) only [szS_0, szS_i, szS_r, szS_l, x_cons, x_goto, ob_some, kl_i, kl_r, kl_l, kl_n, push_n, push_s, pop_0, pop_i, pop_r, Int.reduceToNat, List.length_cons, List.length_nil, Nat.reduceAdd, Nat.reduceLeDiff, Nat.zero_add, true_and, nI_n0, nat_le, Nat.add_zero, i_1, rt_pa_readLaw_0, rt_pa_readLaw_1, rt_pa_readLaw_b, x_al0, x_al1, x_al2, x_call, x_getf, x_goto, x_icgt, x_ifeq, x_ifne, x_il3, x_inc3, x_iret, x_is3, x_ldc, ↓reduceIte, b_pa_readLaw_46]
          exact HX _ _ g2 (eu.trans (bw_l e)) ⟨fun a x1 x3 x4 x5 => by rw [x2.1 a x1 x3 x4, r1.1 a x1], fun x x1 x3 x4 x5 x6 => by rw [x2.2.1 x x1 x3 x4 x5 x6, r1.2.1 x x4 x5 x6], fun x x1 x3 => by rw [x2.2.2.1 x x3, h1b], x2.2.2.2.1, x2.2.2.2.2.1, by rw [x2.1 (b + 2) b168.2.2 (by omega) (by omega), h1b2]⟩
      · rw [if_pos c7] at eu
        simp -implicitDefEqProofs (disch := first | assumption | omega) only [szS_0, szS_i, szS_r, szS_l, x_cons, x_goto, ob_some, kl_i, kl_r, kl_l, kl_n, push_n, push_s, pop_0, pop_i, pop_r, Int.reduceToNat, List.length_cons, List.length_nil, Nat.reduceAdd, Nat.reduceLeDiff, Nat.zero_add, true_and, nI_n0, nat_le, Nat.add_zero, i_1, rt_pa_readLaw_0, rt_pa_readLaw_1, rt_pa_readLaw_b, x_al0, x_al1, x_al2, x_call, x_getf, x_goto, x_icgt, x_ifeq, x_ifne, x_il3, x_inc3, x_iret, x_is3, x_ldc, ↓reduceIte, b_pa_readLaw_46]
        exact HX _ _ g1 eu (badX 1 g1 x1)
      · rw [if_neg (fun h => h c7), if_pos c16] at eu
        simp -implicitDefEqProofs (disch := first | assumption | omega) only [szS_0, szS_i, szS_r, szS_l, x_cons, x_goto, ob_some, kl_i, kl_r, kl_l, kl_n, push_n, push_s, pop_0, pop_i, pop_r, Int.reduceToNat, List.length_cons, List.length_nil, Nat.reduceAdd, Nat.reduceLeDiff, Nat.zero_add, true_and, nI_n0, nat_le, Nat.add_zero, i_1, rt_pa_readLaw_0, rt_pa_readLaw_1, rt_pa_readLaw_b, x_al0, x_al1, x_al2, x_call, x_getf, x_goto, x_icgt, x_ifeq, x_ifne, x_il3, x_inc3, x_iret, x_is3, x_ldc, ↓reduceIte, b_pa_readLaw_46]
        exact HX _ _ g1 eu (badX 3 g1 x1)
theorem s_creadLaw (hB : b = 22 ∨ b = 26 ∨ b = 52 ∨ b = 56 ∨ b = 82 ∨ b = 86) (hk0 : 1 ≤ k) (hk : k < 3) (hR : RT T n g) (hz : g (b + 2) 0 = nI 0)
    (HN : ∀ ls g', lnF T n k 401 0 0 = .inr ls → (∀ a, a ≠ 168 → a ≠ 170 → a ≠ 171 → a ≠ 172 → a ≠ b → a ≠ b + 1 → a ≠ b + 2 → g' a = g a) → (∀ x, x ≠ 4 → x ≠ 5 → x ≠ 9 → x ≠ 10 → g' 168 x = g 168 x) → LC b (k - 1) g' ls → P (some (.int (nI 1))) (E g' q))
    (HX : ∀ f' j g', lnF T n k 401 0 0 = .inl (f', j) → (∀ a, a ≠ 168 → a ≠ 170 → a ≠ 171 → a ≠ 172 → a ≠ b → a ≠ b + 1 → a ≠ b + 2 → g' a = g a) → (∀ x, x ≠ 2 → x ≠ 3 → x ≠ 4 → x ≠ 5 → x ≠ 9 → x ≠ 10 → g' 168 x = g 168 x) → g' 168 2 = nI f' → g' 168 3 = nI (kB T n j) → g' (b + 2) 0 = nI 0 → P (some (.int (nI 0))) (E g' q)) :
    callC (ev (d + 23)) pa_readLaw [.ref 173, .ref b, .ref (100000 + WID k)] (E g q) P := by
  refine in_pa_readLaw rfl ?_
  have hn := hR.2.1
  have b168 : b ≠ 168 ∧ b + 1 ≠ 168 ∧ b + 2 ≠ 168 := by omega
  have cl : ∀ {d : Nat} {Q : QT}, callC (ev (d + 1)) la_clear [.ref b] (E g q) Q = Q none (E (upw g b (pu (pu (g b) 0 (nI 0)) 1 (nI 0))) q) := fun {d} {Q} => by
    refine call_eq (in_la_clear (by rcases hB with rfl | rfl | rfl | rfl | rfl | rfl <;> rfl) ?_)
    rw [b_la_clear_0]
    simp -implicitDefEqProofs (disch := first | assumption | omega) only [szS_0, szS_i, szS_r, szS_l, x_cons, x_goto, ob_some, kl_i, kl_r, kl_l, kl_n, push_n, push_s, pop_0, pop_i, pop_r, Int.reduceToNat, List.length_cons, List.length_nil, Nat.reduceAdd, Nat.reduceLeDiff, Nat.zero_add, true_and, nI_n0, nat_le, Nat.add_zero, rt_la_clear, x_al0, x_ldc, x_putf, x_vret, lf_0, lf_1, lf_2, lf_3, lf_4, ls_0, ls_1, ll_1, ld_L1, pu_g, pu_w, upw_s, upw_w]
    all_goals first | rfl | exact ⟨rfl, rfl⟩ | exact ⟨rfl, trivial⟩ | exact ⟨trivial, rfl⟩ | trivial
  obtain ⟨g1, hg1⟩ : ∃ g1, g1 = upw g b (pu (pu (g b) 0 (nI 0)) 1 (nI 0)) := ⟨_, rfl⟩
  have e1 : ∀ a, a ≠ b → g1 a = g a := fun a ha => by rw [hg1, upw_o ha]
  rw [b_pa_readLaw_0]
  simp -implicitDefEqProofs (disch := first | assumption | omega) only [szS_0, szS_i, szS_r, szS_l, x_cons, x_goto, ob_some, kl_i, kl_r, kl_l, kl_n, push_n, push_s, pop_0, pop_i, pop_r, Int.reduceToNat, List.length_cons, List.length_nil, Nat.reduceAdd, Nat.reduceLeDiff, Nat.zero_add, true_and, nI_n0, nat_le, Nat.add_zero, i_1, rt_pa_readLaw_0, rt_pa_readLaw_1, rt_pa_readLaw_b, x_al0, x_al1, x_al2, x_call, x_getf, x_goto, x_icgt, x_ifeq, x_ifne, x_il3, x_inc3, x_iret, x_is3, x_ldc, cl, fd_173_0]
  rw [← hg1]
  refine s_begin2 (d := d + 13) hk (RT_f hR (e1 169 (by omega)) (by rw [e1 168 (by omega)])) fun g2 f2 r2 t2 => ?_
  simp -implicitDefEqProofs (disch := first | assumption | omega) only [szS_0, szS_i, szS_r, szS_l, x_cons, x_goto, ob_some, kl_i, kl_r, kl_l, kl_n, push_n, push_s, pop_0, pop_i, pop_r, Int.reduceToNat, List.length_cons, List.length_nil, Nat.reduceAdd, Nat.reduceLeDiff, Nat.zero_add, true_and, nI_n0, nat_le, Nat.add_zero, i_1, rt_pa_readLaw_0, rt_pa_readLaw_1, rt_pa_readLaw_b, x_al0, x_al1, x_al2, x_call, x_getf, x_goto, x_icgt, x_ifeq, x_ifne, x_il3, x_inc3, x_iret, x_is3, x_ldc]
  have q2 : ∀ a, a = b ∨ a = b + 1 ∨ a = b + 2 → g2 a = g1 a := fun a ha => f2 a (by omega) (by omega) (by omega) (by omega)
  refine cl_lp hB hk0 hk hn 401 0 0 0 g2 (by omega) t2 (by rw [q2 b (by omega), hg1, upw_s, pu_n (by decide), pu_s]) (by rw [q2 b (by omega), hg1, upw_s, pu_s]) (by rw [q2 (b + 2) (by omega), e1 (b + 2) (by omega)]; exact hz) (Nat.le_refl 0) (Nat.zero_le _) (Nat.zero_le _) (fun ls g3 e3 l3 => ?_) fun f' j g3 e3 x3 => ?_
  · obtain ⟨a1, a2, a3, a4, a5, a6, a7⟩ := l3
    have hls := (lnF_k hk0 hk 401 0 0 (Nat.zero_le _) (Nat.zero_le _) e3).1
    refine HN ls g3 e3 (fun a h1 h2 h3 h4 h5 h6 h7 => by rw [a1 a h1 h5 h6 h7, f2 a h1 h2 h3 h4, e1 a h5]) (fun x x1 x2 x3 x4 => by rw [a2 x x1 x2 x4, r2 x x1 x2 x3 x4, e1 168 (by omega)]) ⟨by rw [a4, Nat.zero_add], by omega, a5, ?_⟩
    rw [a6 0 (Nat.zero_le _), q2 (b + 2) (by omega), e1 (b + 2) (by omega)]
    exact hz
  · obtain ⟨a1, a2, a3, a4, a5, a6⟩ := x3
    refine HX f' j g3 e3 (fun a h1 h2 h3 h4 h5 h6 h7 => by rw [a1 a h1 h5 h6 h7, f2 a h1 h2 h3 h4, e1 a h5]) (fun x x1 x2 x3 x4 x5 x6 => by rw [a2 x x1 x2 x3 x4 x6, r2 x x3 x4 x5 x6, e1 168 (by omega)]) a4 a5 ?_
    rw [a6, q2 (b + 2) (by omega), e1 (b + 2) (by omega)]
    exact hz
end CL8
