/-! the class's reader, at a token -/
def kdN (c : Nat) : Nat := if c = 0 then 0 else if c = 1 then 4 else if c = 2 then 2 else if 100 ≤ c then 3 else 1
theorem tkR_k {k c m : Nat} {kd vl : Int32} (h : tkR k c m kd vl) : kd = nI (kdN c) := by
  unfold kdN
  split
  next e => exact h.1 e
  next e0 =>
    split
    next e => exact h.2.1 e
    next e1 =>
      split
      next e => exact (h.2.2.1 e).1
      next e2 =>
        split
        next e => exact (h.2.2.2.1 e).1
        next e3 => exact (h.2.2.2.2 (by omega) (by omega)).1
theorem kdN_l (c : Nat) : kdN c ≤ 4 := by
  unfold kdN
  repeat' split
  all_goals omega
theorem kdN_w {c : Nat} : kdN c = 1 ↔ 3 ≤ c ∧ c < 100 := by
  unfold kdN
  repeat' split
  all_goals omega
theorem kdN_s {c : Nat} : kdN c = 3 ↔ 100 ≤ c := by
  unfold kdN
  repeat' split
  all_goals omega
theorem kdN_2 {c : Nat} : kdN c = 2 ↔ c = 2 := by
  unfold kdN
  repeat' split
  all_goals omega
theorem kdN_0 {c : Nat} : kdN c = 0 ↔ c = 0 := by
  unfold kdN
  repeat' split
  all_goals omega
section RDR
variable {d : Nat} {g : Nat → Nat → Int32} {q : Nat → Nat → Int64} {P : QT} {T : Nat → Nat} {n k i : Nat}
theorem tkL_f {L : Nat} {g g' : Nat → Nat → Int32} (h : tkL T n k L g) (e9 : g' 168 9 = g 168 9) (e0 : g' 170 = g 170) (e1 : g' 171 = g 171) (e2 : g' 172 = g 172) : tkL T n k L g' := by
  unfold tkL at *
  rw [e9, e0, e1, e2]
  exact h
theorem tkC_f {g g' : Nat → Nat → Int32} (h : tkC T n k i g) (e : ∀ j, j = 4 ∨ j = 5 ∨ j = 9 ∨ j = 10 → g' 168 j = g 168 j) (e0 : g' 170 = g 170) (e1 : g' 171 = g 171) (e2 : g' 172 = g 172) : tkC T n k i g' := by
  obtain ⟨L, hL, m, hm, a1, a2, a3⟩ := h
  exact ⟨L, tkL_f hL (e 9 (by omega)) e0 e1 e2, m, hm, by rw [e 10 (by omega)]; exact a1, by rw [e 4 (by omega), e0]; exact a2, by rw [e 5 (by omega), e1]; exact a3⟩
/-- what stands there -/
theorem tkC_t (hk : k < 3) (h : tkC T n k i g) : tkR k (kC T n k i) (kN T n i) (g 168 4) (g 168 5) ∧ ∃ m, m ≤ 400 ∧ g 168 10 = nI m ∧ g 172 m = nI (kB T n i) := by
  obtain ⟨L, ⟨⟨b1, b2, b3⟩, b4, b5⟩, m, hm, a1, a2, a3⟩ := h
  by_cases hl : L < i
  · rw [if_pos hl] at hm
    subst hm
    obtain ⟨j, rfl⟩ : ∃ j, i = m + j := ⟨i - m, by omega⟩
    have h1 := kC_m hk b3 j
    have h2 := b5 m (Nat.le_refl m)
    rw [h1.1, h1.2, a2, a3]
    rw [b3] at h2
    exact ⟨tkR_0 (h2.1.1 rfl), m, b2, a1, h2.2⟩
  · rw [if_neg hl] at hm
    subst hm
    have h2 := b5 m (by omega)
    rw [a2, a3]
    exact ⟨h2.1, m, by omega, a1, h2.2⟩
theorem s_rnext (h : tkC T n k i g) (H : ∀ g', (∀ a, a ≠ 168 → g' a = g a) → (∀ j, j ≠ 4 → j ≠ 5 → j ≠ 10 → g' 168 j = g 168 j) → tkC T n k (i + 1) g' → P none (E g' q)) : callC (ev (d + 2)) re_next [.ref 168] (E g q) P := by
  refine in_re_next rfl ?_
  obtain ⟨L, hL, m, hm, a1, a2, a3⟩ := h
  have hL' := hL
  obtain ⟨⟨b1, b2, b3⟩, b4, b5⟩ := hL
  have hml : m ≤ L := by rw [hm]; split <;> omega
  have hm2 : (if L < m + 1 then L else m + 1) = if L < i + 1 then L else i + 1 := by
    rw [hm]
    repeat' split
    all_goals omega
  obtain ⟨m', hm'⟩ : ∃ m', m' = if L < m + 1 then L else m + 1 := ⟨_, rfl⟩
  have hml' : m' ≤ L := by rw [hm']; split <;> omega
  have hl4 : m' < 401 := by omega
  rw [b_re_next_0]
  simp -implicitDefEqProofs (disch := first | assumption | omega) only [szS_0, szS_i, szS_r, szS_l, x_cons, x_goto, ob_some, kl_i, kl_r, kl_l, kl_n, push_n, push_s, pop_0, pop_i, pop_r, Int.reduceToNat, List.length_cons, List.length_nil, Nat.reduceAdd, Nat.reduceLeDiff, Nat.zero_add, true_and, nI_n0, nat_le, Nat.add_zero, rt_re_next, x_al0, x_call, x_getf, x_iadd, x_iaload, x_ldc, x_putf, x_vret, fd_168_0, fd_168_1, sf_168_1, fd_168_2, sf_168_2, fd_168_3, sf_168_3, fd_168_4, sf_168_4, fd_168_5, sf_168_5, fd_168_6, fd_168_7, fd_168_8, fd_168_9, sf_168_9, fd_168_10, sf_168_10, a1, b1, nI_add, s_jmin, nI_ltE, nI_ite, ← hm', pu_g, pu_w, upw_s, upw_w, pu_n, pu_s, ld_170, sd_170, ln_170, ld_171, sd_171, ln_171, upw_o]
  refine H _ (fun a ha => upw_o ha) (fun j j1 j2 j3 => by rw [upw_s, pu_n j2, pu_n j1, pu_n j3]) ⟨L, tkL_f hL' (by rw [upw_s, pu_n (by decide), pu_n (by decide), pu_n (by decide)]) (upw_o (by decide)) (upw_o (by decide)) (upw_o (by decide)), m', by rw [hm', hm2], ?_, ?_, ?_⟩
  · rw [upw_s, pu_n (by decide), pu_n (by decide), pu_s]
  · rw [upw_s, pu_n (by decide), pu_s, upw_o (by decide)]
  · rw [upw_s, pu_s, upw_o (by decide)]
theorem s_refuse (hk : k < 3) (h : tkC T n k i g) {f : Int32} (H : ∀ g', (∀ a, a ≠ 168 → g' a = g a) → (∀ j, j ≠ 2 → j ≠ 3 → g' 168 j = g 168 j) → g' 168 2 = f → g' 168 3 = nI (kB T n i) → P (some (.int (nI 0))) (E g' q)) : callC (ev (d + 1)) re_refuse [.ref 168, .int f] (E g q) P := by
  refine in_re_refuse rfl ?_
  obtain ⟨-, m, hm, e10, e172⟩ := tkC_t hk h
  rw [b_re_refuse_0]
  simp -implicitDefEqProofs (disch := first | assumption | omega) only [szS_0, szS_i, szS_r, szS_l, x_cons, x_goto, ob_some, kl_i, kl_r, kl_l, kl_n, push_n, push_s, pop_0, pop_i, pop_r, Int.reduceToNat, List.length_cons, List.length_nil, Nat.reduceAdd, Nat.reduceLeDiff, Nat.zero_add, true_and, nI_n0, nat_le, Nat.add_zero, rt_re_refuse_0, rt_re_refuse_1, rt_re_refuse_b, x_al0, x_getf, x_iaload, x_il1, x_iret, x_ldc, x_putf, fd_168_0, fd_168_1, sf_168_1, fd_168_2, sf_168_2, fd_168_3, sf_168_3, fd_168_4, sf_168_4, fd_168_5, sf_168_5, fd_168_6, fd_168_7, fd_168_8, fd_168_9, sf_168_9, fd_168_10, sf_168_10, pu_g, upw_s, pu_n, e10, ld_172, sd_172, ln_172, upw_o, e172, pu_w, upw_w]
  refine H _ (fun a ha => upw_o ha) (fun j j1 j2 => by rw [upw_s, pu_n j2, pu_n j1]) ?_ ?_
  · rw [upw_s, pu_n (by decide), pu_s]
  · rw [upw_s, pu_s]
theorem s_cisWord (hk : k < 3) (h : tkC T n k i g) {w : Nat} (hw : w < WN k) : callC (ev (d + 1)) re_isWord [.ref 168, .int (nI w)] (E g q) P = P (some (.int (bI (decide (kC T n k i = CT_ k w))))) (E g q) := by
  refine call_eq (in_re_isWord rfl ?_)
  obtain ⟨ht, -⟩ := tkC_t hk h
  have e4 := tkR_k ht
  have hkl := kdN_l (kC T n k i)
  have hwl := WN_l hk
  have hwo := WT_ok hk hw
  have no : kC T n k i ≠ CT_ k w → wp (ev d) (fun r1 h1 => r1 = some (.int (bI (decide (kC T n k i = CT_ k w)))) ∧ h1 = E g q) re_isWord 20 [some (.ref 168), some (.int (nI w))] [] (E g q) := by
    intro h
    rw [decide_eq_false h, b_re_isWord_20]
    simp -implicitDefEqProofs (disch := first | assumption | omega) only [szS_0, szS_i, szS_r, szS_l, x_cons, x_goto, ob_some, kl_i, kl_r, kl_l, kl_n, push_n, push_s, pop_0, pop_i, pop_r, Int.reduceToNat, List.length_cons, List.length_nil, Nat.reduceAdd, Nat.reduceLeDiff, Nat.zero_add, true_and, nI_n0, nat_le, Nat.add_zero, rt_re_isWord_0, rt_re_isWord_1, rt_re_isWord_b, x_al0, x_getf, x_goto, x_icne, x_il1, x_iret, x_ldc, b_re_isWord_21]
    all_goals first | rfl | exact ⟨rfl, rfl⟩ | exact ⟨rfl, trivial⟩ | exact ⟨trivial, rfl⟩ | trivial
  rw [b_re_isWord_0]
  simp -implicitDefEqProofs (disch := first | assumption | omega) only [szS_0, szS_i, szS_r, szS_l, x_cons, x_goto, ob_some, kl_i, kl_r, kl_l, kl_n, push_n, push_s, pop_0, pop_i, pop_r, Int.reduceToNat, List.length_cons, List.length_nil, Nat.reduceAdd, Nat.reduceLeDiff, Nat.zero_add, true_and, nI_n0, nat_le, Nat.add_zero, rt_re_isWord_0, rt_re_isWord_1, rt_re_isWord_b, x_al0, x_getf, x_goto, x_icne, x_il1, x_iret, x_ldc, fd_168_0, fd_168_1, sf_168_1, fd_168_2, sf_168_2, fd_168_3, sf_168_3, fd_168_4, sf_168_4, fd_168_5, sf_168_5, fd_168_6, fd_168_7, fd_168_8, fd_168_9, sf_168_9, fd_168_10, sf_168_10, e4, nI_eqE]
  by_cases h1 : kdN (kC T n k i) = 1
  · have h2 := kdN_w.mp h1
    obtain ⟨-, j, hj, e1, e5⟩ := ht.2.2.2.2 h2.1 h2.2
    rw [if_pos h1]
    try simp -implicitDefEqProofs (disch := first | assumption | omega) only [szS_0, szS_i, szS_r, szS_l, x_cons, x_goto, ob_some, kl_i, kl_r, kl_l, kl_n, push_n, push_s, pop_0, pop_i, pop_r, Int.reduceToNat, List.length_cons, List.length_nil, Nat.reduceAdd, Nat.reduceLeDiff, Nat.zero_add, true_and, nI_n0, nat_le, Nat.add_zero, rt_re_isWord_0, rt_re_isWord_1, rt_re_isWord_b, x_al0, x_getf, x_goto, x_icne, x_il1, x_iret, x_ldc, fd_168_0, fd_168_1, sf_168_1, fd_168_2, sf_168_2, fd_168_3, sf_168_3, fd_168_4, sf_168_4, fd_168_5, sf_168_5, fd_168_6, fd_168_7, fd_168_8, fd_168_9, sf_168_9, fd_168_10, sf_168_10, e5, nI_eqE]
    by_cases h3 : j = w
    · rw [h3] at e1
      rw [if_pos h3, decide_eq_true e1]
      try simp -implicitDefEqProofs (disch := first | assumption | omega) only [szS_0, szS_i, szS_r, szS_l, x_cons, x_goto, ob_some, kl_i, kl_r, kl_l, kl_n, push_n, push_s, pop_0, pop_i, pop_r, Int.reduceToNat, List.length_cons, List.length_nil, Nat.reduceAdd, Nat.reduceLeDiff, Nat.zero_add, true_and, nI_n0, nat_le, Nat.add_zero, rt_re_isWord_0, rt_re_isWord_1, rt_re_isWord_b, x_al0, x_getf, x_goto, x_icne, x_il1, x_iret, x_ldc, b_re_isWord_21]
      all_goals first | rfl | exact ⟨rfl, rfl⟩ | exact ⟨rfl, trivial⟩ | exact ⟨trivial, rfl⟩ | trivial
    · rw [if_neg h3]
      exact no fun e => ((WT_ok hk hj).2.2 w hw h3).1 (e1.symm.trans e)
  · rw [if_neg h1]
    exact no fun e => h1 (kdN_w.mpr (by rw [e]; exact hwo.2.1))
theorem s_cisSign (hk : k < 3) (h : tkC T n k i g) {s : Nat} (hs : s < 256) : callC (ev (d + 1)) re_isSign [.ref 168, .int (nI s)] (E g q) P = P (some (.int (bI (decide (kC T n k i = 100 + s))))) (E g q) := by
  refine call_eq (in_re_isSign rfl ?_)
  obtain ⟨ht, -⟩ := tkC_t hk h
  have e4 := tkR_k ht
  have hkl := kdN_l (kC T n k i)
  have no : kC T n k i ≠ 100 + s → wp (ev d) (fun r1 h1 => r1 = some (.int (bI (decide (kC T n k i = 100 + s)))) ∧ h1 = E g q) re_isSign 20 [some (.ref 168), some (.int (nI s))] [] (E g q) := by
    intro h
    rw [decide_eq_false h, b_re_isSign_20]
    simp -implicitDefEqProofs (disch := first | assumption | omega) only [szS_0, szS_i, szS_r, szS_l, x_cons, x_goto, ob_some, kl_i, kl_r, kl_l, kl_n, push_n, push_s, pop_0, pop_i, pop_r, Int.reduceToNat, List.length_cons, List.length_nil, Nat.reduceAdd, Nat.reduceLeDiff, Nat.zero_add, true_and, nI_n0, nat_le, Nat.add_zero, rt_re_isSign_0, rt_re_isSign_1, rt_re_isSign_b, x_al0, x_getf, x_goto, x_icne, x_il1, x_iret, x_ldc, b_re_isSign_21]
    all_goals first | rfl | exact ⟨rfl, rfl⟩ | exact ⟨rfl, trivial⟩ | exact ⟨trivial, rfl⟩ | trivial
  rw [b_re_isSign_0]
  simp -implicitDefEqProofs (disch := first | assumption | omega) only [szS_0, szS_i, szS_r, szS_l, x_cons, x_goto, ob_some, kl_i, kl_r, kl_l, kl_n, push_n, push_s, pop_0, pop_i, pop_r, Int.reduceToNat, List.length_cons, List.length_nil, Nat.reduceAdd, Nat.reduceLeDiff, Nat.zero_add, true_and, nI_n0, nat_le, Nat.add_zero, rt_re_isSign_0, rt_re_isSign_1, rt_re_isSign_b, x_al0, x_getf, x_goto, x_icne, x_il1, x_iret, x_ldc, fd_168_0, fd_168_1, sf_168_1, fd_168_2, sf_168_2, fd_168_3, sf_168_3, fd_168_4, sf_168_4, fd_168_5, sf_168_5, fd_168_6, fd_168_7, fd_168_8, fd_168_9, sf_168_9, fd_168_10, sf_168_10, e4, nI_eqE]
  by_cases h1 : kdN (kC T n k i) = 3
  · have h2 := kdN_s.mp h1
    obtain ⟨-, e5, hcl⟩ := ht.2.2.2.1 h2
    rw [if_pos h1]
    try simp -implicitDefEqProofs (disch := first | assumption | omega) only [szS_0, szS_i, szS_r, szS_l, x_cons, x_goto, ob_some, kl_i, kl_r, kl_l, kl_n, push_n, push_s, pop_0, pop_i, pop_r, Int.reduceToNat, List.length_cons, List.length_nil, Nat.reduceAdd, Nat.reduceLeDiff, Nat.zero_add, true_and, nI_n0, nat_le, Nat.add_zero, rt_re_isSign_0, rt_re_isSign_1, rt_re_isSign_b, x_al0, x_getf, x_goto, x_icne, x_il1, x_iret, x_ldc, fd_168_0, fd_168_1, sf_168_1, fd_168_2, sf_168_2, fd_168_3, sf_168_3, fd_168_4, sf_168_4, fd_168_5, sf_168_5, fd_168_6, fd_168_7, fd_168_8, fd_168_9, sf_168_9, fd_168_10, sf_168_10, e5, nI_eqE]
    by_cases h3 : kC T n k i - 100 = s
    · rw [if_pos h3, decide_eq_true (show kC T n k i = 100 + s by omega)]
      try simp -implicitDefEqProofs (disch := first | assumption | omega) only [szS_0, szS_i, szS_r, szS_l, x_cons, x_goto, ob_some, kl_i, kl_r, kl_l, kl_n, push_n, push_s, pop_0, pop_i, pop_r, Int.reduceToNat, List.length_cons, List.length_nil, Nat.reduceAdd, Nat.reduceLeDiff, Nat.zero_add, true_and, nI_n0, nat_le, Nat.add_zero, rt_re_isSign_0, rt_re_isSign_1, rt_re_isSign_b, x_al0, x_getf, x_goto, x_icne, x_il1, x_iret, x_ldc, b_re_isSign_21]
      all_goals first | rfl | exact ⟨rfl, rfl⟩ | exact ⟨rfl, trivial⟩ | exact ⟨trivial, rfl⟩ | trivial
    · rw [if_neg h3]
      exact no fun e => h3 (by omega)
  · rw [if_neg h1]
    exact no fun e => h1 (kdN_s.mpr (by omega))
/-- what comes of a step of the reader: the next token, or a fault here -/
def rdN (T : Nat → Nat) (n k i : Nat) (g g' : Nat → Nat → Int32) : Prop := (∀ a, a ≠ 168 → g' a = g a) ∧ (∀ j, j ≠ 4 → j ≠ 5 → j ≠ 10 → g' 168 j = g 168 j) ∧ tkC T n k (i + 1) g'
def rdX (T : Nat → Nat) (n i f : Nat) (g g' : Nat → Nat → Int32) : Prop := (∀ a, a ≠ 168 → g' a = g a) ∧ (∀ j, j ≠ 2 → j ≠ 3 → g' 168 j = g 168 j) ∧ g' 168 2 = nI f ∧ g' 168 3 = nI (kB T n i)
theorem s_takeWord (hk : k < 3) (h : tkC T n k i g) {w : Nat} (hw : w < WN k) (HN : kC T n k i = CT_ k w → ∀ g', rdN T n k i g g' → P (some (.int (nI 1))) (E g' q)) (HX : kC T n k i ≠ CT_ k w → ∀ g', rdX T n i 1 g g' → P (some (.int (nI 0))) (E g' q)) : callC (ev (d + 3)) re_takeWord [.ref 168, .int (nI w)] (E g q) P := by
  refine in_re_takeWord rfl ?_
  rw [b_re_takeWord_0]
  simp -implicitDefEqProofs (disch := first | assumption | omega) only [szS_0, szS_i, szS_r, szS_l, x_cons, x_goto, ob_some, kl_i, kl_r, kl_l, kl_n, push_n, push_s, pop_0, pop_i, pop_r, Int.reduceToNat, List.length_cons, List.length_nil, Nat.reduceAdd, Nat.reduceLeDiff, Nat.zero_add, true_and, nI_n0, nat_le, Nat.add_zero, rt_re_takeWord_0, rt_re_takeWord_1, rt_re_takeWord_b, x_al0, x_call, x_ifne, x_il1, x_iret, x_ldc, s_cisWord hk h hw, bI_0]
  by_cases hc : kC T n k i = CT_ k w
  · rw [decide_eq_true hc]
    simp -implicitDefEqProofs (disch := first | assumption | omega) only [Bool.true_eq_false, ↓reduceIte, b_re_takeWord_14, szS_0, szS_i, szS_r, szS_l, x_cons, x_goto, ob_some, kl_i, kl_r, kl_l, kl_n, push_n, push_s, pop_0, pop_i, pop_r, Int.reduceToNat, List.length_cons, List.length_nil, Nat.reduceAdd, Nat.reduceLeDiff, Nat.zero_add, true_and, nI_n0, nat_le, Nat.add_zero, rt_re_takeWord_0, rt_re_takeWord_1, rt_re_takeWord_b, x_al0, x_call, x_ifne, x_il1, x_iret, x_ldc]
    refine s_rnext h fun g1 f1 f2 t1 => ?_
    simp -implicitDefEqProofs (disch := first | assumption | omega) only [szS_0, szS_i, szS_r, szS_l, x_cons, x_goto, ob_some, kl_i, kl_r, kl_l, kl_n, push_n, push_s, pop_0, pop_i, pop_r, Int.reduceToNat, List.length_cons, List.length_nil, Nat.reduceAdd, Nat.reduceLeDiff, Nat.zero_add, true_and, nI_n0, nat_le, Nat.add_zero, rt_re_takeWord_0, rt_re_takeWord_1, rt_re_takeWord_b, x_al0, x_call, x_ifne, x_il1, x_iret, x_ldc]
    exact HN hc g1 ⟨f1, f2, t1⟩
  · rw [decide_eq_false hc]
    simp -implicitDefEqProofs (disch := first | assumption | omega) only [↓reduceIte, szS_0, szS_i, szS_r, szS_l, x_cons, x_goto, ob_some, kl_i, kl_r, kl_l, kl_n, push_n, push_s, pop_0, pop_i, pop_r, Int.reduceToNat, List.length_cons, List.length_nil, Nat.reduceAdd, Nat.reduceLeDiff, Nat.zero_add, true_and, nI_n0, nat_le, Nat.add_zero, rt_re_takeWord_0, rt_re_takeWord_1, rt_re_takeWord_b, x_al0, x_call, x_ifne, x_il1, x_iret, x_ldc]
    refine s_refuse (d := d + 1) hk h fun g1 f1 f2 e2 e3 => ?_
    simp -implicitDefEqProofs (disch := first | assumption | omega) only [szS_0, szS_i, szS_r, szS_l, x_cons, x_goto, ob_some, kl_i, kl_r, kl_l, kl_n, push_n, push_s, pop_0, pop_i, pop_r, Int.reduceToNat, List.length_cons, List.length_nil, Nat.reduceAdd, Nat.reduceLeDiff, Nat.zero_add, true_and, nI_n0, nat_le, Nat.add_zero, rt_re_takeWord_0, rt_re_takeWord_1, rt_re_takeWord_b, x_al0, x_call, x_ifne, x_il1, x_iret, x_ldc]
    exact HX hc g1 ⟨f1, f2, e2, e3⟩
theorem s_takeSign (hk : k < 3) (h : tkC T n k i g) {s : Nat} (hs : s < 256) (HN : kC T n k i = 100 + s → ∀ g', rdN T n k i g g' → P (some (.int (nI 1))) (E g' q)) (HX : kC T n k i ≠ 100 + s → ∀ g', rdX T n i 1 g g' → P (some (.int (nI 0))) (E g' q)) : callC (ev (d + 3)) re_takeSign [.ref 168, .int (nI s)] (E g q) P := by
  refine in_re_takeSign rfl ?_
  rw [b_re_takeSign_0]
  simp -implicitDefEqProofs (disch := first | assumption | omega) only [szS_0, szS_i, szS_r, szS_l, x_cons, x_goto, ob_some, kl_i, kl_r, kl_l, kl_n, push_n, push_s, pop_0, pop_i, pop_r, Int.reduceToNat, List.length_cons, List.length_nil, Nat.reduceAdd, Nat.reduceLeDiff, Nat.zero_add, true_and, nI_n0, nat_le, Nat.add_zero, rt_re_takeSign_0, rt_re_takeSign_1, rt_re_takeSign_b, x_al0, x_call, x_ifne, x_il1, x_iret, x_ldc, s_cisSign hk h hs, bI_0]
  by_cases hc : kC T n k i = 100 + s
  · rw [decide_eq_true hc]
    simp -implicitDefEqProofs (disch := first | assumption | omega) only [Bool.true_eq_false, ↓reduceIte, b_re_takeSign_14, szS_0, szS_i, szS_r, szS_l, x_cons, x_goto, ob_some, kl_i, kl_r, kl_l, kl_n, push_n, push_s, pop_0, pop_i, pop_r, Int.reduceToNat, List.length_cons, List.length_nil, Nat.reduceAdd, Nat.reduceLeDiff, Nat.zero_add, true_and, nI_n0, nat_le, Nat.add_zero, rt_re_takeSign_0, rt_re_takeSign_1, rt_re_takeSign_b, x_al0, x_call, x_ifne, x_il1, x_iret, x_ldc]
    refine s_rnext h fun g1 f1 f2 t1 => ?_
    simp -implicitDefEqProofs (disch := first | assumption | omega) only [szS_0, szS_i, szS_r, szS_l, x_cons, x_goto, ob_some, kl_i, kl_r, kl_l, kl_n, push_n, push_s, pop_0, pop_i, pop_r, Int.reduceToNat, List.length_cons, List.length_nil, Nat.reduceAdd, Nat.reduceLeDiff, Nat.zero_add, true_and, nI_n0, nat_le, Nat.add_zero, rt_re_takeSign_0, rt_re_takeSign_1, rt_re_takeSign_b, x_al0, x_call, x_ifne, x_il1, x_iret, x_ldc]
    exact HN hc g1 ⟨f1, f2, t1⟩
  · rw [decide_eq_false hc]
    simp -implicitDefEqProofs (disch := first | assumption | omega) only [↓reduceIte, szS_0, szS_i, szS_r, szS_l, x_cons, x_goto, ob_some, kl_i, kl_r, kl_l, kl_n, push_n, push_s, pop_0, pop_i, pop_r, Int.reduceToNat, List.length_cons, List.length_nil, Nat.reduceAdd, Nat.reduceLeDiff, Nat.zero_add, true_and, nI_n0, nat_le, Nat.add_zero, rt_re_takeSign_0, rt_re_takeSign_1, rt_re_takeSign_b, x_al0, x_call, x_ifne, x_il1, x_iret, x_ldc]
    refine s_refuse (d := d + 1) hk h fun g1 f1 f2 e2 e3 => ?_
    simp -implicitDefEqProofs (disch := first | assumption | omega) only [szS_0, szS_i, szS_r, szS_l, x_cons, x_goto, ob_some, kl_i, kl_r, kl_l, kl_n, push_n, push_s, pop_0, pop_i, pop_r, Int.reduceToNat, List.length_cons, List.length_nil, Nat.reduceAdd, Nat.reduceLeDiff, Nat.zero_add, true_and, nI_n0, nat_le, Nat.add_zero, rt_re_takeSign_0, rt_re_takeSign_1, rt_re_takeSign_b, x_al0, x_call, x_ifne, x_il1, x_iret, x_ldc]
    exact HX hc g1 ⟨f1, f2, e2, e3⟩
theorem s_findNumber (hk : k < 3) (h : tkC T n k i g) {a b : Nat} (ha : a < 2147483648) (hb : b < 2147483648) (HN : kC T n k i = 2 → a ≤ kN T n i → kN T n i ≤ b → g 168 5 = nI (kN T n i) → kN T n i ≤ 9999 → P (some (.int (nI 1))) (E g q)) (H1 : kC T n k i ≠ 2 → ∀ g', rdX T n i 1 g g' → P (some (.int (nI 0))) (E g' q)) (H2 : kC T n k i = 2 → ¬ (a ≤ kN T n i ∧ kN T n i ≤ b) → ∀ g', rdX T n i 2 g g' → P (some (.int (nI 0))) (E g' q)) : callC (ev (d + 2)) re_findNumber [.ref 168, .int (nI a), .int (nI b)] (E g q) P := by
  refine in_re_findNumber rfl ?_
  obtain ⟨ht, -⟩ := tkC_t hk h
  have e4 := tkR_k ht
  have hkl := kdN_l (kC T n k i)
  rw [b_re_findNumber_0]
  simp -implicitDefEqProofs (disch := first | assumption | omega) only [szS_0, szS_i, szS_r, szS_l, x_cons, x_goto, ob_some, kl_i, kl_r, kl_l, kl_n, push_n, push_s, pop_0, pop_i, pop_r, Int.reduceToNat, List.length_cons, List.length_nil, Nat.reduceAdd, Nat.reduceLeDiff, Nat.zero_add, true_and, nI_n0, nat_le, Nat.add_zero, rt_re_findNumber_0, rt_re_findNumber_1, rt_re_findNumber_b, x_al0, x_call, x_getf, x_goto, x_iceq, x_ifeq, x_ifne, x_il1, x_il2, x_iret, x_ldc, fd_168_0, fd_168_1, sf_168_1, fd_168_2, sf_168_2, fd_168_3, sf_168_3, fd_168_4, sf_168_4, fd_168_5, sf_168_5, fd_168_6, fd_168_7, fd_168_8, fd_168_9, sf_168_9, fd_168_10, sf_168_10, e4, nI_eqE]
  by_cases hc : kC T n k i = 2
  · obtain ⟨-, e5, hm⟩ := ht.2.2.1 hc
    rw [if_pos (kdN_2.mpr hc)]
    try simp -implicitDefEqProofs (disch := first | assumption | omega) only [b_re_findNumber_14, szS_0, szS_i, szS_r, szS_l, x_cons, x_goto, ob_some, kl_i, kl_r, kl_l, kl_n, push_n, push_s, pop_0, pop_i, pop_r, Int.reduceToNat, List.length_cons, List.length_nil, Nat.reduceAdd, Nat.reduceLeDiff, Nat.zero_add, true_and, nI_n0, nat_le, Nat.add_zero, rt_re_findNumber_0, rt_re_findNumber_1, rt_re_findNumber_b, x_al0, x_call, x_getf, x_goto, x_iceq, x_ifeq, x_ifne, x_il1, x_il2, x_iret, x_ldc, fd_168_0, fd_168_1, sf_168_1, fd_168_2, sf_168_2, fd_168_3, sf_168_3, fd_168_4, sf_168_4, fd_168_5, sf_168_5, fd_168_6, fd_168_7, fd_168_8, fd_168_9, sf_168_9, fd_168_10, sf_168_10, e5, s_within, bI_0]
    by_cases hr : a ≤ kN T n i ∧ kN T n i ≤ b
    · have e : decide (nI a ≤ nI (kN T n i) ∧ nI (kN T n i) ≤ nI b) = true := decide_eq_true (by rw [nI_leE ha (by omega), nI_leE (by omega) hb]; exact hr)
      rw [e]
      simp -implicitDefEqProofs (disch := first | assumption | omega) only [Bool.true_eq_false, ↓reduceIte, b_re_findNumber_34, b_re_findNumber_39, szS_0, szS_i, szS_r, szS_l, x_cons, x_goto, ob_some, kl_i, kl_r, kl_l, kl_n, push_n, push_s, pop_0, pop_i, pop_r, Int.reduceToNat, List.length_cons, List.length_nil, Nat.reduceAdd, Nat.reduceLeDiff, Nat.zero_add, true_and, nI_n0, nat_le, Nat.add_zero, rt_re_findNumber_0, rt_re_findNumber_1, rt_re_findNumber_b, x_al0, x_call, x_getf, x_goto, x_iceq, x_ifeq, x_ifne, x_il1, x_il2, x_iret, x_ldc]
      exact HN hc hr.1 hr.2 e5 hm
    · have e : decide (nI a ≤ nI (kN T n i) ∧ nI (kN T n i) ≤ nI b) = false := decide_eq_false (by rw [nI_leE ha (by omega), nI_leE (by omega) hb]; exact hr)
      rw [e]
      simp -implicitDefEqProofs (disch := first | assumption | omega) only [↓reduceIte, szS_0, szS_i, szS_r, szS_l, x_cons, x_goto, ob_some, kl_i, kl_r, kl_l, kl_n, push_n, push_s, pop_0, pop_i, pop_r, Int.reduceToNat, List.length_cons, List.length_nil, Nat.reduceAdd, Nat.reduceLeDiff, Nat.zero_add, true_and, nI_n0, nat_le, Nat.add_zero, rt_re_findNumber_0, rt_re_findNumber_1, rt_re_findNumber_b, x_al0, x_call, x_getf, x_goto, x_iceq, x_ifeq, x_ifne, x_il1, x_il2, x_iret, x_ldc]
      refine s_refuse hk h fun g1 f1 f2 e2 e3 => ?_
      simp -implicitDefEqProofs (disch := first | assumption | omega) only [↓reduceIte, szS_0, szS_i, szS_r, szS_l, x_cons, x_goto, ob_some, kl_i, kl_r, kl_l, kl_n, push_n, push_s, pop_0, pop_i, pop_r, Int.reduceToNat, List.length_cons, List.length_nil, Nat.reduceAdd, Nat.reduceLeDiff, Nat.zero_add, true_and, nI_n0, nat_le, Nat.add_zero, rt_re_findNumber_0, rt_re_findNumber_1, rt_re_findNumber_b, x_al0, x_call, x_getf, x_goto, x_iceq, x_ifeq, x_ifne, x_il1, x_il2, x_iret, x_ldc, b_re_findNumber_38, b_re_findNumber_39]
      exact H2 hc hr g1 ⟨f1, f2, e2, e3⟩
  · rw [if_neg fun e => hc (kdN_2.mp e)]
    try simp -implicitDefEqProofs (disch := first | assumption | omega) only [szS_0, szS_i, szS_r, szS_l, x_cons, x_goto, ob_some, kl_i, kl_r, kl_l, kl_n, push_n, push_s, pop_0, pop_i, pop_r, Int.reduceToNat, List.length_cons, List.length_nil, Nat.reduceAdd, Nat.reduceLeDiff, Nat.zero_add, true_and, nI_n0, nat_le, Nat.add_zero, rt_re_findNumber_0, rt_re_findNumber_1, rt_re_findNumber_b, x_al0, x_call, x_getf, x_goto, x_iceq, x_ifeq, x_ifne, x_il1, x_il2, x_iret, x_ldc]
    refine s_refuse hk h fun g1 f1 f2 e2 e3 => ?_
    simp -implicitDefEqProofs (disch := first | assumption | omega) only [szS_0, szS_i, szS_r, szS_l, x_cons, x_goto, ob_some, kl_i, kl_r, kl_l, kl_n, push_n, push_s, pop_0, pop_i, pop_r, Int.reduceToNat, List.length_cons, List.length_nil, Nat.reduceAdd, Nat.reduceLeDiff, Nat.zero_add, true_and, nI_n0, nat_le, Nat.add_zero, rt_re_findNumber_0, rt_re_findNumber_1, rt_re_findNumber_b, x_al0, x_call, x_getf, x_goto, x_iceq, x_ifeq, x_ifne, x_il1, x_il2, x_iret, x_ldc]
    exact H1 hc g1 ⟨f1, f2, e2, e3⟩
end RDR
