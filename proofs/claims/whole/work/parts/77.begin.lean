/-! the class takes all tokens at once -/
def WID (k : Nat) : Nat := if k = 0 then 0 else k + 1
/-- the words before a place of a text, and where the last one begins -/
def nwd (W : Nat) : Nat → Nat
  | 0 => 0
  | i + 1 => if sB W i = 32 then nwd W i + 1 else nwd W i
def bgd (W : Nat) : Nat → Nat
  | 0 => 0
  | i + 1 => if sB W i = 32 then i + 1 else bgd W i
theorem wd_ck : ((List.range 3).all fun k => decide (nwd (WID k) (sL (WID k)) + 1 = WN k) && (List.range (sL (WID k) + 1)).all fun i => decide (bgd (WID k) i ≤ i ∧ nwd (WID k) i < WN k) && (!(decide (i = sL (WID k)) || decide (sB (WID k) i = 32)) || (decide (sL (WT k (nwd (WID k) i)) = i - bgd (WID k) i) && (List.range (i - bgd (WID k) i)).all fun x => decide (sB (WID k) (bgd (WID k) i + x) = sB (WT k (nwd (WID k) i)) x)))) = true := by decide +kernel
theorem wd_ok {k : Nat} (hk : k < 3) : nwd (WID k) (sL (WID k)) + 1 = WN k ∧ ∀ i, i ≤ sL (WID k) → (bgd (WID k) i ≤ i ∧ nwd (WID k) i < WN k) ∧ ((i = sL (WID k) ∨ sB (WID k) i = 32) → sL (WT k (nwd (WID k) i)) = i - bgd (WID k) i ∧ ∀ x, x < i - bgd (WID k) i → sB (WID k) (bgd (WID k) i + x) = sB (WT k (nwd (WID k) i)) x) := by
  have h := List.all_eq_true.mp wd_ck k (List.mem_range.mpr hk)
  rw [Bool.and_eq_true] at h
  refine ⟨of_decide_eq_true h.1, fun i hi => ?_⟩
  have h2 := List.all_eq_true.mp h.2 i (List.mem_range.mpr (by omega))
  rw [Bool.and_eq_true] at h2
  refine ⟨of_decide_eq_true h2.1, fun h3 => ?_⟩
  have h4 := h2.2
  rw [← Bool.decide_or, decide_eq_true h3, Bool.not_true, Bool.false_or, Bool.and_eq_true] at h4
  exact ⟨of_decide_eq_true h4.1, fun x hx => of_decide_eq_true (List.all_eq_true.mp h4.2 x (List.mem_range.mpr hx))⟩
theorem WID_l {k : Nat} (hk : k < 3) : WID k < 25 := by
  unfold WID
  split <;> omega
theorem WN_l {k : Nat} (hk : k < 3) : WN k ≤ 15 := by
  have : k = 0 ∨ k = 1 ∨ k = 2 := by omega
  rcases this with rfl | rfl | rfl <;> decide
/-- the tape, as the class has it -/
def RT (T : Nat → Nat) (n : Nat) (g : Nat → Nat → Int32) : Prop := g 168 1 = nI n ∧ n ≤ 400 ∧ ∀ j, j < n → g 169 j = nI (T j) ∧ T j < 256
theorem RT_f {T : Nat → Nat} {n : Nat} {g g' : Nat → Nat → Int32} (h : RT T n g) (e1 : g' 169 = g 169) (e2 : g' 168 1 = g 168 1) : RT T n g' := by
  unfold RT at *
  rw [e1, e2]
  exact h
section BG
variable {d : Nat} {g : Nat → Nat → Int32} {q : Nat → Nat → Int64} {P : QT} {T : Nat → Nat} {n k : Nat}
theorem s_cletter {h : Hp} {x : Nat} (hx : x < 256) : callC (ev (d + 1)) re_isLetter [.int (nI x)] h P = P (some (.int (bI (ltr x)))) h := by
  refine call_eq (in_re_isLetter rfl ?_)
  have yes : ltr x = true → wp (ev d) (fun r1 h1 => r1 = some (.int (bI (ltr x))) ∧ h1 = h) re_isLetter 24 [some (.int (nI x))] [] h := by
    intro h
    rw [h, b_re_isLetter_24]
    simp -implicitDefEqProofs (disch := first | assumption | omega) only [szS_0, szS_i, szS_r, szS_l, x_cons, x_goto, ob_some, kl_i, kl_r, kl_l, kl_n, push_n, push_s, pop_0, pop_i, pop_r, Int.reduceToNat, List.length_cons, List.length_nil, Nat.reduceAdd, Nat.reduceLeDiff, Nat.zero_add, true_and, nI_n0, nat_le, Nat.add_zero, rt_re_isLetter_0, rt_re_isLetter_1, rt_re_isLetter_b, x_goto, x_icgt, x_icle, x_iclt, x_il0, x_iret, x_ldc, b_re_isLetter_29]
    all_goals first | rfl | exact ⟨rfl, rfl⟩ | exact ⟨rfl, trivial⟩ | exact ⟨trivial, rfl⟩ | trivial
  have mid : ¬ (97 ≤ x ∧ x ≤ 122) → wp (ev d) (fun r1 h1 => r1 = some (.int (bI (ltr x))) ∧ h1 = h) re_isLetter 12 [some (.int (nI x))] [] h := by
    intro h1
    have no : ltr x = false → wp (ev d) (fun r1 h1 => r1 = some (.int (bI (ltr x))) ∧ h1 = h) re_isLetter 28 [some (.int (nI x))] [] h := by
      intro h
      rw [h, b_re_isLetter_28]
      simp -implicitDefEqProofs (disch := first | assumption | omega) only [szS_0, szS_i, szS_r, szS_l, x_cons, x_goto, ob_some, kl_i, kl_r, kl_l, kl_n, push_n, push_s, pop_0, pop_i, pop_r, Int.reduceToNat, List.length_cons, List.length_nil, Nat.reduceAdd, Nat.reduceLeDiff, Nat.zero_add, true_and, nI_n0, nat_le, Nat.add_zero, rt_re_isLetter_0, rt_re_isLetter_1, rt_re_isLetter_b, x_goto, x_icgt, x_icle, x_iclt, x_il0, x_iret, x_ldc, b_re_isLetter_29]
      all_goals first | rfl | exact ⟨rfl, rfl⟩ | exact ⟨rfl, trivial⟩ | exact ⟨trivial, rfl⟩ | trivial
    rw [b_re_isLetter_12]
    simp -implicitDefEqProofs (disch := first | assumption | omega) only [szS_0, szS_i, szS_r, szS_l, x_cons, x_goto, ob_some, kl_i, kl_r, kl_l, kl_n, push_n, push_s, pop_0, pop_i, pop_r, Int.reduceToNat, List.length_cons, List.length_nil, Nat.reduceAdd, Nat.reduceLeDiff, Nat.zero_add, true_and, nI_n0, nat_le, Nat.add_zero, rt_re_isLetter_0, rt_re_isLetter_1, rt_re_isLetter_b, x_goto, x_icgt, x_icle, x_iclt, x_il0, x_iret, x_ldc, nI_ltE]
    by_cases h2 : x < 65
    · rw [if_pos h2]
      exact no (decide_eq_false (by omega))
    · rw [if_neg h2]
      try simp -implicitDefEqProofs (disch := first | assumption | omega) only [szS_0, szS_i, szS_r, szS_l, x_cons, x_goto, ob_some, kl_i, kl_r, kl_l, kl_n, push_n, push_s, pop_0, pop_i, pop_r, Int.reduceToNat, List.length_cons, List.length_nil, Nat.reduceAdd, Nat.reduceLeDiff, Nat.zero_add, true_and, nI_n0, nat_le, Nat.add_zero, rt_re_isLetter_0, rt_re_isLetter_1, rt_re_isLetter_b, x_goto, x_icgt, x_icle, x_iclt, x_il0, x_iret, x_ldc, nI_ltE]
      by_cases h3 : 90 < x
      · rw [if_pos h3]
        exact no (decide_eq_false (by omega))
      · rw [if_neg h3]
        exact yes (decide_eq_true (by omega))
  rw [b_re_isLetter_0]
  simp -implicitDefEqProofs (disch := first | assumption | omega) only [szS_0, szS_i, szS_r, szS_l, x_cons, x_goto, ob_some, kl_i, kl_r, kl_l, kl_n, push_n, push_s, pop_0, pop_i, pop_r, Int.reduceToNat, List.length_cons, List.length_nil, Nat.reduceAdd, Nat.reduceLeDiff, Nat.zero_add, true_and, nI_n0, nat_le, Nat.add_zero, rt_re_isLetter_0, rt_re_isLetter_1, rt_re_isLetter_b, x_goto, x_icgt, x_icle, x_iclt, x_il0, x_iret, x_ldc, nI_ltE]
  by_cases h1 : x < 97
  · rw [if_pos h1]
    exact mid (by omega)
  · rw [if_neg h1]
    try simp -implicitDefEqProofs (disch := first | assumption | omega) only [szS_0, szS_i, szS_r, szS_l, x_cons, x_goto, ob_some, kl_i, kl_r, kl_l, kl_n, push_n, push_s, pop_0, pop_i, pop_r, Int.reduceToNat, List.length_cons, List.length_nil, Nat.reduceAdd, Nat.reduceLeDiff, Nat.zero_add, true_and, nI_n0, nat_le, Nat.add_zero, rt_re_isLetter_0, rt_re_isLetter_1, rt_re_isLetter_b, x_goto, x_icgt, x_icle, x_iclt, x_il0, x_iret, x_ldc, nI_ltE]
    by_cases h2 : 122 < x
    · rw [if_pos h2]
      exact mid (by omega)
    · rw [if_neg h2]
      exact yes (decide_eq_true (by omega))
theorem s_cdigit {h : Hp} {x : Nat} (hx : x < 256) : callC (ev (d + 1)) re_isDigit [.int (nI x)] h P = P (some (.int (bI (dgt x)))) h := by
  refine call_eq (in_re_isDigit rfl ?_)
  have no : dgt x = false → wp (ev d) (fun r1 h1 => r1 = some (.int (bI (dgt x))) ∧ h1 = h) re_isDigit 16 [some (.int (nI x))] [] h := by
    intro h
    rw [h, b_re_isDigit_16]
    simp -implicitDefEqProofs (disch := first | assumption | omega) only [szS_0, szS_i, szS_r, szS_l, x_cons, x_goto, ob_some, kl_i, kl_r, kl_l, kl_n, push_n, push_s, pop_0, pop_i, pop_r, Int.reduceToNat, List.length_cons, List.length_nil, Nat.reduceAdd, Nat.reduceLeDiff, Nat.zero_add, true_and, nI_n0, nat_le, Nat.add_zero, rt_re_isDigit_0, rt_re_isDigit_1, rt_re_isDigit_b, x_goto, x_icgt, x_iclt, x_il0, x_iret, x_ldc, b_re_isDigit_17]
    all_goals first | rfl | exact ⟨rfl, rfl⟩ | exact ⟨rfl, trivial⟩ | exact ⟨trivial, rfl⟩ | trivial
  rw [b_re_isDigit_0]
  simp -implicitDefEqProofs (disch := first | assumption | omega) only [szS_0, szS_i, szS_r, szS_l, x_cons, x_goto, ob_some, kl_i, kl_r, kl_l, kl_n, push_n, push_s, pop_0, pop_i, pop_r, Int.reduceToNat, List.length_cons, List.length_nil, Nat.reduceAdd, Nat.reduceLeDiff, Nat.zero_add, true_and, nI_n0, nat_le, Nat.add_zero, rt_re_isDigit_0, rt_re_isDigit_1, rt_re_isDigit_b, x_goto, x_icgt, x_iclt, x_il0, x_iret, x_ldc, nI_ltE]
  by_cases h1 : x < 48
  · rw [if_pos h1]
    exact no (decide_eq_false (by omega))
  · rw [if_neg h1]
    try simp -implicitDefEqProofs (disch := first | assumption | omega) only [szS_0, szS_i, szS_r, szS_l, x_cons, x_goto, ob_some, kl_i, kl_r, kl_l, kl_n, push_n, push_s, pop_0, pop_i, pop_r, Int.reduceToNat, List.length_cons, List.length_nil, Nat.reduceAdd, Nat.reduceLeDiff, Nat.zero_add, true_and, nI_n0, nat_le, Nat.add_zero, rt_re_isDigit_0, rt_re_isDigit_1, rt_re_isDigit_b, x_goto, x_icgt, x_iclt, x_il0, x_iret, x_ldc, nI_ltE]
    by_cases h2 : 57 < x
    · rw [if_pos h2]
      exact no (decide_eq_false (by omega))
    · have hd : dgt x = true := decide_eq_true (by omega)
      rw [if_neg h2, hd]
      try simp -implicitDefEqProofs (disch := first | assumption | omega) only [szS_0, szS_i, szS_r, szS_l, x_cons, x_goto, ob_some, kl_i, kl_r, kl_l, kl_n, push_n, push_s, pop_0, pop_i, pop_r, Int.reduceToNat, List.length_cons, List.length_nil, Nat.reduceAdd, Nat.reduceLeDiff, Nat.zero_add, true_and, nI_n0, nat_le, Nat.add_zero, rt_re_isDigit_0, rt_re_isDigit_1, rt_re_isDigit_b, x_goto, x_icgt, x_iclt, x_il0, x_iret, x_ldc, b_re_isDigit_17]
      all_goals first | rfl | exact ⟨rfl, rfl⟩ | exact ⟨rfl, trivial⟩ | exact ⟨trivial, rfl⟩ | trivial
/-- whether a word of a text stands there -/
theorem iw_lp (hR : RT T n g) {W b f e : Nat} (hW : W < 25) (hfe : f ≤ e) (he : e ≤ sL W) (hbn : b + (e - f) ≤ n) (H : P (some (.int (bI (allb (fun x => decide (T (b + x) = sB W (f + x))) (e - f))))) (E g q)) : ∀ (j x : Nat), x + j = e - f → allb (fun x => decide (T (b + x) = sB W (f + x))) x = true →
    wp (ev (d + 4)) P re_isWordAt 3 [some (.ref 168), some (.int (nI b)), some (.ref (100000 + W)), some (.int (nI f)), some (.int (nI e)), some (.int (nI (f + x)))] [] (E g q) := by
  have hl := sL_l hW
  obtain ⟨r1, r2, r3⟩ := hR
  intro j
  induction j with
  | zero =>
    intro x hx ha
    have hx : x = e - f := hx
    have hfe2 : f + x = e := by omega
    rw [← hx, ha] at H
    rw [hfe2, b_re_isWordAt_3]
    simp -implicitDefEqProofs (disch := first | assumption | omega) only [szS_0, szS_i, szS_r, szS_l, x_cons, x_goto, ob_some, kl_i, kl_r, kl_l, kl_n, push_n, push_s, pop_0, pop_i, pop_r, Int.reduceToNat, List.length_cons, List.length_nil, Nat.reduceAdd, Nat.reduceLeDiff, Nat.zero_add, true_and, nI_n0, nat_le, Nat.add_zero, i_1, rt_re_isWordAt_0, rt_re_isWordAt_1, rt_re_isWordAt_b, x_al0, x_al2, x_call, x_getf, x_goto, x_iadd, x_iaload, x_iceq, x_icge, x_il1, x_il3, x_il4, x_il5, x_inc5, x_iret, x_is5, x_isub, x_ldc, nI_ltE, Nat.lt_irrefl, ↓reduceIte, b_re_isWordAt_38]
    exact H
  | succ j ih =>
    intro x hx ha
    have h1 : f + x < e := by omega
    have hT := r3 (b + x) (by omega)
    have hb := (sB_ok hW (show f + x < sL W by omega)).2
    have ei : b + (f + x) - f = b + x := by omega
    have en : allb (fun x => decide (T (b + x) = sB W (f + x))) (x + 1) = (allb (fun x => decide (T (b + x) = sB W (f + x))) x && decide (T (b + x) = sB W (f + x))) := rfl
    rw [ha, Bool.true_and] at en
    have hl2 : f ≤ b + (f + x) := by omega
    have hT2 := hT.2
    rw [b_re_isWordAt_3]
    simp -implicitDefEqProofs (disch := first | assumption | omega) only [szS_0, szS_i, szS_r, szS_l, x_cons, x_goto, ob_some, kl_i, kl_r, kl_l, kl_n, push_n, push_s, pop_0, pop_i, pop_r, Int.reduceToNat, List.length_cons, List.length_nil, Nat.reduceAdd, Nat.reduceLeDiff, Nat.zero_add, true_and, nI_n0, nat_le, Nat.add_zero, i_1, rt_re_isWordAt_0, rt_re_isWordAt_1, rt_re_isWordAt_b, x_al0, x_al2, x_call, x_getf, x_goto, x_iadd, x_iaload, x_iceq, x_icge, x_il1, x_il3, x_il4, x_il5, x_inc5, x_iret, x_is5, x_isub, x_ldc, nI_ltE, h1, ↓reduceIte, s_charAt hW (show f + x < sL W by omega), fd_168_0, fd_168_1, sf_168_1, fd_168_2, sf_168_2, fd_168_3, sf_168_3, fd_168_4, sf_168_4, fd_168_5, sf_168_5, fd_168_6, fd_168_7, fd_168_8, fd_168_9, sf_168_9, fd_168_10, sf_168_10, nI_add, nI_sub, ei, ld_169, sd_169, ln_169, hT.1, nI_eqE]
    by_cases h2 : sB W (f + x) = T (b + x)
    · rw [decide_eq_true h2.symm] at en
      rw [if_pos h2]
      try simp -implicitDefEqProofs (disch := first | assumption | omega) only [b_re_isWordAt_32, szS_0, szS_i, szS_r, szS_l, x_cons, x_goto, ob_some, kl_i, kl_r, kl_l, kl_n, push_n, push_s, pop_0, pop_i, pop_r, Int.reduceToNat, List.length_cons, List.length_nil, Nat.reduceAdd, Nat.reduceLeDiff, Nat.zero_add, true_and, nI_n0, nat_le, Nat.add_zero, i_1, rt_re_isWordAt_0, rt_re_isWordAt_1, rt_re_isWordAt_b, x_al0, x_al2, x_call, x_getf, x_goto, x_iadd, x_iaload, x_iceq, x_icge, x_il1, x_il3, x_il4, x_il5, x_inc5, x_iret, x_is5, x_isub, x_ldc, nI_add]
      exact ih (x + 1) (by omega) en
    · have hf : allb (fun x => decide (T (b + x) = sB W (f + x))) (e - f) = false := by
        cases hc : allb (fun x => decide (T (b + x) = sB W (f + x))) (e - f)
        · rfl
        · exact absurd (of_decide_eq_true (allb_i.mp hc x (by omega))).symm h2
      rw [hf] at H
      rw [if_neg h2]
      try simp -implicitDefEqProofs (disch := first | assumption | omega) only [szS_0, szS_i, szS_r, szS_l, x_cons, x_goto, ob_some, kl_i, kl_r, kl_l, kl_n, push_n, push_s, pop_0, pop_i, pop_r, Int.reduceToNat, List.length_cons, List.length_nil, Nat.reduceAdd, Nat.reduceLeDiff, Nat.zero_add, true_and, nI_n0, nat_le, Nat.add_zero, i_1, rt_re_isWordAt_0, rt_re_isWordAt_1, rt_re_isWordAt_b, x_al0, x_al2, x_call, x_getf, x_goto, x_iadd, x_iaload, x_iceq, x_icge, x_il1, x_il3, x_il4, x_il5, x_inc5, x_iret, x_is5, x_isub, x_ldc]
      exact H
theorem s_isWordAt (hR : RT T n g) {W b f e : Nat} (hW : W < 25) (hfe : f ≤ e) (he : e ≤ sL W) (hbn : b + (e - f) ≤ n) : callC (ev (d + 5)) re_isWordAt [.ref 168, .int (nI b), .ref (100000 + W), .int (nI f), .int (nI e)] (E g q) P = P (some (.int (bI (allb (fun x => decide (T (b + x) = sB W (f + x))) (e - f))))) (E g q) := by
  refine call_eq (in_re_isWordAt rfl ?_)
  rw [b_re_isWordAt_0]
  simp -implicitDefEqProofs (disch := first | assumption | omega) only [szS_0, szS_i, szS_r, szS_l, x_cons, x_goto, ob_some, kl_i, kl_r, kl_l, kl_n, push_n, push_s, pop_0, pop_i, pop_r, Int.reduceToNat, List.length_cons, List.length_nil, Nat.reduceAdd, Nat.reduceLeDiff, Nat.zero_add, true_and, nI_n0, nat_le, Nat.add_zero, i_1, rt_re_isWordAt_0, rt_re_isWordAt_1, rt_re_isWordAt_b, x_al0, x_al2, x_call, x_getf, x_goto, x_iadd, x_iaload, x_iceq, x_icge, x_il1, x_il3, x_il4, x_il5, x_inc5, x_iret, x_is5, x_isub, x_ldc]
  exact iw_lp hR hW hfe he hbn ⟨rfl, rfl⟩ (e - f) 0 (Nat.zero_add _) rfl
/-- the word's kind and number, as they are kept -/
def wkv : Option Nat → Int32 × Int32
  | none => (nI 4, nI 0)
  | some m => (nI 1, nI m)
theorem sw_1 (hR : RT T n g) {W b e : Nat} (H : wp (ev (d + 5)) P re_scanWord 28 [some (.ref 168), some (.int (nI b)), some (.ref W), some (.int (nI e)), none, none, none] [] (E g q)) : ∀ (j x : Nat), x + j = n → scn (fun i => ltr (T i)) n x = e →
    wp (ev (d + 5)) P re_scanWord 2 [some (.ref 168), some (.int (nI b)), some (.ref W), some (.int (nI x)), none, none, none] [] (E g q) := by
  obtain ⟨r1, r2, r3⟩ := hR
  intro j
  induction j with
  | zero =>
    intro x hx he
    have hx : x = n := hx
    subst hx
    rw [scn_e (Nat.le_refl x)] at he
    subst he
    rw [b_re_scanWord_2]
    simp -implicitDefEqProofs (disch := first | assumption | omega) only [szS_0, szS_i, szS_r, szS_l, x_cons, x_goto, ob_some, kl_i, kl_r, kl_l, kl_n, push_n, push_s, pop_0, pop_i, pop_r, Int.reduceToNat, List.length_cons, List.length_nil, Nat.reduceAdd, Nat.reduceLeDiff, Nat.zero_add, true_and, nI_n0, nat_le, Nat.add_zero, i_1, rt_re_scanWord, x_al0, x_al2, x_call, x_getf, x_goto, x_iadd, x_iaload, x_iastore, x_iceq, x_icge, x_icgt, x_icne, x_ifeq, x_il1, x_il3, x_il4, x_il5, x_il6, x_inc3, x_inc4, x_inc6, x_iret, x_is3, x_is4, x_is5, x_is6, x_isub, x_ldc, fd_168_0, fd_168_1, sf_168_1, fd_168_2, sf_168_2, fd_168_3, sf_168_3, fd_168_4, sf_168_4, fd_168_5, sf_168_5, fd_168_6, fd_168_7, fd_168_8, fd_168_9, sf_168_9, fd_168_10, sf_168_10, r1, nI_ltE, Nat.lt_irrefl, ↓reduceIte]
    exact H
  | succ j ih =>
    intro x hx he
    have hx' : x < n := by omega
    have hT := r3 x hx'
    rw [b_re_scanWord_2]
    simp -implicitDefEqProofs (disch := first | assumption | omega) only [szS_0, szS_i, szS_r, szS_l, x_cons, x_goto, ob_some, kl_i, kl_r, kl_l, kl_n, push_n, push_s, pop_0, pop_i, pop_r, Int.reduceToNat, List.length_cons, List.length_nil, Nat.reduceAdd, Nat.reduceLeDiff, Nat.zero_add, true_and, nI_n0, nat_le, Nat.add_zero, i_1, rt_re_scanWord, x_al0, x_al2, x_call, x_getf, x_goto, x_iadd, x_iaload, x_iastore, x_iceq, x_icge, x_icgt, x_icne, x_ifeq, x_il1, x_il3, x_il4, x_il5, x_il6, x_inc3, x_inc4, x_inc6, x_iret, x_is3, x_is4, x_is5, x_is6, x_isub, x_ldc, fd_168_0, fd_168_1, sf_168_1, fd_168_2, sf_168_2, fd_168_3, sf_168_3, fd_168_4, sf_168_4, fd_168_5, sf_168_5, fd_168_6, fd_168_7, fd_168_8, fd_168_9, sf_168_9, fd_168_10, sf_168_10, r1, nI_ltE, hx', ↓reduceIte, ld_169, sd_169, ln_169, hT.1, s_cletter hT.2, bI_0]
    cases hl : ltr (T x)
    · rw [scn_n hx' hl] at he
      subst he
      simp -implicitDefEqProofs (disch := first | assumption | omega) only [↓reduceIte]
      exact H
    · rw [scn_s hx' hl] at he
      simp -implicitDefEqProofs (disch := first | assumption | omega) only [Bool.true_eq_false, ↓reduceIte, szS_0, szS_i, szS_r, szS_l, x_cons, x_goto, ob_some, kl_i, kl_r, kl_l, kl_n, push_n, push_s, pop_0, pop_i, pop_r, Int.reduceToNat, List.length_cons, List.length_nil, Nat.reduceAdd, Nat.reduceLeDiff, Nat.zero_add, true_and, nI_n0, nat_le, Nat.add_zero, i_1, rt_re_scanWord, x_al0, x_al2, x_call, x_getf, x_goto, x_iadd, x_iaload, x_iastore, x_iceq, x_icge, x_icgt, x_icne, x_ifeq, x_il1, x_il3, x_il4, x_il5, x_il6, x_inc3, x_inc4, x_inc6, x_iret, x_is3, x_is4, x_is5, x_is6, x_isub, x_ldc, nI_add]
      exact ih (x + 1) (by omega) he
theorem sw_2 (hk : k < 3) {b e l : Nat} (hbe : b ≤ e) (hen : e ≤ n) (hl : l < 401) {g0 : Nat → Nat → Int32} (hR : RT T n g0) (h9 : g0 168 9 = nI l) (H : ∀ u v, u = (wkv (fwd T k b e (WN k))).1 → v = (wkv (fwd T k b e (WN k))).2 → P (some (.int (nI e))) (E (upw (upw g0 170 (pu (g0 170) l u)) 171 (pu (g0 171) l v)) q)) : ∀ (j i : Nat), i + j = sL (WID k) + 1 → ∀ (m f : Nat), (i ≤ sL (WID k) → m = nwd (WID k) i ∧ f = bgd (WID k) i) → (i = sL (WID k) + 1 → m = WN k) → m ≤ 200 → f ≤ 200 → 
    wp (ev (d + 6)) P re_scanWord 57 [some (.ref 168), some (.int (nI b)), some (.ref (100000 + WID k)), some (.int (nI e)), some (.int (nI m)), some (.int (nI f)), some (.int (nI i))] [] (E (upw (upw g0 170 (pu (g0 170) l (wkv (fwd T k b e m)).1)) 171 (pu (g0 171) l (wkv (fwd T k b e m)).2)) q) := by
  have hW := WID_l hk
  have hl2 := sL_l hW
  have hn := hR.2.1
  intro j
  induction j with
  | zero =>
    intro i hi m f h1 h2 hm hf
    have hi : i = sL (WID k) + 1 := hi
    subst hi
    have hm := h2 rfl
    subst hm
    have l1 : sL (WID k) < sL (WID k) + 1 := Nat.lt_succ_self _
    rw [b_re_scanWord_57]
    simp -implicitDefEqProofs (disch := first | assumption | omega) only [szS_0, szS_i, szS_r, szS_l, x_cons, x_goto, ob_some, kl_i, kl_r, kl_l, kl_n, push_n, push_s, pop_0, pop_i, pop_r, Int.reduceToNat, List.length_cons, List.length_nil, Nat.reduceAdd, Nat.reduceLeDiff, Nat.zero_add, true_and, nI_n0, nat_le, Nat.add_zero, i_1, rt_re_scanWord, x_al0, x_al2, x_call, x_getf, x_goto, x_iadd, x_iaload, x_iastore, x_iceq, x_icge, x_icgt, x_icne, x_ifeq, x_il1, x_il3, x_il4, x_il5, x_il6, x_inc3, x_inc4, x_inc6, x_iret, x_is3, x_is4, x_is5, x_is6, x_isub, x_ldc, s_len hW, nI_ltE, l1, ↓reduceIte, b_re_scanWord_146]
    exact H _ _ rfl rfl
  | succ j ih =>
    intro i hi m f h1 h2 hm hf
    have hi' : i ≤ sL (WID k) := by omega
    obtain ⟨rfl, rfl⟩ := h1 hi'
    have hok := (wd_ok hk).2 i hi'
    have hNW := (wd_ok hk).1
    have l1 : ¬ sL (WID k) < i := by omega
    have hb1 := hok.1.1
    have hb2 := hok.1.2
    have hWN := WN_l hk
    -- behind a word's end
    have sep : (i = sL (WID k) ∨ sB (WID k) i = 32) → wp (ev (d + 6)) P re_scanWord 86 [some (.ref 168), some (.int (nI b)), some (.ref (100000 + WID k)), some (.int (nI e)), some (.int (nI (nwd (WID k) i))), some (.int (nI (bgd (WID k) i))), some (.int (nI i))] [] (E (upw (upw g0 170 (pu (g0 170) l (wkv (fwd T k b e (nwd (WID k) i))).1)) 171 (pu (g0 171) l (wkv (fwd T k b e (nwd (WID k) i))).2)) q) := by
      intro hs
      obtain ⟨s1, s2⟩ := hok.2 hs
      have ef : fwd T k b e (nwd (WID k) i + 1) = if wmt T (WT k (nwd (WID k) i)) b e = true then some (nwd (WID k) i) else fwd T k b e (nwd (WID k) i) := rfl
      have next : wp (ev (d + 6)) P re_scanWord 131 [some (.ref 168), some (.int (nI b)), some (.ref (100000 + WID k)), some (.int (nI e)), some (.int (nI (nwd (WID k) i))), some (.int (nI (bgd (WID k) i))), some (.int (nI i))] [] (E (upw (upw g0 170 (pu (g0 170) l (wkv (fwd T k b e (nwd (WID k) i + 1))).1)) 171 (pu (g0 171) l (wkv (fwd T k b e (nwd (WID k) i + 1))).2)) q) := by
        rw [b_re_scanWord_131]
        simp -implicitDefEqProofs (disch := first | assumption | omega) only [szS_0, szS_i, szS_r, szS_l, x_cons, x_goto, ob_some, kl_i, kl_r, kl_l, kl_n, push_n, push_s, pop_0, pop_i, pop_r, Int.reduceToNat, List.length_cons, List.length_nil, Nat.reduceAdd, Nat.reduceLeDiff, Nat.zero_add, true_and, nI_n0, nat_le, Nat.add_zero, i_1, rt_re_scanWord, x_al0, x_al2, x_call, x_getf, x_goto, x_iadd, x_iaload, x_iastore, x_iceq, x_icge, x_icgt, x_icne, x_ifeq, x_il1, x_il3, x_il4, x_il5, x_il6, x_inc3, x_inc4, x_inc6, x_iret, x_is3, x_is4, x_is5, x_is6, x_isub, x_ldc, nI_add, b_re_scanWord_140]
        refine ih (i + 1) (by omega) _ _ (fun h3 => ?_) (fun h3 => ?_) (by omega) (by omega)
        · have hsb : sB (WID k) i = 32 := hs.resolve_left (by omega)
          exact ⟨(if_pos hsb).symm, (if_pos hsb).symm⟩
        · have : i = sL (WID k) := by omega
          rw [this]
          exact hNW
      rw [b_re_scanWord_86]
      simp -implicitDefEqProofs (disch := first | assumption | omega) only [szS_0, szS_i, szS_r, szS_l, x_cons, x_goto, ob_some, kl_i, kl_r, kl_l, kl_n, push_n, push_s, pop_0, pop_i, pop_r, Int.reduceToNat, List.length_cons, List.length_nil, Nat.reduceAdd, Nat.reduceLeDiff, Nat.zero_add, true_and, nI_n0, nat_le, Nat.add_zero, i_1, rt_re_scanWord, x_al0, x_al2, x_call, x_getf, x_goto, x_iadd, x_iaload, x_iastore, x_iceq, x_icge, x_icgt, x_icne, x_ifeq, x_il1, x_il3, x_il4, x_il5, x_il6, x_inc3, x_inc4, x_inc6, x_iret, x_is3, x_is4, x_is5, x_is6, x_isub, x_ldc, nI_sub, hb1, nI_eqE]
      by_cases h3 : i - bgd (WID k) i = e - b
      · have hall : allb (fun x => decide (T (b + x) = sB (WID k) (bgd (WID k) i + x))) (i - bgd (WID k) i) = wmt T (WT k (nwd (WID k) i)) b e := by
          cases hw : wmt T (WT k (nwd (WID k) i)) b e
          · cases ha : allb (fun x => decide (T (b + x) = sB (WID k) (bgd (WID k) i + x))) (i - bgd (WID k) i)
            · rfl
            · have : wmt T (WT k (nwd (WID k) i)) b e = true := wmt_i.mpr ⟨by rw [s1, h3], fun x hx => by
                rw [s1] at hx
                rw [of_decide_eq_true (allb_i.mp ha x hx), s2 x hx]⟩
              rw [hw] at this
              cases this
          · exact allb_i.mpr fun x hx => decide_eq_true (by rw [(wmt_i.mp hw).2 x (by rw [s1]; exact hx), s2 x hx])
        rw [if_pos h3]
        try simp -implicitDefEqProofs (disch := first | assumption | omega) only [szS_0, szS_i, szS_r, szS_l, x_cons, x_goto, ob_some, kl_i, kl_r, kl_l, kl_n, push_n, push_s, pop_0, pop_i, pop_r, Int.reduceToNat, List.length_cons, List.length_nil, Nat.reduceAdd, Nat.reduceLeDiff, Nat.zero_add, true_and, nI_n0, nat_le, Nat.add_zero, i_1, rt_re_scanWord, x_al0, x_al2, x_call, x_getf, x_goto, x_iadd, x_iaload, x_iastore, x_iceq, x_icge, x_icgt, x_icne, x_ifeq, x_il1, x_il3, x_il4, x_il5, x_il6, x_inc3, x_inc4, x_inc6, x_iret, x_is3, x_is4, x_is5, x_is6, x_isub, x_ldc]
        rw [s_isWordAt (d := d + 1) (T := T) (n := n) (RT_f hR (by rw [upw_o (by decide), upw_o (by decide)]) (by rw [upw_o (by decide), upw_o (by decide)])) hW hb1 hi' (by omega), hall]
        simp -implicitDefEqProofs (disch := first | assumption | omega) only [szS_0, szS_i, szS_r, szS_l, x_cons, x_goto, ob_some, kl_i, kl_r, kl_l, kl_n, push_n, push_s, pop_0, pop_i, pop_r, Int.reduceToNat, List.length_cons, List.length_nil, Nat.reduceAdd, Nat.reduceLeDiff, Nat.zero_add, true_and, nI_n0, nat_le, Nat.add_zero, i_1, rt_re_scanWord, x_al0, x_al2, x_call, x_getf, x_goto, x_iadd, x_iaload, x_iastore, x_iceq, x_icge, x_icgt, x_icne, x_ifeq, x_il1, x_il3, x_il4, x_il5, x_il6, x_inc3, x_inc4, x_inc6, x_iret, x_is3, x_is4, x_is5, x_is6, x_isub, x_ldc, bI_0]
        cases hw : wmt T (WT k (nwd (WID k) i)) b e
        · rw [hw, if_neg Bool.false_ne_true] at ef
          rw [ef] at next
          simp -implicitDefEqProofs (disch := first | assumption | omega) only [↓reduceIte]
          exact next
        · rw [hw, if_pos rfl] at ef
          rw [ef] at next
          simp -implicitDefEqProofs (disch := first | assumption | omega) only [Bool.true_eq_false, ↓reduceIte, szS_0, szS_i, szS_r, szS_l, x_cons, x_goto, ob_some, kl_i, kl_r, kl_l, kl_n, push_n, push_s, pop_0, pop_i, pop_r, Int.reduceToNat, List.length_cons, List.length_nil, Nat.reduceAdd, Nat.reduceLeDiff, Nat.zero_add, true_and, nI_n0, nat_le, Nat.add_zero, i_1, rt_re_scanWord, x_al0, x_al2, x_call, x_getf, x_goto, x_iadd, x_iaload, x_iastore, x_iceq, x_icge, x_icgt, x_icne, x_ifeq, x_il1, x_il3, x_il4, x_il5, x_il6, x_inc3, x_inc4, x_inc6, x_iret, x_is3, x_is4, x_is5, x_is6, x_isub, x_ldc, fd_168_0, fd_168_1, sf_168_1, fd_168_2, sf_168_2, fd_168_3, sf_168_3, fd_168_4, sf_168_4, fd_168_5, sf_168_5, fd_168_6, fd_168_7, fd_168_8, fd_168_9, sf_168_9, fd_168_10, sf_168_10, upw_o, h9, ld_170, sd_170, ln_170, ld_171, sd_171, ln_171, pu_g, pu_w, upw_s]
          have e1 : upw (upw (upw (upw g0 170 (pu (g0 170) l (wkv (fwd T k b e (nwd (WID k) i))).1)) 171 (pu (g0 171) l (wkv (fwd T k b e (nwd (WID k) i))).2)) 170 (pu (pu (g0 170) l (wkv (fwd T k b e (nwd (WID k) i))).1) l (nI 1))) 171 (pu (pu (g0 171) l (wkv (fwd T k b e (nwd (WID k) i))).2) l (nI (nwd (WID k) i))) = upw (upw g0 170 (pu (g0 170) l (nI 1))) 171 (pu (g0 171) l (nI (nwd (WID k) i))) := by
            rw [pu_pu, pu_pu, upw_c (a := 171) (b := 170) (by decide), upw_w, upw_w]
          first
            | (rw [e1]; exact next)
            | exact next
      · have hw : wmt T (WT k (nwd (WID k) i)) b e = false := by
          cases hw : wmt T (WT k (nwd (WID k) i)) b e
          · rfl
          · have := (wmt_i.mp hw).1
            omega
        rw [hw, if_neg Bool.false_ne_true] at ef
        rw [ef] at next
        rw [if_neg h3]
        exact next
    rw [b_re_scanWord_57]
    simp -implicitDefEqProofs (disch := first | assumption | omega) only [szS_0, szS_i, szS_r, szS_l, x_cons, x_goto, ob_some, kl_i, kl_r, kl_l, kl_n, push_n, push_s, pop_0, pop_i, pop_r, Int.reduceToNat, List.length_cons, List.length_nil, Nat.reduceAdd, Nat.reduceLeDiff, Nat.zero_add, true_and, nI_n0, nat_le, Nat.add_zero, i_1, rt_re_scanWord, x_al0, x_al2, x_call, x_getf, x_goto, x_iadd, x_iaload, x_iastore, x_iceq, x_icge, x_icgt, x_icne, x_ifeq, x_il1, x_il3, x_il4, x_il5, x_il6, x_inc3, x_inc4, x_inc6, x_iret, x_is3, x_is4, x_is5, x_is6, x_isub, x_ldc, s_len hW, nI_ltE, l1, ↓reduceIte, nI_eqE]
    by_cases h3 : i = sL (WID k)
    · rw [if_pos h3]
      exact sep (Or.inl h3)
    · have h4 : i < sL (WID k) := by omega
      have hb := (sB_ok hW h4).2
      rw [if_neg h3]
      try simp -implicitDefEqProofs (disch := first | assumption | omega) only [szS_0, szS_i, szS_r, szS_l, x_cons, x_goto, ob_some, kl_i, kl_r, kl_l, kl_n, push_n, push_s, pop_0, pop_i, pop_r, Int.reduceToNat, List.length_cons, List.length_nil, Nat.reduceAdd, Nat.reduceLeDiff, Nat.zero_add, true_and, nI_n0, nat_le, Nat.add_zero, i_1, rt_re_scanWord, x_al0, x_al2, x_call, x_getf, x_goto, x_iadd, x_iaload, x_iastore, x_iceq, x_icge, x_icgt, x_icne, x_ifeq, x_il1, x_il3, x_il4, x_il5, x_il6, x_inc3, x_inc4, x_inc6, x_iret, x_is3, x_is4, x_is5, x_is6, x_isub, x_ldc, s_charAt hW h4, nI_eqE]
      by_cases h5 : sB (WID k) i = 32
      · rw [if_pos h5]
        exact sep (Or.inr h5)
      · rw [if_neg h5]
        try simp -implicitDefEqProofs (disch := first | assumption | omega) only [b_re_scanWord_140, szS_0, szS_i, szS_r, szS_l, x_cons, x_goto, ob_some, kl_i, kl_r, kl_l, kl_n, push_n, push_s, pop_0, pop_i, pop_r, Int.reduceToNat, List.length_cons, List.length_nil, Nat.reduceAdd, Nat.reduceLeDiff, Nat.zero_add, true_and, nI_n0, nat_le, Nat.add_zero, i_1, rt_re_scanWord, x_al0, x_al2, x_call, x_getf, x_goto, x_iadd, x_iaload, x_iastore, x_iceq, x_icge, x_icgt, x_icne, x_ifeq, x_il1, x_il3, x_il4, x_il5, x_il6, x_inc3, x_inc4, x_inc6, x_iret, x_is3, x_is4, x_is5, x_is6, x_isub, x_ldc, nI_add]
        exact ih (i + 1) (by omega) _ _ (fun _ => ⟨(if_neg h5).symm, (if_neg h5).symm⟩) (fun h => by omega) hm hf
end BG
