/-! a law's lines, read by both -/
def lnT : LW → Nat
  | [] => 0
  | (A, C) :: r => A.length + C.length + lnT r
def cxT (k : Nat) : LW → Nat
  | [] => 0
  | (A, C) :: r => (cxL k A).length + (cxL k C).length + cxT k r
theorem lnT_l {k : Nat} : ∀ {ls : LW}, lnT ls ≤ cxT k ls
  | [] => Nat.le_refl 0
  | (A, C) :: r => by
    have h1 := cxL_ln (k := k) (a := A)
    have h2 := cxL_ln (k := k) (a := C)
    have h3 := lnT_l (k := k) (ls := r)
    show A.length + C.length + lnT r ≤ (cxL k A).length + (cxL k C).length + cxT k r
    omega
/-- what is told of lines that were read -/
def lnS (ls : LW) : Prop := ∀ p, p ∈ ls → tyL p.1 [] = some [false] ∧ (p.2 = [] ∨ tyL p.2 [] = some [true])
theorem lnF_k {T : Nat → Nat} {n k : Nat} (hk0 : 1 ≤ k) (hk : k < 3) : ∀ (f i c : Nat) {ls : LW}, i ≤ n → c ≤ 16 → lnF T n k f i c = .inr ls → ls.length + c ≤ 16 ∧ lnS ls ∧ nmW (okk k) ls ∧ i + cxT (k - 1) ls ≤ n
  | 0, i, c, ls, _, _, h => by cases h
  | f + 1, i, c, ls, hi, hc, h => by
    unfold lnF at h
    split at h
    next h0 =>
      cases h
      exact ⟨by show 0 + c ≤ 16; omega, fun _ h => absurd h List.not_mem_nil, fun _ h => absurd h List.not_mem_nil, hi⟩
    next h0 =>
      split at h
      next h1 => cases h
      next h1 =>
        split at h
        next h2 => cases h
        next h2 =>
          obtain ⟨A, j, e1, h⟩ := bw_i h
          obtain ⟨C, j2, e2, h⟩ := bw_i h
          split at h
          next h3 =>
            obtain ⟨l1, e3, rfl⟩ := cw_i h
            obtain ⟨a1, a2, a3, a4, a5⟩ := smF_k hk0 hk e1
            obtain ⟨b1, b2, b3, b4, b5⟩ := whF_k hk0 hk a2 e2
            have hin := kC_l (T := T) (n := n) (i := j2) hk (by omega)
            obtain ⟨d1, d2, d3, d4⟩ := lnF_k hk0 hk f (j2 + 1) (c + 1) (by omega) (by omega) e3
            refine ⟨by rw [List.length_cons]; omega, fun p hp => ?_, fun p hp => ?_, ?_⟩
            · rcases List.mem_cons.mp hp with rfl | hp
              · exact ⟨a5 [] (by decide), b5⟩
              · exact d2 p hp
            · rcases List.mem_cons.mp hp with rfl | hp
              · exact ⟨a4, b4⟩
              · exact d3 p hp
            · show i + ((cxL (k - 1) A).length + (cxL (k - 1) C).length + cxT (k - 1) l1) ≤ n
              omega
          next h3 => cases h
/-! the reference's lines -/
def lwR (r1 r2 : Nat → Int32) : Nat → Nat → LW → Prop
  | _, _, [] => True
  | j, s, (A, C) :: r => (r1 (3 * j) = nI s ∧ r1 (3 * j + 1) = nI (s + A.length) ∧ r1 (3 * j + 2) = nI (s + A.length + C.length) ∧ fsR r2 s A ∧ fsR r2 (s + A.length) C) ∧ lwR r1 r2 (j + 1) (s + A.length + C.length) r
def mLn (T : Nat → Nat) (n k s c : Nat) (A C : List (Nat × Nat)) (j : Nat) (g g' : Nat → Nat → Int32) : Prop := FR [201, 202] [14, 18, 19, 20, 21, 22, 23, 25] g g' ∧ mT T n k j g' ∧ g' 196 14 = nI (s + A.length + C.length) ∧ (g' 201 (3 * c) = nI s ∧ g' 201 (3 * c + 1) = nI (s + A.length) ∧ g' 201 (3 * c + 2) = nI (s + A.length + C.length)) ∧ (∀ x, x < 3 * c → g' 201 x = g 201 x) ∧ fsR (g' 202) s A ∧ fsR (g' 202) (s + A.length) C ∧ ∀ x, x < 2 * s → g' 202 x = g 202 x
def mLX (T : Nat → Nat) (n f j : Nat) (g g' : Nat → Nat → Int32) : Prop := FR [201, 202] [13, 14, 18, 19, 20, 21, 22, 23, 25] g g' ∧ g' 196 22 = nI f ∧ g' 196 23 = nI (kB T n j)
section ML
variable {d : Nat} {g : Nat → Nat → Int32} {q : Nat → Nat → Int64} {P : QT} {T : Nat → Nat} {n k s i r c : Nat}
theorem mIn_L (h : mIn T n k s i r g) {v : Nat → Int32} : mIn T n k s i r (upw g 201 v) :=
  ⟨TT_f h.1 (upw_o (by decide)) (by rw [upw_o (by decide)]) (by rw [upw_o (by decide)]), mT_f h.2.1 (by rw [upw_o (by decide)]) (by rw [upw_o (by decide)]) (by rw [upw_o (by decide)]) (by rw [upw_o (by decide)]), by rw [upw_o (by decide)]; exact h.2.2.1, h.2.2.2.1, h.2.2.2.2.1, by rw [upw_o (by decide)]; exact h.2.2.2.2.2.1, h.2.2.2.2.2.2⟩
theorem FR_L {g1 g2 : Nat → Nat → Int32} {v : Nat → Int32} (h : FR [201, 202] [14, 18, 19, 20, 21, 22, 23, 25] g g1) (h2 : FR [202] [14, 18, 19, 20, 21, 22, 23, 25] (upw g1 201 v) g2) : FR [201, 202] [14, 18, 19, 20, 21, 22, 23, 25] g g2 := FR_t (FR_w rfl h) (FR_m rfl rfl h2)
theorem s_aLine (hk0 : 1 ≤ k) (hM : TT T n k g) (hT : mT T n k i g) (h13 : g 196 13 = nI c) (h14 : g 196 14 = nI s) (hs : s ≤ i) (hi : i ≤ n) (hc : c ≤ 16) (h0 : kC T n k i ≠ 0)
    (HN : ∀ A C j j2 g', (∀ f, lnF T n k (f + 1) i c = cw (A, C) (lnF T n k f (j2 + 1) (c + 1))) → smF T n k (i + 1) = .inr (A, j) → whF T n k j = .inr (C, j2) → j2 + 1 ≤ n → c < 16 → mLn T n k s c A C (j2 + 1) g g' → P (some (.int (nI 1))) (E g' q))
    (HX : ∀ f' j g', (∀ f, lnF T n k (f + 1) i c = .inl (f', j)) → mLX T n f' j g g' → P (some (.int (nI 0))) (E g' q)) : callC (ev (d + 41)) mo_aLine [.ref 196] (E g q) P := by
  refine in_mo_aLine rfl ?_
  have hk := hM.2.2.2.2
  have hn := hM.2.1
  have h19 := hT.2.1
  have hcc := kC_sm (T := T) (n := n) (m := i) hk
  have n10 : (nI 1 = nI 0) = False := eq_false (by decide)
  have eu : ∀ f, lnF T n k (f + 1) i c = if kC T n k i = 0 then .inr [] else if kC T n k i ≠ 7 then .inl (1, i) else if c = 16 then .inl (3, i) else bw (smF T n k (i + 1)) fun A j => bw (whF T n k j) fun C j2 => if kC T n k j2 = 159 then cw (A, C) (lnF T n k f (j2 + 1) (c + 1)) else .inl (1, j2) := fun _ => rfl
  rw [b_mo_aLine_0]
  simp -implicitDefEqProofs (disch := first | assumption | omega) only [szS_0, szS_i, szS_r, szS_l, x_cons, x_goto, ob_some, kl_i, kl_r, kl_l, kl_n, push_n, push_s, pop_0, pop_i, pop_r, Int.reduceToNat, List.length_cons, List.length_nil, Nat.reduceAdd, Nat.reduceLeDiff, Nat.zero_add, true_and, nI_n0, nat_le, Nat.add_zero, rt_mo_aLine_0, rt_mo_aLine_1, rt_mo_aLine_b, x_al0, x_call, x_getf, x_iadd, x_iastore, x_iceq, x_icne, x_ifne, x_imul, x_iret, x_ldc, x_putf, fd_196_0, fd_196_1, fd_196_2, fd_196_3, fd_196_4, sf_196_4, fd_196_5, sf_196_5, fd_196_6, fd_196_7, fd_196_8, fd_196_9, fd_196_10, fd_196_11, fd_196_12, sf_196_12, fd_196_13, sf_196_13, fd_196_14, sf_196_14, fd_196_15, sf_196_15, fd_196_16, sf_196_16, fd_196_17, sf_196_17, fd_196_18, sf_196_18, fd_196_19, sf_196_19, fd_196_20, sf_196_20, fd_196_21, sf_196_21, fd_196_22, sf_196_22, fd_196_23, sf_196_23, fd_196_24, sf_196_24, fd_196_25, sf_196_25, fd_196_26, sf_196_26, fd_196_27, fd_196_28, fd_196_29, fd_196_30, sf_196_30, fd_196_31, fd_196_32, fd_196_33, fd_196_34, fd_196_35, fd_196_36, fd_196_37, sf_196_37, fd_196_38, fd_196_39, sf_196_39, fd_196_40, sf_196_40, fd_196_41, sf_196_41, fd_196_42, fd_196_43, fd_196_44, h19, nI_eqE]
  by_cases c7 : kC T n k i = 7
  · simp only [c7, ↓reduceIte]
    try simp -implicitDefEqProofs (disch := first | assumption | omega) only [b_mo_aLine_15, szS_0, szS_i, szS_r, szS_l, x_cons, x_goto, ob_some, kl_i, kl_r, kl_l, kl_n, push_n, push_s, pop_0, pop_i, pop_r, Int.reduceToNat, List.length_cons, List.length_nil, Nat.reduceAdd, Nat.reduceLeDiff, Nat.zero_add, true_and, nI_n0, nat_le, Nat.add_zero, rt_mo_aLine_0, rt_mo_aLine_1, rt_mo_aLine_b, x_al0, x_call, x_getf, x_iadd, x_iastore, x_iceq, x_icne, x_ifne, x_imul, x_iret, x_ldc, x_putf, fd_196_0, fd_196_1, fd_196_2, fd_196_3, fd_196_4, sf_196_4, fd_196_5, sf_196_5, fd_196_6, fd_196_7, fd_196_8, fd_196_9, fd_196_10, fd_196_11, fd_196_12, sf_196_12, fd_196_13, sf_196_13, fd_196_14, sf_196_14, fd_196_15, sf_196_15, fd_196_16, sf_196_16, fd_196_17, sf_196_17, fd_196_18, sf_196_18, fd_196_19, sf_196_19, fd_196_20, sf_196_20, fd_196_21, sf_196_21, fd_196_22, sf_196_22, fd_196_23, sf_196_23, fd_196_24, sf_196_24, fd_196_25, sf_196_25, fd_196_26, sf_196_26, fd_196_27, fd_196_28, fd_196_29, fd_196_30, sf_196_30, fd_196_31, fd_196_32, fd_196_33, fd_196_34, fd_196_35, fd_196_36, fd_196_37, sf_196_37, fd_196_38, fd_196_39, sf_196_39, fd_196_40, sf_196_40, fd_196_41, sf_196_41, fd_196_42, fd_196_43, fd_196_44, h13, nI_eqE]
    by_cases c16 : c = 16
    · simp only [c16, ↓reduceIte]
      try simp -implicitDefEqProofs (disch := first | assumption | omega) only [szS_0, szS_i, szS_r, szS_l, x_cons, x_goto, ob_some, kl_i, kl_r, kl_l, kl_n, push_n, push_s, pop_0, pop_i, pop_r, Int.reduceToNat, List.length_cons, List.length_nil, Nat.reduceAdd, Nat.reduceLeDiff, Nat.zero_add, true_and, nI_n0, nat_le, Nat.add_zero, rt_mo_aLine_0, rt_mo_aLine_1, rt_mo_aLine_b, x_al0, x_call, x_getf, x_iadd, x_iastore, x_iceq, x_icne, x_ifne, x_imul, x_iret, x_ldc, x_putf]
      refine s_mbad (d := d + 39) hT fun g1 x1 => ?_
      simp -implicitDefEqProofs (disch := first | assumption | omega) only [szS_0, szS_i, szS_r, szS_l, x_cons, x_goto, ob_some, kl_i, kl_r, kl_l, kl_n, push_n, push_s, pop_0, pop_i, pop_r, Int.reduceToNat, List.length_cons, List.length_nil, Nat.reduceAdd, Nat.reduceLeDiff, Nat.zero_add, true_and, nI_n0, nat_le, Nat.add_zero, rt_mo_aLine_0, rt_mo_aLine_1, rt_mo_aLine_b, x_al0, x_call, x_getf, x_iadd, x_iastore, x_iceq, x_icne, x_ifne, x_imul, x_iret, x_ldc, x_putf]
      exact HX _ _ g1 (fun f => by rw [eu, if_neg h0, if_neg (fun h => h c7), if_pos c16]) ⟨FR_m rfl rfl x1.1, x1.2⟩
    · have eu : ∀ f, lnF T n k (f + 1) i c = bw (smF T n k (i + 1)) fun A j => bw (whF T n k j) fun C j2 => if kC T n k j2 = 159 then cw (A, C) (lnF T n k f (j2 + 1) (c + 1)) else .inl (1, j2) := fun f => by rw [eu, if_neg h0, if_neg (fun h => h c7), if_neg c16]
      have hin := kC_n (T := T) (n := n) (i := i) hk (by omega)
      have lc : 3 * c + 2 < 48 := by omega
      simp only [c16, ↓reduceIte]
      -- the line's head
      obtain ⟨ga, hga⟩ : ∃ ga, ga = upw g 196 (pu (g 196) 25 (nI 0)) := ⟨_, rfl⟩
      have fa : FR [201, 202] [14, 18, 19, 20, 21, 22, 23, 25] g ga := by
        rw [hga]
        exact FR_p rfl FR_r FR_r
      have ha : mIn T n k s i 8 ga := by
        rw [hga]
        exact ⟨TT_f hM (upw_o (by decide)) (by rw [upw_s, pu_n (by decide)]) (by rw [upw_s, pu_n (by decide)]), mT_f hT (by rw [upw_s, pu_n (by decide)]) (by rw [upw_s, pu_n (by decide)]) (by rw [upw_s, pu_n (by decide)]) (by rw [upw_s, pu_n (by decide)]), by rw [upw_s, pu_n (by decide)]; exact h14, hs, hi, by rw [upw_s, pu_s], Nat.le_refl 8⟩
      have ga1 : ga 201 = g 201 := by rw [hga, upw_o (by decide)]
      have ga2 : ga 202 = g 202 := by rw [hga, upw_o (by decide)]
      simp -implicitDefEqProofs (disch := first | assumption | omega) only [b_mo_aLine_30, szS_0, szS_i, szS_r, szS_l, x_cons, x_goto, ob_some, kl_i, kl_r, kl_l, kl_n, push_n, push_s, pop_0, pop_i, pop_r, Int.reduceToNat, List.length_cons, List.length_nil, Nat.reduceAdd, Nat.reduceLeDiff, Nat.zero_add, true_and, nI_n0, nat_le, Nat.add_zero, rt_mo_aLine_0, rt_mo_aLine_1, rt_mo_aLine_b, x_al0, x_call, x_getf, x_iadd, x_iastore, x_iceq, x_icne, x_ifne, x_imul, x_iret, x_ldc, x_putf, fd_196_0, fd_196_1, fd_196_2, fd_196_3, fd_196_4, sf_196_4, fd_196_5, sf_196_5, fd_196_6, fd_196_7, fd_196_8, fd_196_9, fd_196_10, fd_196_11, fd_196_12, sf_196_12, fd_196_13, sf_196_13, fd_196_14, sf_196_14, fd_196_15, sf_196_15, fd_196_16, sf_196_16, fd_196_17, sf_196_17, fd_196_18, sf_196_18, fd_196_19, sf_196_19, fd_196_20, sf_196_20, fd_196_21, sf_196_21, fd_196_22, sf_196_22, fd_196_23, sf_196_23, fd_196_24, sf_196_24, fd_196_25, sf_196_25, fd_196_26, sf_196_26, fd_196_27, fd_196_28, fd_196_29, fd_196_30, sf_196_30, fd_196_31, fd_196_32, fd_196_33, fd_196_34, fd_196_35, fd_196_36, fd_196_37, sf_196_37, fd_196_38, fd_196_39, sf_196_39, fd_196_40, sf_196_40, fd_196_41, sf_196_41, fd_196_42, fd_196_43, fd_196_44, pu_g]
      rw [← hga]
      refine s_nx (d := d + 30) ha fun g1 o1 => ?_
      have h1 := mIn_0 ha o1 hin
      have k13 : g1 196 13 = nI c := by rw [o1.1.2 13 (by decide), hga, upw_s, pu_n (by decide)]; exact h13
      have k14 := h1.2.2.1
      have e1 : g1 201 = g 201 := (o1.1.1 201 (by decide) (by decide)).trans ga1
      have l1 : 3 * c < 48 := by omega
      simp -implicitDefEqProofs (disch := first | assumption | omega) only [szS_0, szS_i, szS_r, szS_l, x_cons, x_goto, ob_some, kl_i, kl_r, kl_l, kl_n, push_n, push_s, pop_0, pop_i, pop_r, Int.reduceToNat, List.length_cons, List.length_nil, Nat.reduceAdd, Nat.reduceLeDiff, Nat.zero_add, true_and, nI_n0, nat_le, Nat.add_zero, rt_mo_aLine_0, rt_mo_aLine_1, rt_mo_aLine_b, x_al0, x_call, x_getf, x_iadd, x_iastore, x_iceq, x_icne, x_ifne, x_imul, x_iret, x_ldc, x_putf, fd_196_0, fd_196_1, fd_196_2, fd_196_3, fd_196_4, sf_196_4, fd_196_5, sf_196_5, fd_196_6, fd_196_7, fd_196_8, fd_196_9, fd_196_10, fd_196_11, fd_196_12, sf_196_12, fd_196_13, sf_196_13, fd_196_14, sf_196_14, fd_196_15, sf_196_15, fd_196_16, sf_196_16, fd_196_17, sf_196_17, fd_196_18, sf_196_18, fd_196_19, sf_196_19, fd_196_20, sf_196_20, fd_196_21, sf_196_21, fd_196_22, sf_196_22, fd_196_23, sf_196_23, fd_196_24, sf_196_24, fd_196_25, sf_196_25, fd_196_26, sf_196_26, fd_196_27, fd_196_28, fd_196_29, fd_196_30, sf_196_30, fd_196_31, fd_196_32, fd_196_33, fd_196_34, fd_196_35, fd_196_36, fd_196_37, sf_196_37, fd_196_38, fd_196_39, sf_196_39, fd_196_40, sf_196_40, fd_196_41, sf_196_41, fd_196_42, fd_196_43, fd_196_44, k13, k14, nI_mul, ld_201, sd_201, ln_201, pu_g]
      obtain ⟨g2, hg2⟩ : ∃ g2, g2 = upw g1 201 (pu (g1 201) (3 * c) (nI s)) := ⟨_, rfl⟩
      have h2 : mIn T n k s (i + 1) 8 g2 := by
        rw [hg2]
        exact mIn_L h1
      have f1 : FR [201, 202] [14, 18, 19, 20, 21, 22, 23, 25] g g1 := FR_t fa (FR_m rfl rfl o1.1)
      have f2 : FR [201, 202] [14, 18, 19, 20, 21, 22, 23, 25] g g2 := by
        rw [hg2]
        exact FR_w rfl f1
      rw [← hg2]
      refine s_sumUp (d := d + 27) hk0 h2 (fun A j g3 e o3 => ?_) fun f' j g3 e x3 => ?_
      · have u := smF_k hk0 hk e
        have h3 := mIn_t h2 o3 (okR_ls hs u) u.2.1
        have f3 : FR [201, 202] [14, 18, 19, 20, 21, 22, 23, 25] g g3 := FR_t f2 (FR_m rfl rfl o3.1)
        have m13 : g3 196 13 = nI c := by rw [f3.2 13 (by decide)]; exact h13
        have m14 := h3.2.2.1
        have m19 := h3.2.1.2.1
        have e3 : g3 201 = pu (g 201) (3 * c) (nI s) := by rw [o3.1.1 201 (by decide) (by decide), hg2, upw_s, e1]
        have l2 : 3 * c + 1 < 48 := by omega
        have hcj := kC_sm (T := T) (n := n) (m := j) hk
        have r2 : ∀ x, x < 2 * s → g3 202 x = g 202 x := fun x hx => by rw [o3.2.2.2.2.2 x hx, hg2, upw_o (by decide), o1.2.2.2.2.2 x hx, ga2]
        obtain ⟨g4, hg4⟩ : ∃ g4, g4 = upw g3 201 (pu (g3 201) (3 * c + 1) (nI (s + A.length))) := ⟨_, rfl⟩
        have h4 : mIn T n k (s + A.length) j 8 g4 := by
          rw [hg4]
          exact mIn_L h3
        have f4 : FR [201, 202] [14, 18, 19, 20, 21, 22, 23, 25] g g4 := by
          rw [hg4]
          exact FR_w rfl f3
        have e4 : g4 201 = pu (pu (g 201) (3 * c) (nI s)) (3 * c + 1) (nI (s + A.length)) := by rw [hg4, upw_s, e3]
        have w2 : g4 202 = g3 202 := by rw [hg4, upw_o (by decide)]
        have n19 := h4.2.1.2.1
        -- behind the when
        have fin : ∀ C j2 g5, whF T n k j = .inr (C, j2) → mOK T n k (s + A.length) C j2 g4 g5 → wp (ev (d + 40)) P mo_aLine 101 [some (.ref 196)] [] (E g5 q) := by
          intro C j2 g5 e2 o5
          obtain ⟨b1, b2, b3, b4, b5⟩ := whF_k hk0 hk u.2.1 e2
          have hl := okR_ls hs u
          have hlA := okR_ce (s := s) (i := i + 1) (by omega) u
          have c1 := cxL_ln (k := k - 1) (a := A)
          have c2 := cxL_ln (k := k - 1) (a := C)
          have h5 := mIn_t h4 o5 (by omega) b2
          have f5 : FR [201, 202] [14, 18, 19, 20, 21, 22, 23, 25] g g5 := FR_t f4 (FR_m rfl rfl o5.1)
          have p13 : g5 196 13 = nI c := by rw [f5.2 13 (by decide)]; exact h13
          have p14 := h5.2.2.1
          have e5 : g5 201 = pu (pu (g 201) (3 * c) (nI s)) (3 * c + 1) (nI (s + A.length)) := (o5.1.1 201 (by decide) (by decide)).trans e4
          have eu2 : ∀ f, lnF T n k (f + 1) i c = if kC T n k j2 = 159 then cw (A, C) (lnF T n k f (j2 + 1) (c + 1)) else .inl (1, j2) := fun f => (eu f).trans ((bw_r e).trans (bw_r e2))
          rw [b_mo_aLine_101]
          simp -implicitDefEqProofs (disch := first | assumption | omega) only [szS_0, szS_i, szS_r, szS_l, x_cons, x_goto, ob_some, kl_i, kl_r, kl_l, kl_n, push_n, push_s, pop_0, pop_i, pop_r, Int.reduceToNat, List.length_cons, List.length_nil, Nat.reduceAdd, Nat.reduceLeDiff, Nat.zero_add, true_and, nI_n0, nat_le, Nat.add_zero, rt_mo_aLine_0, rt_mo_aLine_1, rt_mo_aLine_b, x_al0, x_call, x_getf, x_iadd, x_iastore, x_iceq, x_icne, x_ifne, x_imul, x_iret, x_ldc, x_putf, fd_196_0, fd_196_1, fd_196_2, fd_196_3, fd_196_4, sf_196_4, fd_196_5, sf_196_5, fd_196_6, fd_196_7, fd_196_8, fd_196_9, fd_196_10, fd_196_11, fd_196_12, sf_196_12, fd_196_13, sf_196_13, fd_196_14, sf_196_14, fd_196_15, sf_196_15, fd_196_16, sf_196_16, fd_196_17, sf_196_17, fd_196_18, sf_196_18, fd_196_19, sf_196_19, fd_196_20, sf_196_20, fd_196_21, sf_196_21, fd_196_22, sf_196_22, fd_196_23, sf_196_23, fd_196_24, sf_196_24, fd_196_25, sf_196_25, fd_196_26, sf_196_26, fd_196_27, fd_196_28, fd_196_29, fd_196_30, sf_196_30, fd_196_31, fd_196_32, fd_196_33, fd_196_34, fd_196_35, fd_196_36, fd_196_37, sf_196_37, fd_196_38, fd_196_39, sf_196_39, fd_196_40, sf_196_40, fd_196_41, sf_196_41, fd_196_42, fd_196_43, fd_196_44, p13, p14, nI_mul, nI_add, ld_201, sd_201, ln_201, pu_g]
          obtain ⟨g6, hg6⟩ : ∃ g6, g6 = upw g5 201 (pu (g5 201) (3 * c + 2) (nI (s + A.length + C.length))) := ⟨_, rfl⟩
          have h6 : mIn T n k (s + A.length + C.length) j2 8 g6 := by
            rw [hg6]
            exact mIn_L h5
          have f6 : FR [201, 202] [14, 18, 19, 20, 21, 22, 23, 25] g g6 := by
            rw [hg6]
            exact FR_w rfl f5
          rw [← hg6]
          refine s_mneed (d := d + 29) (by decide) h6 (fun g7 c3 o7 => ?_) fun g7 c3 x7 => ?_
          · have hjn := kC_n (T := T) (n := n) (i := j2) hk (by omega)
            have e7 : g7 201 = pu (pu (pu (g 201) (3 * c) (nI s)) (3 * c + 1) (nI (s + A.length))) (3 * c + 2) (nI (s + A.length + C.length)) := by rw [o7.1.1 201 (by decide) (by decide), hg6, upw_s, e5]
            have w7 : ∀ x, x < 2 * (s + A.length + C.length) → g7 202 x = g5 202 x := fun x hx => by rw [o7.2.2.2.2.2 x hx, hg6, upw_o (by decide)]
            simp -implicitDefEqProofs (disch := first | assumption | omega) only [szS_0, szS_i, szS_r, szS_l, x_cons, x_goto, ob_some, kl_i, kl_r, kl_l, kl_n, push_n, push_s, pop_0, pop_i, pop_r, Int.reduceToNat, List.length_cons, List.length_nil, Nat.reduceAdd, Nat.reduceLeDiff, Nat.zero_add, true_and, nI_n0, nat_le, Nat.add_zero, rt_mo_aLine_0, rt_mo_aLine_1, rt_mo_aLine_b, x_al0, x_call, x_getf, x_iadd, x_iastore, x_iceq, x_icne, x_ifne, x_imul, x_iret, x_ldc, x_putf]
            refine HN A C j j2 g7 (fun f => by rw [eu2, if_pos c3]) e e2 hjn (by omega) ⟨FR_t f6 (FR_m rfl rfl o7.1), o7.2.1, o7.2.2.1, ⟨?_, ?_, ?_⟩, fun x hx => ?_, ?_, ?_, fun x hx => ?_⟩
            · rw [e7, pu_n (by omega), pu_n (by omega), pu_s]
            · rw [e7, pu_n (by omega), pu_s]
            · rw [e7, pu_s]
            · rw [e7, pu_n (by omega), pu_n (by omega), pu_n (by omega)]
            · refine fsR_b (N := s + A.length) (Nat.le_refl _) (fun x hx => ?_) o3.2.2.2.2.1
              rw [w7 x (by omega), o5.2.2.2.2.2 x hx, w2]
            · exact fsR_b (N := s + A.length + C.length) (Nat.le_refl _) w7 o5.2.2.2.2.1
            · rw [w7 x (by omega), o5.2.2.2.2.2 x (by omega), w2]
              exact r2 x hx
          · simp -implicitDefEqProofs (disch := first | assumption | omega) only [szS_0, szS_i, szS_r, szS_l, x_cons, x_goto, ob_some, kl_i, kl_r, kl_l, kl_n, push_n, push_s, pop_0, pop_i, pop_r, Int.reduceToNat, List.length_cons, List.length_nil, Nat.reduceAdd, Nat.reduceLeDiff, Nat.zero_add, true_and, nI_n0, nat_le, Nat.add_zero, rt_mo_aLine_0, rt_mo_aLine_1, rt_mo_aLine_b, x_al0, x_call, x_getf, x_iadd, x_iastore, x_iceq, x_icne, x_ifne, x_imul, x_iret, x_ldc, x_putf]
            exact HX _ _ g7 (fun f => by rw [eu2, if_neg c3]) ⟨FR_m rfl rfl (FR_t f6 (FR_m (l' := [202]) rfl rfl x7.1)), x7.2⟩
        simp -implicitDefEqProofs (disch := first | assumption | omega) only [szS_0, szS_i, szS_r, szS_l, x_cons, x_goto, ob_some, kl_i, kl_r, kl_l, kl_n, push_n, push_s, pop_0, pop_i, pop_r, Int.reduceToNat, List.length_cons, List.length_nil, Nat.reduceAdd, Nat.reduceLeDiff, Nat.zero_add, true_and, nI_n0, nat_le, Nat.add_zero, rt_mo_aLine_0, rt_mo_aLine_1, rt_mo_aLine_b, x_al0, x_call, x_getf, x_iadd, x_iastore, x_iceq, x_icne, x_ifne, x_imul, x_iret, x_ldc, x_putf, n10, ↓reduceIte, b_mo_aLine_63, fd_196_0, fd_196_1, fd_196_2, fd_196_3, fd_196_4, sf_196_4, fd_196_5, sf_196_5, fd_196_6, fd_196_7, fd_196_8, fd_196_9, fd_196_10, fd_196_11, fd_196_12, sf_196_12, fd_196_13, sf_196_13, fd_196_14, sf_196_14, fd_196_15, sf_196_15, fd_196_16, sf_196_16, fd_196_17, sf_196_17, fd_196_18, sf_196_18, fd_196_19, sf_196_19, fd_196_20, sf_196_20, fd_196_21, sf_196_21, fd_196_22, sf_196_22, fd_196_23, sf_196_23, fd_196_24, sf_196_24, fd_196_25, sf_196_25, fd_196_26, sf_196_26, fd_196_27, fd_196_28, fd_196_29, fd_196_30, sf_196_30, fd_196_31, fd_196_32, fd_196_33, fd_196_34, fd_196_35, fd_196_36, fd_196_37, sf_196_37, fd_196_38, fd_196_39, sf_196_39, fd_196_40, sf_196_40, fd_196_41, sf_196_41, fd_196_42, fd_196_43, fd_196_44, m13, m14, nI_mul, nI_add, ld_201, sd_201, ln_201, pu_g]
        rw [← hg4]
        simp -implicitDefEqProofs (disch := first | assumption | omega) only [n19, nI_eqE, fd_196_0, fd_196_1, fd_196_2, fd_196_3, fd_196_4, sf_196_4, fd_196_5, sf_196_5, fd_196_6, fd_196_7, fd_196_8, fd_196_9, fd_196_10, fd_196_11, fd_196_12, sf_196_12, fd_196_13, sf_196_13, fd_196_14, sf_196_14, fd_196_15, sf_196_15, fd_196_16, sf_196_16, fd_196_17, sf_196_17, fd_196_18, sf_196_18, fd_196_19, sf_196_19, fd_196_20, sf_196_20, fd_196_21, sf_196_21, fd_196_22, sf_196_22, fd_196_23, sf_196_23, fd_196_24, sf_196_24, fd_196_25, sf_196_25, fd_196_26, sf_196_26, fd_196_27, fd_196_28, fd_196_29, fd_196_30, sf_196_30, fd_196_31, fd_196_32, fd_196_33, fd_196_34, fd_196_35, fd_196_36, fd_196_37, sf_196_37, fd_196_38, fd_196_39, sf_196_39, fd_196_40, sf_196_40, fd_196_41, sf_196_41, fd_196_42, fd_196_43, fd_196_44]
        by_cases c3 : kC T n k j = 3
        · have ew : whF T n k j = anF T n k (oneF T n k 8) (j + 1) := if_pos c3
          have hjn := kC_n (T := T) (n := n) (i := j) hk (by omega)
          have hA : mFn T n k (d + 40) mo_any 8 (anF T n k (oneF T n k 8)) := s_any (d := d + 29) (s_every (d := d + 28) (s_oneTest hk0 hk 8 d) (oneF_k hk0 hk 8)) (evF_k (oneF_k hk0 hk 8))
          simp only [c3, ↓reduceIte]
          try simp -implicitDefEqProofs (disch := first | assumption | omega) only [szS_0, szS_i, szS_r, szS_l, x_cons, x_goto, ob_some, kl_i, kl_r, kl_l, kl_n, push_n, push_s, pop_0, pop_i, pop_r, Int.reduceToNat, List.length_cons, List.length_nil, Nat.reduceAdd, Nat.reduceLeDiff, Nat.zero_add, true_and, nI_n0, nat_le, Nat.add_zero, rt_mo_aLine_0, rt_mo_aLine_1, rt_mo_aLine_b, x_al0, x_call, x_getf, x_iadd, x_iastore, x_iceq, x_icne, x_ifne, x_imul, x_iret, x_ldc, x_putf]
          refine s_nx (d := d + 30) h4 fun g5 o5 => ?_
          have h5 := mIn_0 h4 o5 hjn
          simp -implicitDefEqProofs (disch := first | assumption | omega) only [szS_0, szS_i, szS_r, szS_l, x_cons, x_goto, ob_some, kl_i, kl_r, kl_l, kl_n, push_n, push_s, pop_0, pop_i, pop_r, Int.reduceToNat, List.length_cons, List.length_nil, Nat.reduceAdd, Nat.reduceLeDiff, Nat.zero_add, true_and, nI_n0, nat_le, Nat.add_zero, rt_mo_aLine_0, rt_mo_aLine_1, rt_mo_aLine_b, x_al0, x_call, x_getf, x_iadd, x_iastore, x_iceq, x_icne, x_ifne, x_imul, x_iret, x_ldc, x_putf]
          refine hA h5 (fun C j2 g6 e2 o6 => ?_) fun f' j2 g6 e2 x6 => ?_
          · simp -implicitDefEqProofs (disch := first | assumption | omega) only [szS_0, szS_i, szS_r, szS_l, x_cons, x_goto, ob_some, kl_i, kl_r, kl_l, kl_n, push_n, push_s, pop_0, pop_i, pop_r, Int.reduceToNat, List.length_cons, List.length_nil, Nat.reduceAdd, Nat.reduceLeDiff, Nat.zero_add, true_and, nI_n0, nat_le, Nat.add_zero, rt_mo_aLine_0, rt_mo_aLine_1, rt_mo_aLine_b, x_al0, x_call, x_getf, x_iadd, x_iastore, x_iceq, x_icne, x_ifne, x_imul, x_iret, x_ldc, x_putf, n10, ↓reduceIte]
            exact fin C j2 g6 (ew.trans e2) (mOK_n o5 o6)
          · simp -implicitDefEqProofs (disch := first | assumption | omega) only [szS_0, szS_i, szS_r, szS_l, x_cons, x_goto, ob_some, kl_i, kl_r, kl_l, kl_n, push_n, push_s, pop_0, pop_i, pop_r, Int.reduceToNat, List.length_cons, List.length_nil, Nat.reduceAdd, Nat.reduceLeDiff, Nat.zero_add, true_and, nI_n0, nat_le, Nat.add_zero, rt_mo_aLine_0, rt_mo_aLine_1, rt_mo_aLine_b, x_al0, x_call, x_getf, x_iadd, x_iastore, x_iceq, x_icne, x_ifne, x_imul, x_iret, x_ldc, x_putf, ↓reduceIte]
            exact HX _ _ g6 (fun f => (eu f).trans ((bw_r e).trans (bw_l (ew.trans e2)))) ⟨FR_m rfl rfl (FR_t f4 (FR_m (l' := [202]) rfl rfl (mX_t o5 x6).1)), x6.2⟩
        · simp only [c3, ↓reduceIte]
          exact fin [] j g4 (if_neg c3) (mOK_r h4)
      · simp -implicitDefEqProofs (disch := first | assumption | omega) only [szS_0, szS_i, szS_r, szS_l, x_cons, x_goto, ob_some, kl_i, kl_r, kl_l, kl_n, push_n, push_s, pop_0, pop_i, pop_r, Int.reduceToNat, List.length_cons, List.length_nil, Nat.reduceAdd, Nat.reduceLeDiff, Nat.zero_add, true_and, nI_n0, nat_le, Nat.add_zero, rt_mo_aLine_0, rt_mo_aLine_1, rt_mo_aLine_b, x_al0, x_call, x_getf, x_iadd, x_iastore, x_iceq, x_icne, x_ifne, x_imul, x_iret, x_ldc, x_putf, ↓reduceIte]
        exact HX _ _ g3 (fun f => (eu f).trans (bw_l e)) ⟨FR_m rfl rfl (FR_t f2 (FR_m (l' := [202]) rfl rfl x3.1)), x3.2⟩
  · simp only [c7, ↓reduceIte]
    try simp -implicitDefEqProofs (disch := first | assumption | omega) only [szS_0, szS_i, szS_r, szS_l, x_cons, x_goto, ob_some, kl_i, kl_r, kl_l, kl_n, push_n, push_s, pop_0, pop_i, pop_r, Int.reduceToNat, List.length_cons, List.length_nil, Nat.reduceAdd, Nat.reduceLeDiff, Nat.zero_add, true_and, nI_n0, nat_le, Nat.add_zero, rt_mo_aLine_0, rt_mo_aLine_1, rt_mo_aLine_b, x_al0, x_call, x_getf, x_iadd, x_iastore, x_iceq, x_icne, x_ifne, x_imul, x_iret, x_ldc, x_putf]
    refine s_mbad (d := d + 39) hT fun g1 x1 => ?_
    simp -implicitDefEqProofs (disch := first | assumption | omega) only [szS_0, szS_i, szS_r, szS_l, x_cons, x_goto, ob_some, kl_i, kl_r, kl_l, kl_n, push_n, push_s, pop_0, pop_i, pop_r, Int.reduceToNat, List.length_cons, List.length_nil, Nat.reduceAdd, Nat.reduceLeDiff, Nat.zero_add, true_and, nI_n0, nat_le, Nat.add_zero, rt_mo_aLine_0, rt_mo_aLine_1, rt_mo_aLine_b, x_al0, x_call, x_getf, x_iadd, x_iastore, x_iceq, x_icne, x_ifne, x_imul, x_iret, x_ldc, x_putf]
    exact HX _ _ g1 (fun f => by rw [eu, if_neg h0, if_pos c7]) ⟨FR_m rfl rfl x1.1, x1.2⟩
/-- all its lines -/
def mLs (T : Nat → Nat) (n s c : Nat) (ls : LW) (g g' : Nat → Nat → Int32) : Prop := FR [201, 202] [13, 14, 18, 19, 20, 21, 22, 23, 25] g g' ∧ g' 196 13 = nI (c + ls.length) ∧ g' 196 14 = nI (s + lnT ls) ∧ lwR (g' 201) (g' 202) c s ls ∧ (∀ x, x < 3 * c → g' 201 x = g 201 x) ∧ ∀ x, x < 2 * s → g' 202 x = g 202 x
theorem rl_lp (hk0 : 1 ≤ k) (hk : k < 3) (hn : n ≤ 400) : ∀ (f i s c : Nat) (g : Nat → Nat → Int32), n + 1 ≤ i + f → TT T n k g → mT T n k i g → g 196 13 = nI c → g 196 14 = nI s → s ≤ i → i ≤ n → c ≤ 16 →
    (∀ ls g', lnF T n k f i c = .inr ls → mLs T n s c ls g g' → P (some (.int (nI 1))) (E g' q)) → (∀ f' j g', lnF T n k f i c = .inl (f', j) → mLX T n f' j g g' → P (some (.int (nI 0))) (E g' q)) →
    wp (ev (d + 41)) P mo_readsLaw 12 [some (.ref 196), some (.int (nI 1))] [] (E g q) := by
  intro f
  induction f with
  | zero =>
    intro i s c g hf _ _ _ _ _ hi
    omega
  | succ f ih =>
    intro i s c g hf hM hT h13 h14 hs hi hc HN HX
    have h19 := hT.2.1
    have hcc := kC_sm (T := T) (n := n) (m := i) hk
    have n10 : (nI 1 = nI 0) = False := eq_false (by decide)
    rw [b_mo_readsLaw_12]
    simp -implicitDefEqProofs (disch := first | assumption | omega) only [szS_0, szS_i, szS_r, szS_l, x_cons, x_goto, ob_some, kl_i, kl_r, kl_l, kl_n, push_n, push_s, pop_0, pop_i, pop_r, Int.reduceToNat, List.length_cons, List.length_nil, Nat.reduceAdd, Nat.reduceLeDiff, Nat.zero_add, true_and, nI_n0, nat_le, Nat.add_zero, rt_mo_readsLaw_0, rt_mo_readsLaw_1, rt_mo_readsLaw_b, x_al0, x_call, x_dupi, x_dupr, x_getf, x_goto, x_iadd, x_ifeq, x_il1, x_iret, x_is1, x_ldc, x_putf, n10, ↓reduceIte, fd_196_0, fd_196_1, fd_196_2, fd_196_3, fd_196_4, sf_196_4, fd_196_5, sf_196_5, fd_196_6, fd_196_7, fd_196_8, fd_196_9, fd_196_10, fd_196_11, fd_196_12, sf_196_12, fd_196_13, sf_196_13, fd_196_14, sf_196_14, fd_196_15, sf_196_15, fd_196_16, sf_196_16, fd_196_17, sf_196_17, fd_196_18, sf_196_18, fd_196_19, sf_196_19, fd_196_20, sf_196_20, fd_196_21, sf_196_21, fd_196_22, sf_196_22, fd_196_23, sf_196_23, fd_196_24, sf_196_24, fd_196_25, sf_196_25, fd_196_26, sf_196_26, fd_196_27, fd_196_28, fd_196_29, fd_196_30, sf_196_30, fd_196_31, fd_196_32, fd_196_33, fd_196_34, fd_196_35, fd_196_36, fd_196_37, sf_196_37, fd_196_38, fd_196_39, sf_196_39, fd_196_40, sf_196_40, fd_196_41, sf_196_41, fd_196_42, fd_196_43, fd_196_44, h19, nI_eqE]
    by_cases h0 : kC T n k i = 0
    · simp only [h0, ↓reduceIte]
      try simp -implicitDefEqProofs (disch := first | assumption | omega) only [b_mo_readsLaw_49, szS_0, szS_i, szS_r, szS_l, x_cons, x_goto, ob_some, kl_i, kl_r, kl_l, kl_n, push_n, push_s, pop_0, pop_i, pop_r, Int.reduceToNat, List.length_cons, List.length_nil, Nat.reduceAdd, Nat.reduceLeDiff, Nat.zero_add, true_and, nI_n0, nat_le, Nat.add_zero, rt_mo_readsLaw_0, rt_mo_readsLaw_1, rt_mo_readsLaw_b, x_al0, x_call, x_dupi, x_dupr, x_getf, x_goto, x_iadd, x_ifeq, x_il1, x_iret, x_is1, x_ldc, x_putf]
      exact HN [] g (if_pos h0) ⟨FR_r, h13, h14, trivial, fun _ _ => rfl, fun _ _ => rfl⟩
    · simp only [h0, ↓reduceIte]
      try simp -implicitDefEqProofs (disch := first | assumption | omega) only [szS_0, szS_i, szS_r, szS_l, x_cons, x_goto, ob_some, kl_i, kl_r, kl_l, kl_n, push_n, push_s, pop_0, pop_i, pop_r, Int.reduceToNat, List.length_cons, List.length_nil, Nat.reduceAdd, Nat.reduceLeDiff, Nat.zero_add, true_and, nI_n0, nat_le, Nat.add_zero, rt_mo_readsLaw_0, rt_mo_readsLaw_1, rt_mo_readsLaw_b, x_al0, x_call, x_dupi, x_dupr, x_getf, x_goto, x_iadd, x_ifeq, x_il1, x_iret, x_is1, x_ldc, x_putf]
      refine s_aLine (d := d) hk0 hM hT h13 h14 hs hi hc h0 (fun A C j j2 g1 eu e e2 hj hc16 l1 => ?_) fun f' j g1 eu x1 => ?_
      · obtain ⟨l1, l2, l3, ⟨l4, l5, l6⟩, l7, l8, l9, l10⟩ := l1
        have u := smF_k hk0 hk e
        obtain ⟨b1, b2, b3, b4, b5⟩ := whF_k hk0 hk u.2.1 e2
        have hlA := okR_ce (s := s) (i := i + 1) (by omega) u
        have c1 := cxL_ln (k := k - 1) (a := A)
        have c2 := cxL_ln (k := k - 1) (a := C)
        have k13 : g1 196 13 = nI c := (l1.2 13 (by decide)).trans h13
        simp -implicitDefEqProofs (disch := first | assumption | omega) only [szS_0, szS_i, szS_r, szS_l, x_cons, x_goto, ob_some, kl_i, kl_r, kl_l, kl_n, push_n, push_s, pop_0, pop_i, pop_r, Int.reduceToNat, List.length_cons, List.length_nil, Nat.reduceAdd, Nat.reduceLeDiff, Nat.zero_add, true_and, nI_n0, nat_le, Nat.add_zero, rt_mo_readsLaw_0, rt_mo_readsLaw_1, rt_mo_readsLaw_b, x_al0, x_call, x_dupi, x_dupr, x_getf, x_goto, x_iadd, x_ifeq, x_il1, x_iret, x_is1, x_ldc, x_putf, fd_196_0, fd_196_1, fd_196_2, fd_196_3, fd_196_4, sf_196_4, fd_196_5, sf_196_5, fd_196_6, fd_196_7, fd_196_8, fd_196_9, fd_196_10, fd_196_11, fd_196_12, sf_196_12, fd_196_13, sf_196_13, fd_196_14, sf_196_14, fd_196_15, sf_196_15, fd_196_16, sf_196_16, fd_196_17, sf_196_17, fd_196_18, sf_196_18, fd_196_19, sf_196_19, fd_196_20, sf_196_20, fd_196_21, sf_196_21, fd_196_22, sf_196_22, fd_196_23, sf_196_23, fd_196_24, sf_196_24, fd_196_25, sf_196_25, fd_196_26, sf_196_26, fd_196_27, fd_196_28, fd_196_29, fd_196_30, sf_196_30, fd_196_31, fd_196_32, fd_196_33, fd_196_34, fd_196_35, fd_196_36, fd_196_37, sf_196_37, fd_196_38, fd_196_39, sf_196_39, fd_196_40, sf_196_40, fd_196_41, sf_196_41, fd_196_42, fd_196_43, fd_196_44, k13, n10, ↓reduceIte, b_mo_readsLaw_42, nI_add, pu_g]
        have o1 : ∀ b, b ≠ 196 → upw g1 196 (pu (g1 196) 13 (nI (c + 1))) b = g1 b := fun b hb => upw_o hb
        have fr1 : FR [201, 202] [13, 14, 18, 19, 20, 21, 22, 23, 25] g (upw g1 196 (pu (g1 196) 13 (nI (c + 1)))) := FR_p rfl (FR_m rfl rfl l1) (FR_m rfl rfl l1)
        refine ih (j2 + 1) _ (c + 1) _ (by have := u.1; omega) (TT_f hM ((o1 204 (by decide)).trans (l1.1 204 (by decide) (by decide))) (by rw [upw_s, pu_n (by decide)]; exact l1.2 17 (by decide)) (by rw [upw_s, pu_n (by decide)]; exact l1.2 12 (by decide))) (mT_f l2 (by rw [upw_s, pu_n (by decide)]) (by rw [upw_s, pu_n (by decide)]) (by rw [upw_s, pu_n (by decide)]) (by rw [upw_s, pu_n (by decide)])) (by rw [upw_s, pu_s]) (by rw [upw_s, pu_n (by decide)]; exact l3) (by omega) hj (by omega) (fun ls g2 e3 m2 => ?_) fun f' j' g2 e3 x2 => ?_
        · obtain ⟨m1, m3, m4, m5, m6, m7⟩ := m2
          have m6' : ∀ x, x < 3 * (c + 1) → g2 201 x = g1 201 x := fun x hx => by rw [m6 x hx, o1 201 (by decide)]
          have m7' : ∀ x, x < 2 * (s + A.length + C.length) → g2 202 x = g1 202 x := fun x hx => by rw [m7 x hx, o1 202 (by decide)]
          refine HN _ g2 ((eu f).trans (cw_r e3)) ⟨FR_t fr1 m1, by rw [m3, List.length_cons]; congr 1; omega, ?_, ⟨⟨by rw [m6' _ (by omega)]; exact l4, by rw [m6' _ (by omega)]; exact l5, by rw [m6' _ (by omega)]; exact l6, fsR_b (N := s + A.length) (Nat.le_refl _) (fun x hx => m7' x (by omega)) l8, fsR_b (N := s + A.length + C.length) (Nat.le_refl _) m7' l9⟩, m5⟩, fun x hx => by rw [m6' x (by omega)]; exact l7 x hx, fun x hx => by rw [m7' x (by omega)]; exact l10 x hx⟩
          rw [m4]
          show _ = nI (s + (A.length + C.length + lnT ls))
          congr 1
          omega
        · exact HX _ _ g2 ((eu f).trans (cw_l e3)) ⟨FR_t fr1 x2.1, x2.2⟩
      · obtain ⟨x1, x2, x3⟩ := x1
        obtain ⟨v, hv⟩ : ∃ v, g1 196 13 = v := ⟨_, rfl⟩
        simp -implicitDefEqProofs (disch := first | assumption | omega) only [szS_0, szS_i, szS_r, szS_l, x_cons, x_goto, ob_some, kl_i, kl_r, kl_l, kl_n, push_n, push_s, pop_0, pop_i, pop_r, Int.reduceToNat, List.length_cons, List.length_nil, Nat.reduceAdd, Nat.reduceLeDiff, Nat.zero_add, true_and, nI_n0, nat_le, Nat.add_zero, rt_mo_readsLaw_0, rt_mo_readsLaw_1, rt_mo_readsLaw_b, x_al0, x_call, x_dupi, x_dupr, x_getf, x_goto, x_iadd, x_ifeq, x_il1, x_iret, x_is1, x_ldc, x_putf, fd_196_0, fd_196_1, fd_196_2, fd_196_3, fd_196_4, sf_196_4, fd_196_5, sf_196_5, fd_196_6, fd_196_7, fd_196_8, fd_196_9, fd_196_10, fd_196_11, fd_196_12, sf_196_12, fd_196_13, sf_196_13, fd_196_14, sf_196_14, fd_196_15, sf_196_15, fd_196_16, sf_196_16, fd_196_17, sf_196_17, fd_196_18, sf_196_18, fd_196_19, sf_196_19, fd_196_20, sf_196_20, fd_196_21, sf_196_21, fd_196_22, sf_196_22, fd_196_23, sf_196_23, fd_196_24, sf_196_24, fd_196_25, sf_196_25, fd_196_26, sf_196_26, fd_196_27, fd_196_28, fd_196_29, fd_196_30, sf_196_30, fd_196_31, fd_196_32, fd_196_33, fd_196_34, fd_196_35, fd_196_36, fd_196_37, sf_196_37, fd_196_38, fd_196_39, sf_196_39, fd_196_40, sf_196_40, fd_196_41, sf_196_41, fd_196_42, fd_196_43, fd_196_44, ↓reduceIte, b_mo_readsLaw_41, b_mo_readsLaw_42, pu_g, b_mo_readsLaw_12]
        simp -implicitDefEqProofs (disch := first | assumption | omega) only [b_mo_readsLaw_49, szS_0, szS_i, szS_r, szS_l, x_cons, x_goto, ob_some, kl_i, kl_r, kl_l, kl_n, push_n, push_s, pop_0, pop_i, pop_r, Int.reduceToNat, List.length_cons, List.length_nil, Nat.reduceAdd, Nat.reduceLeDiff, Nat.zero_add, true_and, nI_n0, nat_le, Nat.add_zero, rt_mo_readsLaw_0, rt_mo_readsLaw_1, rt_mo_readsLaw_b, x_al0, x_call, x_dupi, x_dupr, x_getf, x_goto, x_iadd, x_ifeq, x_il1, x_iret, x_is1, x_ldc, x_putf]
        exact HX _ _ _ (eu f) ⟨FR_p rfl x1 x1, by rw [upw_s, pu_n (by decide)]; exact x2, by rw [upw_s, pu_n (by decide)]; exact x3⟩
theorem s_readsLaw (hk0 : 1 ≤ k) (hM : TT T n k g) (hT : mT T n k 0 g) (HN : ∀ ls g', lnF T n k 401 0 0 = .inr ls → mLs T n 0 0 ls g g' → P (some (.int (nI 1))) (E g' q)) (HX : ∀ f' j g', lnF T n k 401 0 0 = .inl (f', j) → mLX T n f' j g g' → P (some (.int (nI 0))) (E g' q)) : callC (ev (d + 42)) mo_readsLaw [.ref 196] (E g q) P := by
  refine in_mo_readsLaw rfl ?_
  have hn := hM.2.1
  rw [b_mo_readsLaw_0]
  simp -implicitDefEqProofs (disch := first | assumption | omega) only [szS_0, szS_i, szS_r, szS_l, x_cons, x_goto, ob_some, kl_i, kl_r, kl_l, kl_n, push_n, push_s, pop_0, pop_i, pop_r, Int.reduceToNat, List.length_cons, List.length_nil, Nat.reduceAdd, Nat.reduceLeDiff, Nat.zero_add, true_and, nI_n0, nat_le, Nat.add_zero, rt_mo_readsLaw_0, rt_mo_readsLaw_1, rt_mo_readsLaw_b, x_al0, x_call, x_dupi, x_dupr, x_getf, x_goto, x_iadd, x_ifeq, x_il1, x_iret, x_is1, x_ldc, x_putf, fd_196_0, fd_196_1, fd_196_2, fd_196_3, fd_196_4, sf_196_4, fd_196_5, sf_196_5, fd_196_6, fd_196_7, fd_196_8, fd_196_9, fd_196_10, fd_196_11, fd_196_12, sf_196_12, fd_196_13, sf_196_13, fd_196_14, sf_196_14, fd_196_15, sf_196_15, fd_196_16, sf_196_16, fd_196_17, sf_196_17, fd_196_18, sf_196_18, fd_196_19, sf_196_19, fd_196_20, sf_196_20, fd_196_21, sf_196_21, fd_196_22, sf_196_22, fd_196_23, sf_196_23, fd_196_24, sf_196_24, fd_196_25, sf_196_25, fd_196_26, sf_196_26, fd_196_27, fd_196_28, fd_196_29, fd_196_30, sf_196_30, fd_196_31, fd_196_32, fd_196_33, fd_196_34, fd_196_35, fd_196_36, fd_196_37, sf_196_37, fd_196_38, fd_196_39, sf_196_39, fd_196_40, sf_196_40, fd_196_41, sf_196_41, fd_196_42, fd_196_43, fd_196_44, pu_g, pu_w, upw_s, upw_w]
  obtain ⟨g1, hg1⟩ : ∃ g1, g1 = upw g 196 (pu (pu (g 196) 13 (nI 0)) 14 (nI 0)) := ⟨_, rfl⟩
  have f1 : FR [201, 202] [13, 14, 18, 19, 20, 21, 22, 23, 25] g g1 := by
    rw [hg1]
    refine ⟨fun a h1 h2 => upw_o h1, fun x hx => ?_⟩
    rw [upw_s, pu_n (fun e => hx (by rw [e]; decide)), pu_n (fun e => hx (by rw [e]; decide))]
  have e1 : ∀ b, b ≠ 196 → g1 b = g b := fun b hb => by rw [hg1, upw_o hb]
  have e2 : ∀ x, x ≠ 13 → x ≠ 14 → g1 196 x = g 196 x := fun x x1 x2 => by rw [hg1, upw_s, pu_n x2, pu_n x1]
  rw [← hg1]
  exact rl_lp hk0 hM.2.2.2.2 hn 401 0 0 0 g1 (by omega) (TT_f hM (e1 204 (by decide)) (f1.2 17 (by decide)) (f1.2 12 (by decide))) (mT_f hT (e2 18 (by decide) (by decide)) (e2 19 (by decide) (by decide)) (e2 20 (by decide) (by decide)) (e2 21 (by decide) (by decide))) (by rw [hg1, upw_s, pu_n (by decide), pu_s]) (by rw [hg1, upw_s, pu_s]) (Nat.le_refl 0) (Nat.zero_le _) (Nat.zero_le _) (fun ls g' e m => HN ls g' e ⟨FR_t f1 m.1, m.2.1, m.2.2.1, m.2.2.2.1, fun x hx => absurd hx (Nat.not_lt_zero x), fun x hx => absurd hx (Nat.not_lt_zero x)⟩) fun f' j g' e x => HX f' j g' e ⟨FR_t f1 x.1, x.2⟩
end ML
