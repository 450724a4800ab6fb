/-! the reference reads sums and conditions -/
def fsR (r : Nat → Int32) : Nat → List (Nat × Nat) → Prop
  | _, [] => True
  | i, o :: l => r (2 * i) = nI o.1 ∧ (o.1 = 0 ∨ o.1 = 26 → r (2 * i + 1) = nI o.2) ∧ fsR r (i + 1) l
theorem fsR_b {r r' : Nat → Int32} {N : Nat} : ∀ {l : List (Nat × Nat)} {i : Nat}, i + l.length ≤ N → (∀ x, x < 2 * N → r' x = r x) → fsR r i l → fsR r' i l
  | [], _, _, _, _ => trivial
  | o :: l, i, hi, e, h => by
    rw [List.length_cons] at hi
    exact ⟨by rw [e _ (by omega)]; exact h.1, fun h1 => by rw [e _ (by omega)]; exact h.2.1 h1, fsR_b (by omega) e h.2.2⟩
theorem fsR_ap {r : Nat → Int32} : ∀ {l : List (Nat × Nat)} {i : Nat} {l' : List (Nat × Nat)}, fsR r i l → fsR r (i + l.length) l' → fsR r i (l ++ l')
  | [], i, l', _, h => h
  | o :: l, i, l', h, h' => ⟨h.1, h.2.1, fsR_ap (l := l) h.2.2 (by rw [List.length_cons, show i + (l.length + 1) = i + 1 + l.length by omega] at h'; exact h')⟩
/-- the reference stands at a token -/
def mT (T : Nat → Nat) (n k i : Nat) (g : Nat → Nat → Int32) : Prop := g 196 18 = nI (pz T n (i + 1)) ∧ g 196 19 = nI (kC T n k i) ∧ g 196 20 = nI (kB T n i) ∧ (kC T n k i = 2 → g 196 21 = nI (kN T n i))
theorem mT_f {T : Nat → Nat} {n k i : Nat} {g g' : Nat → Nat → Int32} (h : mT T n k i g) (e8 : g' 196 18 = g 196 18) (e9 : g' 196 19 = g 196 19) (e0 : g' 196 20 = g 196 20) (e1 : g' 196 21 = g 196 21) : mT T n k i g' := by
  unfold mT at *
  rw [e8, e9, e0, e1]
  exact h
def mOK (T : Nat → Nat) (n k s : Nat) (l : List (Nat × Nat)) (j : Nat) (g g' : Nat → Nat → Int32) : Prop := FR [202] [14, 18, 19, 20, 21, 22, 23, 25] g g' ∧ mT T n k j g' ∧ g' 196 14 = nI (s + l.length) ∧ g' 196 25 = g 196 25 ∧ fsR (g' 202) s l ∧ ∀ x, x < 2 * s → g' 202 x = g 202 x
def mX (T : Nat → Nat) (n f j : Nat) (g g' : Nat → Nat → Int32) : Prop := FR [202] [14, 18, 19, 20, 21, 22, 23, 25] g g' ∧ g' 196 22 = nI f ∧ g' 196 23 = nI (kB T n j)
theorem mOK_t {T : Nat → Nat} {n k s j j' : Nat} {l l' : List (Nat × Nat)} {g g1 g2 : Nat → Nat → Int32} (h : mOK T n k s l j g g1) (h' : mOK T n k (s + l.length) l' j' g1 g2) : mOK T n k s (l ++ l') j' g g2 := by
  obtain ⟨a1, a2, a3, a4, a5, a6⟩ := h
  obtain ⟨b1, b2, b3, b4, b5, b6⟩ := h'
  exact ⟨FR_t a1 b1, b2, by rw [b3, List.length_append, Nat.add_assoc], b4.trans a4, fsR_ap (fsR_b (Nat.le_refl _) b6 a5) b5, fun x hx => (b6 x (by omega)).trans (a6 x hx)⟩
theorem mX_t {T : Nat → Nat} {n k s j f j' : Nat} {l : List (Nat × Nat)} {g g1 g2 : Nat → Nat → Int32} (h : mOK T n k s l j g g1) (h' : mX T n f j' g1 g2) : mX T n f j' g g2 := ⟨FR_t h.1 h'.1, h'.2⟩
theorem mOK_n {T : Nat → Nat} {n k s j j' : Nat} {l' : List (Nat × Nat)} {g g1 g2 : Nat → Nat → Int32} (h : mOK T n k s [] j g g1) (h' : mOK T n k s l' j' g1 g2) : mOK T n k s l' j' g g2 := mOK_t h h'
theorem mOK_3 {T : Nat → Nat} {n k s j j1 j' : Nat} {l l' : List (Nat × Nat)} {o : Nat × Nat} {g g1 g2 g3 : Nat → Nat → Int32} (h : mOK T n k s l j g g1) (h1 : mOK T n k (s + l.length) [o] j1 g1 g2) (h2 : mOK T n k (s + l.length + 1) l' j' g2 g3) : mOK T n k s (l ++ [o] ++ l') j' g g3 := by
  rw [List.append_assoc]
  exact mOK_t h (mOK_t h1 h2)
/-- what must hold where a part begins: r how many may still be opened -/
def mIn (T : Nat → Nat) (n k s i r : Nat) (g : Nat → Nat → Int32) : Prop := TT T n k g ∧ mT T n k i g ∧ g 196 14 = nI s ∧ s ≤ i ∧ i ≤ n ∧ g 196 25 = nI (8 - r) ∧ r ≤ 8
theorem mIn_k {T : Nat → Nat} {n k s i r : Nat} {g : Nat → Nat → Int32} (h : mIn T n k s i r g) : k < 3 := h.1.2.2.2.2
theorem mIn_n {T : Nat → Nat} {n k s i r : Nat} {g : Nat → Nat → Int32} (h : mIn T n k s i r g) : n ≤ 400 := h.1.2.1
theorem mIn_t {T : Nat → Nat} {n k s i r j : Nat} {l : List (Nat × Nat)} {g g' : Nat → Nat → Int32} (h : mIn T n k s i r g) (h' : mOK T n k s l j g g') (hl : s + l.length ≤ j) (hj : j ≤ n) : mIn T n k (s + l.length) j r g' :=
  ⟨TT_f h.1 (h'.1.1 204 (by decide) (by decide)) (h'.1.2 17 (by decide)) (h'.1.2 12 (by decide)), h'.2.1, h'.2.2.1, hl, hj, h'.2.2.2.1.trans h.2.2.2.2.2.1, h.2.2.2.2.2.2⟩
theorem mIn_0 {T : Nat → Nat} {n k s i r j : Nat} {g g' : Nat → Nat → Int32} (h : mIn T n k s i r g) (h' : mOK T n k s [] (i + j) g g') (hj : i + j ≤ n) : mIn T n k s (i + j) r g' := mIn_t h h' (by have := h.2.2.2.1; show s + 0 ≤ i + j; omega) hj
theorem mIn_1 {T : Nat → Nat} {n k s i r : Nat} {o : Nat × Nat} {g g' : Nat → Nat → Int32} (h : mIn T n k s i r g) (h' : mOK T n k s [o] i g g') (hl : s + 1 ≤ i) : mIn T n k (s + 1) i r g' := mIn_t h h' hl h.2.2.2.2.1
theorem mOK_r {T : Nat → Nat} {n k s i r : Nat} {g : Nat → Nat → Int32} (h : mIn T n k s i r g) : mOK T n k s [] i g g := ⟨FR_r, h.2.1, h.2.2.1, rfl, trivial, fun _ _ => rfl⟩
theorem okR_le {n k s D i j : Nat} {t : Bool} {l : List (Nat × Nat)} (hs : s ≤ i) (u : okR n k t D i l j) : s + l.length ≤ j := by
  have h1 := u.2.2.1
  have h2 := cxL_ln (k := k - 1) (a := l)
  omega
theorem okR_ls {n k s D i j : Nat} {t : Bool} {l : List (Nat × Nat)} (hs : s ≤ i) (u : okR n k t D (i + 1) l j) : s + l.length ≤ j := okR_le (by omega) u
theorem okR_l1 {n k s D i j : Nat} {t : Bool} {l : List (Nat × Nat)} (hs : s ≤ i) (u : okR n k t D (i + 1) l j) : s + l.length + 1 ≤ j := by
  have h1 := u.2.2.1
  have h2 := cxL_ln (k := k - 1) (a := l)
  omega
def mFn (T : Nat → Nat) (n k d m r : Nat) (F : Nat → Rs) : Prop := ∀ {g : Nat → Nat → Int32} {q : Nat → Nat → Int64} {P : QT} {s i : Nat}, mIn T n k s i r g →
  (∀ l j g', F i = .inr (l, j) → mOK T n k s l j g g' → P (some (.int (nI 1))) (E g' q)) → (∀ f j g', F i = .inl (f, j) → mX T n f j g g' → P (some (.int (nI 0))) (E g' q)) → callC (ev d) m [.ref 196] (E g q) P
section MG
variable {d : Nat} {g : Nat → Nat → Int32} {q : Nat → Nat → Int64} {P : QT} {T : Nat → Nat} {n k s i r : Nat}
theorem s_nx (h : mIn T n k s i r g) (H : ∀ g', mOK T n k s [] (i + 1) g g' → P none (E g' q)) : callC (ev (d + 10)) mo_next0 [.ref 196] (E g q) P :=
  s_next0 h.1 (pz_l (i + 1)) h.2.1.1 fun g' f e8 e9 e0 e1 => H g' ⟨FR_m rfl rfl f, ⟨e8, e9, e0, e1⟩, (f.2 14 (by decide)).trans h.2.2.1, f.2 25 (by decide), trivial, fun x _ => by rw [f.1 202 (by decide) (by decide)]⟩
theorem s_nx0 (hM : TT T n k g) (hT : mT T n k i g) (h14 : g 196 14 = nI s) (H : ∀ g', mOK T n k s [] (i + 1) g g' → P none (E g' q)) : callC (ev (d + 10)) mo_next0 [.ref 196] (E g q) P :=
  s_next0 hM (pz_l (i + 1)) hT.1 fun g' f e8 e9 e0 e1 => H g' ⟨FR_m rfl rfl f, ⟨e8, e9, e0, e1⟩, (f.2 14 (by decide)).trans h14, f.2 25 (by decide), trivial, fun x _ => by rw [f.1 202 (by decide) (by decide)]⟩
theorem TT_o (hM : TT T n k g) {l : List (Nat × Nat)} {j : Nat} {g' : Nat → Nat → Int32} (h : mOK T n k s l j g g') : TT T n k g' := TT_f hM (h.1.1 204 (by decide) (by decide)) (h.1.2 17 (by decide)) (h.1.2 12 (by decide))
theorem s_mbad {f : Nat} (hT : mT T n k i g) (H : ∀ g', mX T n f i g g' → P (some (.int (nI 0))) (E g' q)) : callC (ev (d + 1)) mo_bad [.ref 196, .int (nI f)] (E g q) P := by
  refine in_mo_bad rfl ?_
  have h20 := hT.2.2.1
  rw [b_mo_bad_0]
  simp -implicitDefEqProofs (disch := first | assumption | omega) only [szS_0, szS_i, szS_r, szS_l, x_cons, x_goto, ob_some, kl_i, kl_r, kl_l, kl_n, push_n, push_s, pop_0, pop_i, pop_r, Int.reduceToNat, List.length_cons, List.length_nil, Nat.reduceAdd, Nat.reduceLeDiff, Nat.zero_add, true_and, nI_n0, nat_le, Nat.add_zero, rt_mo_bad_0, rt_mo_bad_1, rt_mo_bad_b, x_al0, x_getf, x_il1, x_iret, x_ldc, x_putf, fd_196_0, fd_196_1, fd_196_2, fd_196_3, fd_196_4, sf_196_4, fd_196_5, sf_196_5, fd_196_6, fd_196_7, fd_196_8, fd_196_9, fd_196_10, fd_196_11, fd_196_12, sf_196_12, fd_196_13, sf_196_13, fd_196_14, sf_196_14, fd_196_15, sf_196_15, fd_196_16, sf_196_16, fd_196_17, sf_196_17, fd_196_18, sf_196_18, fd_196_19, sf_196_19, fd_196_20, sf_196_20, fd_196_21, sf_196_21, fd_196_22, sf_196_22, fd_196_23, sf_196_23, fd_196_24, sf_196_24, fd_196_25, sf_196_25, fd_196_26, sf_196_26, fd_196_27, fd_196_28, fd_196_29, fd_196_30, sf_196_30, fd_196_31, fd_196_32, fd_196_33, fd_196_34, fd_196_35, fd_196_36, fd_196_37, sf_196_37, fd_196_38, fd_196_39, sf_196_39, fd_196_40, sf_196_40, fd_196_41, sf_196_41, fd_196_42, fd_196_43, fd_196_44, pu_g, upw_s, pu_n, h20, pu_w, upw_w]
  refine H _ ⟨⟨fun a h1 h2 => upw_o h1, fun x hx => ?_⟩, ?_, ?_⟩
  · rw [upw_s, pu_n (fun e => hx (by rw [e]; decide)), pu_n (fun e => hx (by rw [e]; decide))]
  · rw [upw_s, pu_n (by decide), pu_s]
  · rw [upw_s, pu_s]
theorem s_lay (h : mIn T n k s i r g) (hs : s < 400) {o : Nat × Nat} {v : Int32} (hv : o.1 = 0 ∨ o.1 = 26 → v = nI o.2) (H : ∀ g', mOK T n k s [o] i g g' → P none (E g' q)) : callC (ev (d + 1)) mo_lay [.ref 196, .int (nI o.1), .int v] (E g q) P := by
  refine in_mo_lay rfl ?_
  have h14 := h.2.2.1
  have l1 : 2 * s < 820 := by omega
  have l2 : 2 * s + 1 < 820 := by omega
  rw [b_mo_lay_0]
  simp -implicitDefEqProofs (disch := first | assumption | omega) only [szS_0, szS_i, szS_r, szS_l, x_cons, x_goto, ob_some, kl_i, kl_r, kl_l, kl_n, push_n, push_s, pop_0, pop_i, pop_r, Int.reduceToNat, List.length_cons, List.length_nil, Nat.reduceAdd, Nat.reduceLeDiff, Nat.zero_add, true_and, nI_n0, nat_le, Nat.add_zero, rt_mo_lay, x_al0, x_dupi, x_dupr, x_getf, x_iadd, x_iastore, x_il1, x_il2, x_imul, x_ldc, x_putf, x_vret, fd_196_0, fd_196_1, fd_196_2, fd_196_3, fd_196_4, sf_196_4, fd_196_5, sf_196_5, fd_196_6, fd_196_7, fd_196_8, fd_196_9, fd_196_10, fd_196_11, fd_196_12, sf_196_12, fd_196_13, sf_196_13, fd_196_14, sf_196_14, fd_196_15, sf_196_15, fd_196_16, sf_196_16, fd_196_17, sf_196_17, fd_196_18, sf_196_18, fd_196_19, sf_196_19, fd_196_20, sf_196_20, fd_196_21, sf_196_21, fd_196_22, sf_196_22, fd_196_23, sf_196_23, fd_196_24, sf_196_24, fd_196_25, sf_196_25, fd_196_26, sf_196_26, fd_196_27, fd_196_28, fd_196_29, fd_196_30, sf_196_30, fd_196_31, fd_196_32, fd_196_33, fd_196_34, fd_196_35, fd_196_36, fd_196_37, sf_196_37, fd_196_38, fd_196_39, sf_196_39, fd_196_40, sf_196_40, fd_196_41, sf_196_41, fd_196_42, fd_196_43, fd_196_44, h14, nI_mul, ld_202, sd_202, ln_202, pu_g, upw_o, nI_add, pu_w, upw_s, upw_w]
  have o1 : ∀ b, b ≠ 196 → b ≠ 202 → upw (upw g 202 (pu (pu (g 202) (2 * s) (nI o.1)) (2 * s + 1) v)) 196 (pu (g 196) 14 (nI (s + 1))) b = g b := fun b b1 b2 => by rw [upw_o b1, upw_o b2]
  refine H _ ⟨⟨fun a h1 h2 => o1 a h1 (fun e => h2 (by rw [e]; decide)), fun x hx => ?_⟩, mT_f h.2.1 ?_ ?_ ?_ ?_, ?_, ?_, ⟨?_, fun h1 => ?_, trivial⟩, fun x hx => ?_⟩
  · rw [upw_s, pu_n (fun e => hx (by rw [e]; decide))]
  · rw [upw_s, pu_n (by decide)]
  · rw [upw_s, pu_n (by decide)]
  · rw [upw_s, pu_n (by decide)]
  · rw [upw_s, pu_n (by decide)]
  · rw [upw_s, pu_s]
    rfl
  · rw [upw_s, pu_n (by decide)]
  · rw [upw_o (by decide), upw_s, pu_n (by omega), pu_s]
  · rw [upw_o (by decide), upw_s, pu_s, hv h1]
  · rw [upw_o (by decide), upw_s, pu_n (by omega), pu_n (by omega)]
theorem kC_n (hk : k < 3) (h : kC T n k i ≠ 0) : i + 1 ≤ n := kC_l hk h
theorem kC_sm {m : Nat} (hk : k < 3) : kC T n k m < 2147483648 := by
  rcases kC_c (T := T) (n := n) (i := m) hk with e | e | e | e | ⟨j, hj, e⟩
  · omega
  · omega
  · omega
  · unfold kC tC at e ⊢
    split
    · decide
    · split
      · next h1 h2 =>
        rcases wcd_i (T := T) (b := tB T n (pz T n m)) (e := scn (fun i => ltr (T i)) n (tB T n (pz T n m))) hk with e | ⟨x, hx, e, -⟩
        · omega
        · have := (WT_ok hk hx).2.1
          omega
      · split
        · split <;> decide
        · split
          · next h1 h2 h3 h4 =>
            have h4 : T (tB T n (pz T n m)) = 59 ∨ T (tB T n (pz T n m)) = 43 ∨ T (tB T n (pz T n m)) = 45 ∨ T (tB T n (pz T n m)) = 42 ∨ T (tB T n (pz T n m)) = 47 ∨ T (tB T n (pz T n m)) = 40 ∨ T (tB T n (pz T n m)) = 41 ∨ T (tB T n (pz T n m)) = 60 ∨ T (tB T n (pz T n m)) = 61 ∨ T (tB T n (pz T n m)) = 62 := of_decide_eq_true h4
            omega
          · decide
  · have := (WT_ok hk hj).2.1
    omega
theorem s_mneed {t : Nat} (ht : t < 1000) (h : mIn T n k s i r g) (HN : ∀ g', kC T n k i = t → mOK T n k s [] (i + 1) g g' → P (some (.int (nI 1))) (E g' q)) (HX : ∀ g', kC T n k i ≠ t → mX T n 1 i g g' → P (some (.int (nI 0))) (E g' q)) : callC (ev (d + 11)) mo_need [.ref 196, .int (nI t)] (E g q) P := by
  refine in_mo_need rfl ?_
  have h19 := h.2.1.2.1
  have hc := kC_sm (T := T) (n := n) (m := i) (mIn_k h)
  rw [b_mo_need_0]
  simp -implicitDefEqProofs (disch := first | assumption | omega) only [szS_0, szS_i, szS_r, szS_l, x_cons, x_goto, ob_some, kl_i, kl_r, kl_l, kl_n, push_n, push_s, pop_0, pop_i, pop_r, Int.reduceToNat, List.length_cons, List.length_nil, Nat.reduceAdd, Nat.reduceLeDiff, Nat.zero_add, true_and, nI_n0, nat_le, Nat.add_zero, rt_mo_need_0, rt_mo_need_1, rt_mo_need_b, x_al0, x_call, x_getf, x_iceq, x_il1, x_iret, x_ldc, fd_196_0, fd_196_1, fd_196_2, fd_196_3, fd_196_4, sf_196_4, fd_196_5, sf_196_5, fd_196_6, fd_196_7, fd_196_8, fd_196_9, fd_196_10, fd_196_11, fd_196_12, sf_196_12, fd_196_13, sf_196_13, fd_196_14, sf_196_14, fd_196_15, sf_196_15, fd_196_16, sf_196_16, fd_196_17, sf_196_17, fd_196_18, sf_196_18, fd_196_19, sf_196_19, fd_196_20, sf_196_20, fd_196_21, sf_196_21, fd_196_22, sf_196_22, fd_196_23, sf_196_23, fd_196_24, sf_196_24, fd_196_25, sf_196_25, fd_196_26, sf_196_26, fd_196_27, fd_196_28, fd_196_29, fd_196_30, sf_196_30, fd_196_31, fd_196_32, fd_196_33, fd_196_34, fd_196_35, fd_196_36, fd_196_37, sf_196_37, fd_196_38, fd_196_39, sf_196_39, fd_196_40, sf_196_40, fd_196_41, sf_196_41, fd_196_42, fd_196_43, fd_196_44, h19, nI_eqE]
  by_cases h1 : kC T n k i = t
  · rw [if_pos h1]
    try simp -implicitDefEqProofs (disch := first | assumption | omega) only [b_mo_need_14, szS_0, szS_i, szS_r, szS_l, x_cons, x_goto, ob_some, kl_i, kl_r, kl_l, kl_n, push_n, push_s, pop_0, pop_i, pop_r, Int.reduceToNat, List.length_cons, List.length_nil, Nat.reduceAdd, Nat.reduceLeDiff, Nat.zero_add, true_and, nI_n0, nat_le, Nat.add_zero, rt_mo_need_0, rt_mo_need_1, rt_mo_need_b, x_al0, x_call, x_getf, x_iceq, x_il1, x_iret, x_ldc]
    refine s_nx h fun g' e => ?_
    simp -implicitDefEqProofs (disch := first | assumption | omega) only [szS_0, szS_i, szS_r, szS_l, x_cons, x_goto, ob_some, kl_i, kl_r, kl_l, kl_n, push_n, push_s, pop_0, pop_i, pop_r, Int.reduceToNat, List.length_cons, List.length_nil, Nat.reduceAdd, Nat.reduceLeDiff, Nat.zero_add, true_and, nI_n0, nat_le, Nat.add_zero, rt_mo_need_0, rt_mo_need_1, rt_mo_need_b, x_al0, x_call, x_getf, x_iceq, x_il1, x_iret, x_ldc]
    exact HN g' h1 e
  · rw [if_neg h1]
    try simp -implicitDefEqProofs (disch := first | assumption | omega) only [szS_0, szS_i, szS_r, szS_l, x_cons, x_goto, ob_some, kl_i, kl_r, kl_l, kl_n, push_n, push_s, pop_0, pop_i, pop_r, Int.reduceToNat, List.length_cons, List.length_nil, Nat.reduceAdd, Nat.reduceLeDiff, Nat.zero_add, true_and, nI_n0, nat_le, Nat.add_zero, rt_mo_need_0, rt_mo_need_1, rt_mo_need_b, x_al0, x_call, x_getf, x_iceq, x_il1, x_iret, x_ldc]
    refine s_mbad (d := d + 9) h.2.1 fun g' e => ?_
    simp -implicitDefEqProofs (disch := first | assumption | omega) only [szS_0, szS_i, szS_r, szS_l, x_cons, x_goto, ob_some, kl_i, kl_r, kl_l, kl_n, push_n, push_s, pop_0, pop_i, pop_r, Int.reduceToNat, List.length_cons, List.length_nil, Nat.reduceAdd, Nat.reduceLeDiff, Nat.zero_add, true_and, nI_n0, nat_le, Nat.add_zero, rt_mo_need_0, rt_mo_need_1, rt_mo_need_b, x_al0, x_call, x_getf, x_iceq, x_il1, x_iret, x_ldc]
    exact HX g' h1 e
theorem s_unit : mFn T n k (d + 11) mo_unit r (unF T n k) := by
  intro g q P s i h HN HX
  refine in_mo_unit rfl ?_
  have hk := mIn_k h
  have h19 := h.2.1.2.1
  have hc := kC_sm (T := T) (n := n) (m := i) hk
  have hn := mIn_n h
  have hs := h.2.2.2.1
  have hi := h.2.2.2.2.1
  have eu : unF T n k i = if kC T n k i = 2 then .inr ([(0, kN T n i)], i + 1) else if 41 ≤ kC T n k i ∧ kC T n k i ≤ 52 then .inr ([(kC T n k i - 40, 0)], i + 1) else .inl (1, i) := rfl
  rw [b_mo_unit_0]
  simp -implicitDefEqProofs (disch := first | assumption | omega) only [szS_0, szS_i, szS_r, szS_l, x_cons, x_goto, ob_some, kl_i, kl_r, kl_l, kl_n, push_n, push_s, pop_0, pop_i, pop_r, Int.reduceToNat, List.length_cons, List.length_nil, Nat.reduceAdd, Nat.reduceLeDiff, Nat.zero_add, true_and, nI_n0, nat_le, Nat.add_zero, rt_mo_unit_0, rt_mo_unit_1, rt_mo_unit_b, x_al0, x_call, x_getf, x_goto, x_iceq, x_ifeq, x_ifne, x_il1, x_iret, x_is1, x_isub, x_ldc, fd_196_0, fd_196_1, fd_196_2, fd_196_3, fd_196_4, sf_196_4, fd_196_5, sf_196_5, fd_196_6, fd_196_7, fd_196_8, fd_196_9, fd_196_10, fd_196_11, fd_196_12, sf_196_12, fd_196_13, sf_196_13, fd_196_14, sf_196_14, fd_196_15, sf_196_15, fd_196_16, sf_196_16, fd_196_17, sf_196_17, fd_196_18, sf_196_18, fd_196_19, sf_196_19, fd_196_20, sf_196_20, fd_196_21, sf_196_21, fd_196_22, sf_196_22, fd_196_23, sf_196_23, fd_196_24, sf_196_24, fd_196_25, sf_196_25, fd_196_26, sf_196_26, fd_196_27, fd_196_28, fd_196_29, fd_196_30, sf_196_30, fd_196_31, fd_196_32, fd_196_33, fd_196_34, fd_196_35, fd_196_36, fd_196_37, sf_196_37, fd_196_38, fd_196_39, sf_196_39, fd_196_40, sf_196_40, fd_196_41, sf_196_41, fd_196_42, fd_196_43, fd_196_44, h19, s_isIn, nI_eqE]
  have dd : decide (nI 41 ≤ nI (kC T n k i) ∧ nI (kC T n k i) ≤ nI 52) = decide (41 ≤ kC T n k i ∧ kC T n k i ≤ 52) := decide_eq_decide.mpr (by rw [nI_leE (by decide) hc, nI_leE hc (by decide)])
  have fin : ∀ (o : Nat × Nat) (b : Int32), kC T n k i ≠ 0 → unF T n k i = .inr ([o], i + 1) → (o.1 = 0 ∨ o.1 = 26 → g 196 21 = nI o.2) → wp (ev (d + 10)) P mo_unit 46 [some (.ref 196), some (.int b)] [.int (nI o.1), .ref 196] (E g q) := by
    intro o b h0 e hv
    have hin := kC_n (T := T) (n := n) hk h0
    rw [b_mo_unit_46]
    simp -implicitDefEqProofs (disch := first | assumption | omega) only [szS_0, szS_i, szS_r, szS_l, x_cons, x_goto, ob_some, kl_i, kl_r, kl_l, kl_n, push_n, push_s, pop_0, pop_i, pop_r, Int.reduceToNat, List.length_cons, List.length_nil, Nat.reduceAdd, Nat.reduceLeDiff, Nat.zero_add, true_and, nI_n0, nat_le, Nat.add_zero, rt_mo_unit_0, rt_mo_unit_1, rt_mo_unit_b, x_al0, x_call, x_getf, x_goto, x_iceq, x_ifeq, x_ifne, x_il1, x_iret, x_is1, x_isub, x_ldc, fd_196_0, fd_196_1, fd_196_2, fd_196_3, fd_196_4, sf_196_4, fd_196_5, sf_196_5, fd_196_6, fd_196_7, fd_196_8, fd_196_9, fd_196_10, fd_196_11, fd_196_12, sf_196_12, fd_196_13, sf_196_13, fd_196_14, sf_196_14, fd_196_15, sf_196_15, fd_196_16, sf_196_16, fd_196_17, sf_196_17, fd_196_18, sf_196_18, fd_196_19, sf_196_19, fd_196_20, sf_196_20, fd_196_21, sf_196_21, fd_196_22, sf_196_22, fd_196_23, sf_196_23, fd_196_24, sf_196_24, fd_196_25, sf_196_25, fd_196_26, sf_196_26, fd_196_27, fd_196_28, fd_196_29, fd_196_30, sf_196_30, fd_196_31, fd_196_32, fd_196_33, fd_196_34, fd_196_35, fd_196_36, fd_196_37, sf_196_37, fd_196_38, fd_196_39, sf_196_39, fd_196_40, sf_196_40, fd_196_41, sf_196_41, fd_196_42, fd_196_43, fd_196_44]
    refine s_lay (d := d + 9) h (by omega) hv fun g1 o1 => ?_
    simp -implicitDefEqProofs (disch := first | assumption | omega) only [szS_0, szS_i, szS_r, szS_l, x_cons, x_goto, ob_some, kl_i, kl_r, kl_l, kl_n, push_n, push_s, pop_0, pop_i, pop_r, Int.reduceToNat, List.length_cons, List.length_nil, Nat.reduceAdd, Nat.reduceLeDiff, Nat.zero_add, true_and, nI_n0, nat_le, Nat.add_zero, rt_mo_unit_0, rt_mo_unit_1, rt_mo_unit_b, x_al0, x_call, x_getf, x_goto, x_iceq, x_ifeq, x_ifne, x_il1, x_iret, x_is1, x_isub, x_ldc]
    refine s_nx0 (s := s + 1) (TT_o h.1 o1) o1.2.1 o1.2.2.1 fun g2 o2 => ?_
    simp -implicitDefEqProofs (disch := first | assumption | omega) only [szS_0, szS_i, szS_r, szS_l, x_cons, x_goto, ob_some, kl_i, kl_r, kl_l, kl_n, push_n, push_s, pop_0, pop_i, pop_r, Int.reduceToNat, List.length_cons, List.length_nil, Nat.reduceAdd, Nat.reduceLeDiff, Nat.zero_add, true_and, nI_n0, nat_le, Nat.add_zero, rt_mo_unit_0, rt_mo_unit_1, rt_mo_unit_b, x_al0, x_call, x_getf, x_goto, x_iceq, x_ifeq, x_ifne, x_il1, x_iret, x_is1, x_isub, x_ldc]
    exact HN _ _ g2 e (mOK_t o1 o2)
  by_cases h2 : kC T n k i = 2
  · have nb : decide (41 ≤ kC T n k i ∧ kC T n k i ≤ 52) = false := decide_eq_false (by omega)
    rw [if_pos h2] at eu
    rw [dd, nb]
    simp only [h2, ↓reduceIte]
    try simp -implicitDefEqProofs (disch := first | assumption | omega) only [b_mo_unit_30, szS_0, szS_i, szS_r, szS_l, x_cons, x_goto, ob_some, kl_i, kl_r, kl_l, kl_n, push_n, push_s, pop_0, pop_i, pop_r, Int.reduceToNat, List.length_cons, List.length_nil, Nat.reduceAdd, Nat.reduceLeDiff, Nat.zero_add, true_and, nI_n0, nat_le, Nat.add_zero, rt_mo_unit_0, rt_mo_unit_1, rt_mo_unit_b, x_al0, x_call, x_getf, x_goto, x_iceq, x_ifeq, x_ifne, x_il1, x_iret, x_is1, x_isub, x_ldc, bI_0, ↓reduceIte, b_mo_unit_45]
    exact fin (0, kN T n i) _ (by omega) eu fun _ => h.2.1.2.2.2 h2
  · rw [if_neg h2] at eu
    rw [dd]
    simp only [h2, ↓reduceIte]
    by_cases h3 : 41 ≤ kC T n k i ∧ kC T n k i ≤ 52
    · have nb : decide (41 ≤ kC T n k i ∧ kC T n k i ≤ 52) = true := decide_eq_true h3
      have h40 : 40 ≤ kC T n k i := by omega
      rw [if_pos h3] at eu
      rw [nb]
      simp -implicitDefEqProofs (disch := first | assumption | omega) only [b_mo_unit_30, szS_0, szS_i, szS_r, szS_l, x_cons, x_goto, ob_some, kl_i, kl_r, kl_l, kl_n, push_n, push_s, pop_0, pop_i, pop_r, Int.reduceToNat, List.length_cons, List.length_nil, Nat.reduceAdd, Nat.reduceLeDiff, Nat.zero_add, true_and, nI_n0, nat_le, Nat.add_zero, rt_mo_unit_0, rt_mo_unit_1, rt_mo_unit_b, x_al0, x_call, x_getf, x_goto, x_iceq, x_ifeq, x_ifne, x_il1, x_iret, x_is1, x_isub, x_ldc, bI_0, Bool.true_eq_false, ↓reduceIte, fd_196_0, fd_196_1, fd_196_2, fd_196_3, fd_196_4, sf_196_4, fd_196_5, sf_196_5, fd_196_6, fd_196_7, fd_196_8, fd_196_9, fd_196_10, fd_196_11, fd_196_12, sf_196_12, fd_196_13, sf_196_13, fd_196_14, sf_196_14, fd_196_15, sf_196_15, fd_196_16, sf_196_16, fd_196_17, sf_196_17, fd_196_18, sf_196_18, fd_196_19, sf_196_19, fd_196_20, sf_196_20, fd_196_21, sf_196_21, fd_196_22, sf_196_22, fd_196_23, sf_196_23, fd_196_24, sf_196_24, fd_196_25, sf_196_25, fd_196_26, sf_196_26, fd_196_27, fd_196_28, fd_196_29, fd_196_30, sf_196_30, fd_196_31, fd_196_32, fd_196_33, fd_196_34, fd_196_35, fd_196_36, fd_196_37, sf_196_37, fd_196_38, fd_196_39, sf_196_39, fd_196_40, sf_196_40, fd_196_41, sf_196_41, fd_196_42, fd_196_43, fd_196_44, h19, nI_sub]
      exact fin (kC T n k i - 40, 0) _ (by omega) eu fun h => absurd h (by show ¬ (kC T n k i - 40 = 0 ∨ kC T n k i - 40 = 26); omega)
    · have nb : decide (41 ≤ kC T n k i ∧ kC T n k i ≤ 52) = false := decide_eq_false h3
      rw [if_neg h3] at eu
      rw [nb]
      simp -implicitDefEqProofs (disch := first | assumption | omega) only [szS_0, szS_i, szS_r, szS_l, x_cons, x_goto, ob_some, kl_i, kl_r, kl_l, kl_n, push_n, push_s, pop_0, pop_i, pop_r, Int.reduceToNat, List.length_cons, List.length_nil, Nat.reduceAdd, Nat.reduceLeDiff, Nat.zero_add, true_and, nI_n0, nat_le, Nat.add_zero, rt_mo_unit_0, rt_mo_unit_1, rt_mo_unit_b, x_al0, x_call, x_getf, x_goto, x_iceq, x_ifeq, x_ifne, x_il1, x_iret, x_is1, x_isub, x_ldc, bI_0, ↓reduceIte]
      refine s_mbad (d := d + 9) h.2.1 fun g1 x1 => ?_
      simp -implicitDefEqProofs (disch := first | assumption | omega) only [szS_0, szS_i, szS_r, szS_l, x_cons, x_goto, ob_some, kl_i, kl_r, kl_l, kl_n, push_n, push_s, pop_0, pop_i, pop_r, Int.reduceToNat, List.length_cons, List.length_nil, Nat.reduceAdd, Nat.reduceLeDiff, Nat.zero_add, true_and, nI_n0, nat_le, Nat.add_zero, rt_mo_unit_0, rt_mo_unit_1, rt_mo_unit_b, x_al0, x_call, x_getf, x_goto, x_iceq, x_ifeq, x_ifne, x_il1, x_iret, x_is1, x_isub, x_ldc]
      exact HX _ _ g1 eu x1
theorem pdq_lp (hk0 : 1 ≤ k) (hk : k < 3) (hn : n ≤ 400) : ∀ (f i s : Nat) (g : Nat → Nat → Int32) (o1 o2 : Option Value), n + 1 ≤ i + f → mIn T n k s i r g →
    (∀ l j g', pdL T n k f i = .inr (l, j) → mOK T n k s l j g g' → P (some (.int (nI 1))) (E g' q)) → (∀ f' j g', pdL T n k f i = .inl (f', j) → mX T n f' j g g' → P (some (.int (nI 0))) (E g' q)) →
    wp (ev (d + 11)) P mo_product 9 [some (.ref 196), o1, o2] [] (E g q) := by
  intro f
  induction f with
  | zero =>
    intro i s g o1 o2 hf h
    have := h.2.2.2.2.1
    omega
  | succ f ih =>
    intro i s g o1 o2 hf h HN HX
    have h19 := h.2.1.2.1
    have hc := kC_sm (T := T) (n := n) (m := i) hk
    have hi := h.2.2.2.2.1
    have hsi := h.2.2.2.1
    have n10 : (nI 1 = nI 0) = False := eq_false (by decide)
    have eu : pdL T n k (f + 1) i = if kC T n k i = 142 then bd (unF T n k (i + 1)) fun l j => ap (l ++ [(25, 0)]) (pdL T n k f j) else if kC T n k i = 147 then (if kC T n k (i + 1) ≠ 2 then .inl (1, i + 1) else if kN T n (i + 1) = 0 then .inl (2, i + 1) else ap [(26, kN T n (i + 1))] (pdL T n k f (i + 2))) else .inr ([], i) := rfl
    rw [b_mo_product_9]
    simp -implicitDefEqProofs (disch := first | assumption | omega) only [szS_0, szS_i, szS_r, szS_l, x_cons, x_goto, ob_some, kl_i, kl_r, kl_l, kl_n, push_n, push_s, pop_0, pop_i, pop_r, Int.reduceToNat, List.length_cons, List.length_nil, Nat.reduceAdd, Nat.reduceLeDiff, Nat.zero_add, true_and, nI_n0, nat_le, Nat.add_zero, rt_mo_product_0, rt_mo_product_1, rt_mo_product_b, x_al0, x_call, x_getf, x_goto, x_iceq, x_icne, x_ifeq, x_ifne, x_il1, x_il2, x_iret, x_is1, x_is2, x_ldc, fd_196_0, fd_196_1, fd_196_2, fd_196_3, fd_196_4, sf_196_4, fd_196_5, sf_196_5, fd_196_6, fd_196_7, fd_196_8, fd_196_9, fd_196_10, fd_196_11, fd_196_12, sf_196_12, fd_196_13, sf_196_13, fd_196_14, sf_196_14, fd_196_15, sf_196_15, fd_196_16, sf_196_16, fd_196_17, sf_196_17, fd_196_18, sf_196_18, fd_196_19, sf_196_19, fd_196_20, sf_196_20, fd_196_21, sf_196_21, fd_196_22, sf_196_22, fd_196_23, sf_196_23, fd_196_24, sf_196_24, fd_196_25, sf_196_25, fd_196_26, sf_196_26, fd_196_27, fd_196_28, fd_196_29, fd_196_30, sf_196_30, fd_196_31, fd_196_32, fd_196_33, fd_196_34, fd_196_35, fd_196_36, fd_196_37, sf_196_37, fd_196_38, fd_196_39, sf_196_39, fd_196_40, sf_196_40, fd_196_41, sf_196_41, fd_196_42, fd_196_43, fd_196_44, h19, nI_eqE]
    by_cases c1 : kC T n k i = 142
    · rw [if_pos c1] at eu
      have c2 : ¬ kC T n k i = 147 := by omega
      have c1' := c1
      simp only [c1, ↓reduceIte]
      have hin := kC_n (T := T) (n := n) (i := i) hk (by omega)
      simp -implicitDefEqProofs (disch := first | assumption | omega) only [b_mo_product_29, szS_0, szS_i, szS_r, szS_l, x_cons, x_goto, ob_some, kl_i, kl_r, kl_l, kl_n, push_n, push_s, pop_0, pop_i, pop_r, Int.reduceToNat, List.length_cons, List.length_nil, Nat.reduceAdd, Nat.reduceLeDiff, Nat.zero_add, true_and, nI_n0, nat_le, Nat.add_zero, rt_mo_product_0, rt_mo_product_1, rt_mo_product_b, x_al0, x_call, x_getf, x_goto, x_iceq, x_icne, x_ifeq, x_ifne, x_il1, x_il2, x_iret, x_is1, x_is2, x_ldc, fd_196_0, fd_196_1, fd_196_2, fd_196_3, fd_196_4, sf_196_4, fd_196_5, sf_196_5, fd_196_6, fd_196_7, fd_196_8, fd_196_9, fd_196_10, fd_196_11, fd_196_12, sf_196_12, fd_196_13, sf_196_13, fd_196_14, sf_196_14, fd_196_15, sf_196_15, fd_196_16, sf_196_16, fd_196_17, sf_196_17, fd_196_18, sf_196_18, fd_196_19, sf_196_19, fd_196_20, sf_196_20, fd_196_21, sf_196_21, fd_196_22, sf_196_22, fd_196_23, sf_196_23, fd_196_24, sf_196_24, fd_196_25, sf_196_25, fd_196_26, sf_196_26, fd_196_27, fd_196_28, fd_196_29, fd_196_30, sf_196_30, fd_196_31, fd_196_32, fd_196_33, fd_196_34, fd_196_35, fd_196_36, fd_196_37, sf_196_37, fd_196_38, fd_196_39, sf_196_39, fd_196_40, sf_196_40, fd_196_41, sf_196_41, fd_196_42, fd_196_43, fd_196_44, h19, c1', nI_eqE, Nat.reduceEqDiff, ↓reduceIte, b_mo_product_43, b_mo_product_44]
      refine s_nx (d := d + 1) h fun g1 o1 => ?_
      have h1 := mIn_0 h o1 hin
      simp -implicitDefEqProofs (disch := first | assumption | omega) only [szS_0, szS_i, szS_r, szS_l, x_cons, x_goto, ob_some, kl_i, kl_r, kl_l, kl_n, push_n, push_s, pop_0, pop_i, pop_r, Int.reduceToNat, List.length_cons, List.length_nil, Nat.reduceAdd, Nat.reduceLeDiff, Nat.zero_add, true_and, nI_n0, nat_le, Nat.add_zero, rt_mo_product_0, rt_mo_product_1, rt_mo_product_b, x_al0, x_call, x_getf, x_goto, x_iceq, x_icne, x_ifeq, x_ifne, x_il1, x_il2, x_iret, x_is1, x_is2, x_ldc, ↓reduceIte, b_mo_product_96]
      refine s_unit h1 (fun l j g2 e o2 => ?_) fun f' j g2 e x2 => ?_
      · have u := unF_k hk0 hk e
        have h2 := mIn_t h1 o2 (okR_ls hsi u) u.2.1
        have hl := okR_l1 hsi u
        simp -implicitDefEqProofs (disch := first | assumption | omega) only [szS_0, szS_i, szS_r, szS_l, x_cons, x_goto, ob_some, kl_i, kl_r, kl_l, kl_n, push_n, push_s, pop_0, pop_i, pop_r, Int.reduceToNat, List.length_cons, List.length_nil, Nat.reduceAdd, Nat.reduceLeDiff, Nat.zero_add, true_and, nI_n0, nat_le, Nat.add_zero, rt_mo_product_0, rt_mo_product_1, rt_mo_product_b, x_al0, x_call, x_getf, x_goto, x_iceq, x_icne, x_ifeq, x_ifne, x_il1, x_il2, x_iret, x_is1, x_is2, x_ldc, n10, ↓reduceIte, b_mo_product_105]
        refine s_lay (d := d + 10) (o := (25, 0)) h2 (by have := u.2.1; omega) (fun h => absurd h (by decide)) fun g3 o3 => ?_
        simp -implicitDefEqProofs (disch := first | assumption | omega) only [szS_0, szS_i, szS_r, szS_l, x_cons, x_goto, ob_some, kl_i, kl_r, kl_l, kl_n, push_n, push_s, pop_0, pop_i, pop_r, Int.reduceToNat, List.length_cons, List.length_nil, Nat.reduceAdd, Nat.reduceLeDiff, Nat.zero_add, true_and, nI_n0, nat_le, Nat.add_zero, rt_mo_product_0, rt_mo_product_1, rt_mo_product_b, x_al0, x_call, x_getf, x_goto, x_iceq, x_icne, x_ifeq, x_ifne, x_il1, x_il2, x_iret, x_is1, x_is2, x_ldc, b_mo_product_112]
        exact ih j _ g3 _ _ (by have := u.1; omega) (mIn_1 h2 o3 hl) (fun l' j' g4 e' o4 => HN _ _ g4 (eu.trans ((bd_r e).trans (ap_r e'))) (mOK_3 (mOK_n o1 o2) o3 o4)) fun f' j' g4 e' x4 => HX _ _ g4 (eu.trans ((bd_r e).trans (ap_l e'))) (mX_t (mOK_t (mOK_n o1 o2) o3) x4)
      · simp -implicitDefEqProofs (disch := first | assumption | omega) only [szS_0, szS_i, szS_r, szS_l, x_cons, x_goto, ob_some, kl_i, kl_r, kl_l, kl_n, push_n, push_s, pop_0, pop_i, pop_r, Int.reduceToNat, List.length_cons, List.length_nil, Nat.reduceAdd, Nat.reduceLeDiff, Nat.zero_add, true_and, nI_n0, nat_le, Nat.add_zero, rt_mo_product_0, rt_mo_product_1, rt_mo_product_b, x_al0, x_call, x_getf, x_goto, x_iceq, x_icne, x_ifeq, x_ifne, x_il1, x_il2, x_iret, x_is1, x_is2, x_ldc, ↓reduceIte]
        exact HX _ _ g2 (eu.trans (bd_l e)) (mX_t o1 x2)
    · rw [if_neg c1] at eu
      simp only [c1, ↓reduceIte]
      try simp -implicitDefEqProofs (disch := first | assumption | omega) only [szS_0, szS_i, szS_r, szS_l, x_cons, x_goto, ob_some, kl_i, kl_r, kl_l, kl_n, push_n, push_s, pop_0, pop_i, pop_r, Int.reduceToNat, List.length_cons, List.length_nil, Nat.reduceAdd, Nat.reduceLeDiff, Nat.zero_add, true_and, nI_n0, nat_le, Nat.add_zero, rt_mo_product_0, rt_mo_product_1, rt_mo_product_b, x_al0, x_call, x_getf, x_goto, x_iceq, x_icne, x_ifeq, x_ifne, x_il1, x_il2, x_iret, x_is1, x_is2, x_ldc, fd_196_0, fd_196_1, fd_196_2, fd_196_3, fd_196_4, sf_196_4, fd_196_5, sf_196_5, fd_196_6, fd_196_7, fd_196_8, fd_196_9, fd_196_10, fd_196_11, fd_196_12, sf_196_12, fd_196_13, sf_196_13, fd_196_14, sf_196_14, fd_196_15, sf_196_15, fd_196_16, sf_196_16, fd_196_17, sf_196_17, fd_196_18, sf_196_18, fd_196_19, sf_196_19, fd_196_20, sf_196_20, fd_196_21, sf_196_21, fd_196_22, sf_196_22, fd_196_23, sf_196_23, fd_196_24, sf_196_24, fd_196_25, sf_196_25, fd_196_26, sf_196_26, fd_196_27, fd_196_28, fd_196_29, fd_196_30, sf_196_30, fd_196_31, fd_196_32, fd_196_33, fd_196_34, fd_196_35, fd_196_36, fd_196_37, sf_196_37, fd_196_38, fd_196_39, sf_196_39, fd_196_40, sf_196_40, fd_196_41, sf_196_41, fd_196_42, fd_196_43, fd_196_44, h19, nI_eqE]
      by_cases c2 : kC T n k i = 147
      · rw [if_pos c2] at eu
        have c2' := c2
        simp only [c2, ↓reduceIte]
        have hin := kC_n (T := T) (n := n) (i := i) hk (by omega)
        simp -implicitDefEqProofs (disch := first | assumption | omega) only [b_mo_product_29, szS_0, szS_i, szS_r, szS_l, x_cons, x_goto, ob_some, kl_i, kl_r, kl_l, kl_n, push_n, push_s, pop_0, pop_i, pop_r, Int.reduceToNat, List.length_cons, List.length_nil, Nat.reduceAdd, Nat.reduceLeDiff, Nat.zero_add, true_and, nI_n0, nat_le, Nat.add_zero, rt_mo_product_0, rt_mo_product_1, rt_mo_product_b, x_al0, x_call, x_getf, x_goto, x_iceq, x_icne, x_ifeq, x_ifne, x_il1, x_il2, x_iret, x_is1, x_is2, x_ldc, fd_196_0, fd_196_1, fd_196_2, fd_196_3, fd_196_4, sf_196_4, fd_196_5, sf_196_5, fd_196_6, fd_196_7, fd_196_8, fd_196_9, fd_196_10, fd_196_11, fd_196_12, sf_196_12, fd_196_13, sf_196_13, fd_196_14, sf_196_14, fd_196_15, sf_196_15, fd_196_16, sf_196_16, fd_196_17, sf_196_17, fd_196_18, sf_196_18, fd_196_19, sf_196_19, fd_196_20, sf_196_20, fd_196_21, sf_196_21, fd_196_22, sf_196_22, fd_196_23, sf_196_23, fd_196_24, sf_196_24, fd_196_25, sf_196_25, fd_196_26, sf_196_26, fd_196_27, fd_196_28, fd_196_29, fd_196_30, sf_196_30, fd_196_31, fd_196_32, fd_196_33, fd_196_34, fd_196_35, fd_196_36, fd_196_37, sf_196_37, fd_196_38, fd_196_39, sf_196_39, fd_196_40, sf_196_40, fd_196_41, sf_196_41, fd_196_42, fd_196_43, fd_196_44, h19, c2', nI_eqE, ↓reduceIte, b_mo_product_44]
        refine s_nx (d := d + 1) h fun g1 o1 => ?_
        have h1 := mIn_0 h o1 hin
        have k19 := h1.2.1.2.1
        have hc2 := kC_sm (T := T) (n := n) (m := i + 1) hk
        simp -implicitDefEqProofs (disch := first | assumption | omega) only [szS_0, szS_i, szS_r, szS_l, x_cons, x_goto, ob_some, kl_i, kl_r, kl_l, kl_n, push_n, push_s, pop_0, pop_i, pop_r, Int.reduceToNat, List.length_cons, List.length_nil, Nat.reduceAdd, Nat.reduceLeDiff, Nat.zero_add, true_and, nI_n0, nat_le, Nat.add_zero, rt_mo_product_0, rt_mo_product_1, rt_mo_product_b, x_al0, x_call, x_getf, x_goto, x_iceq, x_icne, x_ifeq, x_ifne, x_il1, x_il2, x_iret, x_is1, x_is2, x_ldc, n10, ↓reduceIte, fd_196_0, fd_196_1, fd_196_2, fd_196_3, fd_196_4, sf_196_4, fd_196_5, sf_196_5, fd_196_6, fd_196_7, fd_196_8, fd_196_9, fd_196_10, fd_196_11, fd_196_12, sf_196_12, fd_196_13, sf_196_13, fd_196_14, sf_196_14, fd_196_15, sf_196_15, fd_196_16, sf_196_16, fd_196_17, sf_196_17, fd_196_18, sf_196_18, fd_196_19, sf_196_19, fd_196_20, sf_196_20, fd_196_21, sf_196_21, fd_196_22, sf_196_22, fd_196_23, sf_196_23, fd_196_24, sf_196_24, fd_196_25, sf_196_25, fd_196_26, sf_196_26, fd_196_27, fd_196_28, fd_196_29, fd_196_30, sf_196_30, fd_196_31, fd_196_32, fd_196_33, fd_196_34, fd_196_35, fd_196_36, fd_196_37, sf_196_37, fd_196_38, fd_196_39, sf_196_39, fd_196_40, sf_196_40, fd_196_41, sf_196_41, fd_196_42, fd_196_43, fd_196_44, k19, nI_eqE]
        by_cases c3 : kC T n k (i + 1) = 2
        · rw [if_neg (fun h => h c3)] at eu
          have k21 := h1.2.1.2.2.2 c3
          have hin2 := kC_n (T := T) (n := n) (i := i + 1) hk (by omega)
          have hN := kN_l (T := T) (n := n) (i := i + 1)
          simp only [c3, ↓reduceIte]
          try simp -implicitDefEqProofs (disch := first | assumption | omega) only [b_mo_product_72, szS_0, szS_i, szS_r, szS_l, x_cons, x_goto, ob_some, kl_i, kl_r, kl_l, kl_n, push_n, push_s, pop_0, pop_i, pop_r, Int.reduceToNat, List.length_cons, List.length_nil, Nat.reduceAdd, Nat.reduceLeDiff, Nat.zero_add, true_and, nI_n0, nat_le, Nat.add_zero, rt_mo_product_0, rt_mo_product_1, rt_mo_product_b, x_al0, x_call, x_getf, x_goto, x_iceq, x_icne, x_ifeq, x_ifne, x_il1, x_il2, x_iret, x_is1, x_is2, x_ldc, k21, nI_eqE]
          by_cases c4 : kN T n (i + 1) = 0
          · rw [if_pos c4] at eu
            simp only [c4, ↓reduceIte]
            try simp -implicitDefEqProofs (disch := first | assumption | omega) only [szS_0, szS_i, szS_r, szS_l, x_cons, x_goto, ob_some, kl_i, kl_r, kl_l, kl_n, push_n, push_s, pop_0, pop_i, pop_r, Int.reduceToNat, List.length_cons, List.length_nil, Nat.reduceAdd, Nat.reduceLeDiff, Nat.zero_add, true_and, nI_n0, nat_le, Nat.add_zero, rt_mo_product_0, rt_mo_product_1, rt_mo_product_b, x_al0, x_call, x_getf, x_goto, x_iceq, x_icne, x_ifeq, x_ifne, x_il1, x_il2, x_iret, x_is1, x_is2, x_ldc]
            refine s_mbad (d := d + 10) h1.2.1 fun g2 x2 => ?_
            simp -implicitDefEqProofs (disch := first | assumption | omega) only [szS_0, szS_i, szS_r, szS_l, x_cons, x_goto, ob_some, kl_i, kl_r, kl_l, kl_n, push_n, push_s, pop_0, pop_i, pop_r, Int.reduceToNat, List.length_cons, List.length_nil, Nat.reduceAdd, Nat.reduceLeDiff, Nat.zero_add, true_and, nI_n0, nat_le, Nat.add_zero, rt_mo_product_0, rt_mo_product_1, rt_mo_product_b, x_al0, x_call, x_getf, x_goto, x_iceq, x_icne, x_ifeq, x_ifne, x_il1, x_il2, x_iret, x_is1, x_is2, x_ldc]
            exact HX _ _ g2 eu (mX_t o1 x2)
          · rw [if_neg c4] at eu
            simp only [c4, ↓reduceIte]
            try simp -implicitDefEqProofs (disch := first | assumption | omega) only [b_mo_product_82, szS_0, szS_i, szS_r, szS_l, x_cons, x_goto, ob_some, kl_i, kl_r, kl_l, kl_n, push_n, push_s, pop_0, pop_i, pop_r, Int.reduceToNat, List.length_cons, List.length_nil, Nat.reduceAdd, Nat.reduceLeDiff, Nat.zero_add, true_and, nI_n0, nat_le, Nat.add_zero, rt_mo_product_0, rt_mo_product_1, rt_mo_product_b, x_al0, x_call, x_getf, x_goto, x_iceq, x_icne, x_ifeq, x_ifne, x_il1, x_il2, x_iret, x_is1, x_is2, x_ldc]
            refine s_nx (d := d + 1) h1 fun g2 o2 => ?_
            have h2 := mIn_0 h1 o2 hin2
            simp -implicitDefEqProofs (disch := first | assumption | omega) only [szS_0, szS_i, szS_r, szS_l, x_cons, x_goto, ob_some, kl_i, kl_r, kl_l, kl_n, push_n, push_s, pop_0, pop_i, pop_r, Int.reduceToNat, List.length_cons, List.length_nil, Nat.reduceAdd, Nat.reduceLeDiff, Nat.zero_add, true_and, nI_n0, nat_le, Nat.add_zero, rt_mo_product_0, rt_mo_product_1, rt_mo_product_b, x_al0, x_call, x_getf, x_goto, x_iceq, x_icne, x_ifeq, x_ifne, x_il1, x_il2, x_iret, x_is1, x_is2, x_ldc]
            refine s_lay (d := d + 10) (o := (26, kN T n (i + 1))) h2 (by omega) (fun _ => rfl) fun g3 o3 => ?_
            simp -implicitDefEqProofs (disch := first | assumption | omega) only [szS_0, szS_i, szS_r, szS_l, x_cons, x_goto, ob_some, kl_i, kl_r, kl_l, kl_n, push_n, push_s, pop_0, pop_i, pop_r, Int.reduceToNat, List.length_cons, List.length_nil, Nat.reduceAdd, Nat.reduceLeDiff, Nat.zero_add, true_and, nI_n0, nat_le, Nat.add_zero, rt_mo_product_0, rt_mo_product_1, rt_mo_product_b, x_al0, x_call, x_getf, x_goto, x_iceq, x_icne, x_ifeq, x_ifne, x_il1, x_il2, x_iret, x_is1, x_is2, x_ldc, b_mo_product_112]
            exact ih (i + 1 + 1) _ g3 _ _ (by omega) (mIn_1 h2 o3 (by omega)) (fun l' j' g4 e' o4 => HN _ _ g4 (eu.trans (ap_r e')) (mOK_t (mOK_n o1 (mOK_n o2 o3)) o4)) fun f' j' g4 e' x4 => HX _ _ g4 (eu.trans (ap_l e')) (mX_t (mOK_n o1 (mOK_n o2 o3)) x4)
        · rw [if_pos c3] at eu
          simp only [c3, ↓reduceIte]
          try simp -implicitDefEqProofs (disch := first | assumption | omega) only [szS_0, szS_i, szS_r, szS_l, x_cons, x_goto, ob_some, kl_i, kl_r, kl_l, kl_n, push_n, push_s, pop_0, pop_i, pop_r, Int.reduceToNat, List.length_cons, List.length_nil, Nat.reduceAdd, Nat.reduceLeDiff, Nat.zero_add, true_and, nI_n0, nat_le, Nat.add_zero, rt_mo_product_0, rt_mo_product_1, rt_mo_product_b, x_al0, x_call, x_getf, x_goto, x_iceq, x_icne, x_ifeq, x_ifne, x_il1, x_il2, x_iret, x_is1, x_is2, x_ldc]
          refine s_mbad (d := d + 10) h1.2.1 fun g2 x2 => ?_
          simp -implicitDefEqProofs (disch := first | assumption | omega) only [szS_0, szS_i, szS_r, szS_l, x_cons, x_goto, ob_some, kl_i, kl_r, kl_l, kl_n, push_n, push_s, pop_0, pop_i, pop_r, Int.reduceToNat, List.length_cons, List.length_nil, Nat.reduceAdd, Nat.reduceLeDiff, Nat.zero_add, true_and, nI_n0, nat_le, Nat.add_zero, rt_mo_product_0, rt_mo_product_1, rt_mo_product_b, x_al0, x_call, x_getf, x_goto, x_iceq, x_icne, x_ifeq, x_ifne, x_il1, x_il2, x_iret, x_is1, x_is2, x_ldc]
          exact HX _ _ g2 eu (mX_t o1 x2)
      · rw [if_neg c2] at eu
        simp only [c2, ↓reduceIte]
        try simp -implicitDefEqProofs (disch := first | assumption | omega) only [b_mo_product_115, szS_0, szS_i, szS_r, szS_l, x_cons, x_goto, ob_some, kl_i, kl_r, kl_l, kl_n, push_n, push_s, pop_0, pop_i, pop_r, Int.reduceToNat, List.length_cons, List.length_nil, Nat.reduceAdd, Nat.reduceLeDiff, Nat.zero_add, true_and, nI_n0, nat_le, Nat.add_zero, rt_mo_product_0, rt_mo_product_1, rt_mo_product_b, x_al0, x_call, x_getf, x_goto, x_iceq, x_icne, x_ifeq, x_ifne, x_il1, x_il2, x_iret, x_is1, x_is2, x_ldc]
        exact HN _ _ g eu (mOK_r h)
theorem s_product (hk0 : 1 ≤ k) : mFn T n k (d + 12) mo_product r (pdF T n k) := by
  intro g q P s i h HN HX
  refine in_mo_product rfl ?_
  have n10 : (nI 1 = nI 0) = False := eq_false (by decide)
  have hsi := h.2.2.2.1
  have hn := mIn_n h
  have hk := mIn_k h
  rw [b_mo_product_0]
  simp -implicitDefEqProofs (disch := first | assumption | omega) only [szS_0, szS_i, szS_r, szS_l, x_cons, x_goto, ob_some, kl_i, kl_r, kl_l, kl_n, push_n, push_s, pop_0, pop_i, pop_r, Int.reduceToNat, List.length_cons, List.length_nil, Nat.reduceAdd, Nat.reduceLeDiff, Nat.zero_add, true_and, nI_n0, nat_le, Nat.add_zero, rt_mo_product_0, rt_mo_product_1, rt_mo_product_b, x_al0, x_call, x_getf, x_goto, x_iceq, x_icne, x_ifeq, x_ifne, x_il1, x_il2, x_iret, x_is1, x_is2, x_ldc]
  refine s_unit h (fun l j g2 e o2 => ?_) fun f' j g2 e x2 => ?_
  · have u := unF_k hk0 hk e
    simp -implicitDefEqProofs (disch := first | assumption | omega) only [szS_0, szS_i, szS_r, szS_l, x_cons, x_goto, ob_some, kl_i, kl_r, kl_l, kl_n, push_n, push_s, pop_0, pop_i, pop_r, Int.reduceToNat, List.length_cons, List.length_nil, Nat.reduceAdd, Nat.reduceLeDiff, Nat.zero_add, true_and, nI_n0, nat_le, Nat.add_zero, rt_mo_product_0, rt_mo_product_1, rt_mo_product_b, x_al0, x_call, x_getf, x_goto, x_iceq, x_icne, x_ifeq, x_ifne, x_il1, x_il2, x_iret, x_is1, x_is2, x_ldc, n10, ↓reduceIte]
    exact pdq_lp hk0 hk hn 401 j _ g2 _ _ (by omega) (mIn_t h o2 (okR_le hsi u) u.2.1) (fun l' j' g4 e' o4 => HN _ _ g4 ((bd_r e).trans (ap_r e')) (mOK_t o2 o4)) fun f' j' g4 e' x4 => HX _ _ g4 ((bd_r e).trans (ap_l e')) (mX_t o2 x4)
  · simp -implicitDefEqProofs (disch := first | assumption | omega) only [szS_0, szS_i, szS_r, szS_l, x_cons, x_goto, ob_some, kl_i, kl_r, kl_l, kl_n, push_n, push_s, pop_0, pop_i, pop_r, Int.reduceToNat, List.length_cons, List.length_nil, Nat.reduceAdd, Nat.reduceLeDiff, Nat.zero_add, true_and, nI_n0, nat_le, Nat.add_zero, rt_mo_product_0, rt_mo_product_1, rt_mo_product_b, x_al0, x_call, x_getf, x_goto, x_iceq, x_icne, x_ifeq, x_ifne, x_il1, x_il2, x_iret, x_is1, x_is2, x_ldc, ↓reduceIte]
    exact HX _ _ g2 (bd_l e) x2
theorem sm_lp (hk0 : 1 ≤ k) (hk : k < 3) (hn : n ≤ 400) : ∀ (f i s : Nat) (g : Nat → Nat → Int32) (o1 : Option Value), n + 1 ≤ i + f → mIn T n k s i r g →
    (∀ l j g', smL T n k f i = .inr (l, j) → mOK T n k s l j g g' → P (some (.int (nI 1))) (E g' q)) → (∀ f' j g', smL T n k f i = .inl (f', j) → mX T n f' j g g' → P (some (.int (nI 0))) (E g' q)) →
    wp (ev (d + 12)) P mo_sumUp 9 [some (.ref 196), o1] [] (E g q) := by
  intro f
  induction f with
  | zero =>
    intro i s g o1 hf h
    have := h.2.2.2.2.1
    omega
  | succ f ih =>
    intro i s g o1 hf h HN HX
    have h19 := h.2.1.2.1
    have hc := kC_sm (T := T) (n := n) (m := i) hk
    have hi := h.2.2.2.2.1
    have hsi := h.2.2.2.1
    have n10 : (nI 1 = nI 0) = False := eq_false (by decide)
    have eu : smL T n k (f + 1) i = if kC T n k i = 143 ∨ kC T n k i = 145 then bd (pdF T n k (i + 1)) fun l j => ap (l ++ [(if kC T n k i = 143 then 23 else 24, 0)]) (smL T n k f j) else .inr ([], i) := rfl
    have go : ∀ o : Nat, o = 23 ∨ o = 24 → kC T n k i ≠ 0 → (smL T n k (f + 1) i = bd (pdF T n k (i + 1)) fun l j => ap (l ++ [(o, 0)]) (smL T n k f j)) → wp (ev (d + 12)) P mo_sumUp 46 [some (.ref 196), o1] [.int (nI o)] (E g q) := by
      intro o ho h0 eu
      have hin := kC_n (T := T) (n := n) (i := i) hk h0
      have ho2 : ¬ (o = 0 ∨ o = 26) := by omega
      rw [b_mo_sumUp_46]
      simp -implicitDefEqProofs (disch := first | assumption | omega) only [szS_0, szS_i, szS_r, szS_l, x_cons, x_goto, ob_some, kl_i, kl_r, kl_l, kl_n, push_n, push_s, pop_0, pop_i, pop_r, Int.reduceToNat, List.length_cons, List.length_nil, Nat.reduceAdd, Nat.reduceLeDiff, Nat.zero_add, true_and, nI_n0, nat_le, Nat.add_zero, rt_mo_sumUp_0, rt_mo_sumUp_1, rt_mo_sumUp_b, x_al0, x_call, x_getf, x_goto, x_iceq, x_icne, x_ifne, x_il1, x_iret, x_is1, x_ldc]
      refine s_nx (d := d + 2) h fun g1 o1 => ?_
      have h1 := mIn_0 h o1 hin
      simp -implicitDefEqProofs (disch := first | assumption | omega) only [szS_0, szS_i, szS_r, szS_l, x_cons, x_goto, ob_some, kl_i, kl_r, kl_l, kl_n, push_n, push_s, pop_0, pop_i, pop_r, Int.reduceToNat, List.length_cons, List.length_nil, Nat.reduceAdd, Nat.reduceLeDiff, Nat.zero_add, true_and, nI_n0, nat_le, Nat.add_zero, rt_mo_sumUp_0, rt_mo_sumUp_1, rt_mo_sumUp_b, x_al0, x_call, x_getf, x_goto, x_iceq, x_icne, x_ifne, x_il1, x_iret, x_is1, x_ldc]
      refine s_product (d := d) hk0 h1 (fun l j g2 e o2 => ?_) fun f' j g2 e x2 => ?_
      · have u := pdF_k hk0 hk e
        have h2 := mIn_t h1 o2 (okR_ls hsi u) u.2.1
        have hl := okR_l1 hsi u
        simp -implicitDefEqProofs (disch := first | assumption | omega) only [szS_0, szS_i, szS_r, szS_l, x_cons, x_goto, ob_some, kl_i, kl_r, kl_l, kl_n, push_n, push_s, pop_0, pop_i, pop_r, Int.reduceToNat, List.length_cons, List.length_nil, Nat.reduceAdd, Nat.reduceLeDiff, Nat.zero_add, true_and, nI_n0, nat_le, Nat.add_zero, rt_mo_sumUp_0, rt_mo_sumUp_1, rt_mo_sumUp_b, x_al0, x_call, x_getf, x_goto, x_iceq, x_icne, x_ifne, x_il1, x_iret, x_is1, x_ldc, n10, ↓reduceIte, b_mo_sumUp_60]
        refine s_lay (d := d + 11) (o := (o, 0)) h2 (by have := u.2.1; omega) (fun h => absurd h ho2) fun g3 o3 => ?_
        simp -implicitDefEqProofs (disch := first | assumption | omega) only [szS_0, szS_i, szS_r, szS_l, x_cons, x_goto, ob_some, kl_i, kl_r, kl_l, kl_n, push_n, push_s, pop_0, pop_i, pop_r, Int.reduceToNat, List.length_cons, List.length_nil, Nat.reduceAdd, Nat.reduceLeDiff, Nat.zero_add, true_and, nI_n0, nat_le, Nat.add_zero, rt_mo_sumUp_0, rt_mo_sumUp_1, rt_mo_sumUp_b, x_al0, x_call, x_getf, x_goto, x_iceq, x_icne, x_ifne, x_il1, x_iret, x_is1, x_ldc]
        exact ih j _ g3 _ (by have := u.1; omega) (mIn_1 h2 o3 hl) (fun l' j' g4 e' o4 => HN _ _ g4 (eu.trans ((bd_r e).trans (ap_r e'))) (mOK_3 (mOK_n o1 o2) o3 o4)) fun f' j' g4 e' x4 => HX _ _ g4 (eu.trans ((bd_r e).trans (ap_l e'))) (mX_t (mOK_t (mOK_n o1 o2) o3) x4)
      · simp -implicitDefEqProofs (disch := first | assumption | omega) only [szS_0, szS_i, szS_r, szS_l, x_cons, x_goto, ob_some, kl_i, kl_r, kl_l, kl_n, push_n, push_s, pop_0, pop_i, pop_r, Int.reduceToNat, List.length_cons, List.length_nil, Nat.reduceAdd, Nat.reduceLeDiff, Nat.zero_add, true_and, nI_n0, nat_le, Nat.add_zero, rt_mo_sumUp_0, rt_mo_sumUp_1, rt_mo_sumUp_b, x_al0, x_call, x_getf, x_goto, x_iceq, x_icne, x_ifne, x_il1, x_iret, x_is1, x_ldc, ↓reduceIte]
        exact HX _ _ g2 (eu.trans (bd_l e)) (mX_t o1 x2)
    rw [b_mo_sumUp_9]
    simp -implicitDefEqProofs (disch := first | assumption | omega) only [szS_0, szS_i, szS_r, szS_l, x_cons, x_goto, ob_some, kl_i, kl_r, kl_l, kl_n, push_n, push_s, pop_0, pop_i, pop_r, Int.reduceToNat, List.length_cons, List.length_nil, Nat.reduceAdd, Nat.reduceLeDiff, Nat.zero_add, true_and, nI_n0, nat_le, Nat.add_zero, rt_mo_sumUp_0, rt_mo_sumUp_1, rt_mo_sumUp_b, x_al0, x_call, x_getf, x_goto, x_iceq, x_icne, x_ifne, x_il1, x_iret, x_is1, x_ldc, fd_196_0, fd_196_1, fd_196_2, fd_196_3, fd_196_4, sf_196_4, fd_196_5, sf_196_5, fd_196_6, fd_196_7, fd_196_8, fd_196_9, fd_196_10, fd_196_11, fd_196_12, sf_196_12, fd_196_13, sf_196_13, fd_196_14, sf_196_14, fd_196_15, sf_196_15, fd_196_16, sf_196_16, fd_196_17, sf_196_17, fd_196_18, sf_196_18, fd_196_19, sf_196_19, fd_196_20, sf_196_20, fd_196_21, sf_196_21, fd_196_22, sf_196_22, fd_196_23, sf_196_23, fd_196_24, sf_196_24, fd_196_25, sf_196_25, fd_196_26, sf_196_26, fd_196_27, fd_196_28, fd_196_29, fd_196_30, sf_196_30, fd_196_31, fd_196_32, fd_196_33, fd_196_34, fd_196_35, fd_196_36, fd_196_37, sf_196_37, fd_196_38, fd_196_39, sf_196_39, fd_196_40, sf_196_40, fd_196_41, sf_196_41, fd_196_42, fd_196_43, fd_196_44, h19, nI_eqE]
    by_cases c1 : kC T n k i = 143
    · rw [if_pos (Or.inl c1), if_pos c1] at eu
      have c1' := c1
      simp only [c1, ↓reduceIte]
      try simp -implicitDefEqProofs (disch := first | assumption | omega) only [b_mo_sumUp_29, szS_0, szS_i, szS_r, szS_l, x_cons, x_goto, ob_some, kl_i, kl_r, kl_l, kl_n, push_n, push_s, pop_0, pop_i, pop_r, Int.reduceToNat, List.length_cons, List.length_nil, Nat.reduceAdd, Nat.reduceLeDiff, Nat.zero_add, true_and, nI_n0, nat_le, Nat.add_zero, rt_mo_sumUp_0, rt_mo_sumUp_1, rt_mo_sumUp_b, x_al0, x_call, x_getf, x_goto, x_iceq, x_icne, x_ifne, x_il1, x_iret, x_is1, x_ldc, fd_196_0, fd_196_1, fd_196_2, fd_196_3, fd_196_4, sf_196_4, fd_196_5, sf_196_5, fd_196_6, fd_196_7, fd_196_8, fd_196_9, fd_196_10, fd_196_11, fd_196_12, sf_196_12, fd_196_13, sf_196_13, fd_196_14, sf_196_14, fd_196_15, sf_196_15, fd_196_16, sf_196_16, fd_196_17, sf_196_17, fd_196_18, sf_196_18, fd_196_19, sf_196_19, fd_196_20, sf_196_20, fd_196_21, sf_196_21, fd_196_22, sf_196_22, fd_196_23, sf_196_23, fd_196_24, sf_196_24, fd_196_25, sf_196_25, fd_196_26, sf_196_26, fd_196_27, fd_196_28, fd_196_29, fd_196_30, sf_196_30, fd_196_31, fd_196_32, fd_196_33, fd_196_34, fd_196_35, fd_196_36, fd_196_37, sf_196_37, fd_196_38, fd_196_39, sf_196_39, fd_196_40, sf_196_40, fd_196_41, sf_196_41, fd_196_42, fd_196_43, fd_196_44, h19, c1', nI_eqE, ↓reduceIte]
      exact go 23 (Or.inl rfl) (by omega) eu
    · simp only [c1, ↓reduceIte]
      try simp -implicitDefEqProofs (disch := first | assumption | omega) only [szS_0, szS_i, szS_r, szS_l, x_cons, x_goto, ob_some, kl_i, kl_r, kl_l, kl_n, push_n, push_s, pop_0, pop_i, pop_r, Int.reduceToNat, List.length_cons, List.length_nil, Nat.reduceAdd, Nat.reduceLeDiff, Nat.zero_add, true_and, nI_n0, nat_le, Nat.add_zero, rt_mo_sumUp_0, rt_mo_sumUp_1, rt_mo_sumUp_b, x_al0, x_call, x_getf, x_goto, x_iceq, x_icne, x_ifne, x_il1, x_iret, x_is1, x_ldc, fd_196_0, fd_196_1, fd_196_2, fd_196_3, fd_196_4, sf_196_4, fd_196_5, sf_196_5, fd_196_6, fd_196_7, fd_196_8, fd_196_9, fd_196_10, fd_196_11, fd_196_12, sf_196_12, fd_196_13, sf_196_13, fd_196_14, sf_196_14, fd_196_15, sf_196_15, fd_196_16, sf_196_16, fd_196_17, sf_196_17, fd_196_18, sf_196_18, fd_196_19, sf_196_19, fd_196_20, sf_196_20, fd_196_21, sf_196_21, fd_196_22, sf_196_22, fd_196_23, sf_196_23, fd_196_24, sf_196_24, fd_196_25, sf_196_25, fd_196_26, sf_196_26, fd_196_27, fd_196_28, fd_196_29, fd_196_30, sf_196_30, fd_196_31, fd_196_32, fd_196_33, fd_196_34, fd_196_35, fd_196_36, fd_196_37, sf_196_37, fd_196_38, fd_196_39, sf_196_39, fd_196_40, sf_196_40, fd_196_41, sf_196_41, fd_196_42, fd_196_43, fd_196_44, h19, nI_eqE]
      by_cases c2 : kC T n k i = 145
      · rw [if_pos (Or.inr c2), if_neg c1] at eu
        have c2' := c2
        simp only [c2, ↓reduceIte]
        try simp -implicitDefEqProofs (disch := first | assumption | omega) only [b_mo_sumUp_29, szS_0, szS_i, szS_r, szS_l, x_cons, x_goto, ob_some, kl_i, kl_r, kl_l, kl_n, push_n, push_s, pop_0, pop_i, pop_r, Int.reduceToNat, List.length_cons, List.length_nil, Nat.reduceAdd, Nat.reduceLeDiff, Nat.zero_add, true_and, nI_n0, nat_le, Nat.add_zero, rt_mo_sumUp_0, rt_mo_sumUp_1, rt_mo_sumUp_b, x_al0, x_call, x_getf, x_goto, x_iceq, x_icne, x_ifne, x_il1, x_iret, x_is1, x_ldc, fd_196_0, fd_196_1, fd_196_2, fd_196_3, fd_196_4, sf_196_4, fd_196_5, sf_196_5, fd_196_6, fd_196_7, fd_196_8, fd_196_9, fd_196_10, fd_196_11, fd_196_12, sf_196_12, fd_196_13, sf_196_13, fd_196_14, sf_196_14, fd_196_15, sf_196_15, fd_196_16, sf_196_16, fd_196_17, sf_196_17, fd_196_18, sf_196_18, fd_196_19, sf_196_19, fd_196_20, sf_196_20, fd_196_21, sf_196_21, fd_196_22, sf_196_22, fd_196_23, sf_196_23, fd_196_24, sf_196_24, fd_196_25, sf_196_25, fd_196_26, sf_196_26, fd_196_27, fd_196_28, fd_196_29, fd_196_30, sf_196_30, fd_196_31, fd_196_32, fd_196_33, fd_196_34, fd_196_35, fd_196_36, fd_196_37, sf_196_37, fd_196_38, fd_196_39, sf_196_39, fd_196_40, sf_196_40, fd_196_41, sf_196_41, fd_196_42, fd_196_43, fd_196_44, h19, c2', nI_eqE, Nat.reduceEqDiff, ↓reduceIte, b_mo_sumUp_44]
        exact go 24 (Or.inr rfl) (by omega) eu
      · rw [if_neg (fun h => h.elim c1 c2)] at eu
        simp only [c2, ↓reduceIte]
        try simp -implicitDefEqProofs (disch := first | assumption | omega) only [b_mo_sumUp_69, szS_0, szS_i, szS_r, szS_l, x_cons, x_goto, ob_some, kl_i, kl_r, kl_l, kl_n, push_n, push_s, pop_0, pop_i, pop_r, Int.reduceToNat, List.length_cons, List.length_nil, Nat.reduceAdd, Nat.reduceLeDiff, Nat.zero_add, true_and, nI_n0, nat_le, Nat.add_zero, rt_mo_sumUp_0, rt_mo_sumUp_1, rt_mo_sumUp_b, x_al0, x_call, x_getf, x_goto, x_iceq, x_icne, x_ifne, x_il1, x_iret, x_is1, x_ldc]
        exact HN _ _ g eu (mOK_r h)
theorem s_sumUp (hk0 : 1 ≤ k) : mFn T n k (d + 13) mo_sumUp r (smF T n k) := by
  intro g q P s i h HN HX
  refine in_mo_sumUp rfl ?_
  have n10 : (nI 1 = nI 0) = False := eq_false (by decide)
  have hsi := h.2.2.2.1
  have hn := mIn_n h
  have hk := mIn_k h
  rw [b_mo_sumUp_0]
  simp -implicitDefEqProofs (disch := first | assumption | omega) only [szS_0, szS_i, szS_r, szS_l, x_cons, x_goto, ob_some, kl_i, kl_r, kl_l, kl_n, push_n, push_s, pop_0, pop_i, pop_r, Int.reduceToNat, List.length_cons, List.length_nil, Nat.reduceAdd, Nat.reduceLeDiff, Nat.zero_add, true_and, nI_n0, nat_le, Nat.add_zero, rt_mo_sumUp_0, rt_mo_sumUp_1, rt_mo_sumUp_b, x_al0, x_call, x_getf, x_goto, x_iceq, x_icne, x_ifne, x_il1, x_iret, x_is1, x_ldc]
  refine s_product (d := d) hk0 h (fun l j g2 e o2 => ?_) fun f' j g2 e x2 => ?_
  · have u := pdF_k hk0 hk e
    simp -implicitDefEqProofs (disch := first | assumption | omega) only [szS_0, szS_i, szS_r, szS_l, x_cons, x_goto, ob_some, kl_i, kl_r, kl_l, kl_n, push_n, push_s, pop_0, pop_i, pop_r, Int.reduceToNat, List.length_cons, List.length_nil, Nat.reduceAdd, Nat.reduceLeDiff, Nat.zero_add, true_and, nI_n0, nat_le, Nat.add_zero, rt_mo_sumUp_0, rt_mo_sumUp_1, rt_mo_sumUp_b, x_al0, x_call, x_getf, x_goto, x_iceq, x_icne, x_ifne, x_il1, x_iret, x_is1, x_ldc, n10, ↓reduceIte]
    exact sm_lp hk0 hk hn 401 j _ g2 _ (by omega) (mIn_t h o2 (okR_le hsi u) u.2.1) (fun l' j' g4 e' o4 => HN _ _ g4 ((bd_r e).trans (ap_r e')) (mOK_t o2 o4)) fun f' j' g4 e' x4 => HX _ _ g4 ((bd_r e).trans (ap_l e')) (mX_t o2 x4)
  · simp -implicitDefEqProofs (disch := first | assumption | omega) only [szS_0, szS_i, szS_r, szS_l, x_cons, x_goto, ob_some, kl_i, kl_r, kl_l, kl_n, push_n, push_s, pop_0, pop_i, pop_r, Int.reduceToNat, List.length_cons, List.length_nil, Nat.reduceAdd, Nat.reduceLeDiff, Nat.zero_add, true_and, nI_n0, nat_le, Nat.add_zero, rt_mo_sumUp_0, rt_mo_sumUp_1, rt_mo_sumUp_b, x_al0, x_call, x_getf, x_goto, x_iceq, x_icne, x_ifne, x_il1, x_iret, x_is1, x_ldc, ↓reduceIte]
    exact HX _ _ g2 (bd_l e) x2
theorem me_lp {D : Nat} {F : Nat → Rs} (hF : mFn T n k (d + 10) mo_oneTest r F) (hK : ∀ i l j, F i = .inr (l, j) → okR n k true D i l j) (hk : k < 3) (hn : n ≤ 400) : ∀ (f i s : Nat) (g : Nat → Nat → Int32), n + 1 ≤ i + f → mIn T n k s i r g →
    (∀ l j g', lpL T n k 5 31 F f i = .inr (l, j) → mOK T n k s l j g g' → P (some (.int (nI 1))) (E g' q)) → (∀ f' j g', lpL T n k 5 31 F f i = .inl (f', j) → mX T n f' j g g' → P (some (.int (nI 0))) (E g' q)) →
    wp (ev (d + 10)) P mo_every 9 [some (.ref 196)] [] (E g q) := by
  intro f
  induction f with
  | zero =>
    intro i s g hf h
    have := h.2.2.2.2.1
    omega
  | succ f ih =>
    intro i s g hf h HN HX
    have h19 := h.2.1.2.1
    have hc := kC_sm (T := T) (n := n) (m := i) hk
    have hi := h.2.2.2.2.1
    have hsi := h.2.2.2.1
    have n10 : (nI 1 = nI 0) = False := eq_false (by decide)
    have eu : lpL T n k 5 31 F (f + 1) i = if kC T n k i = 5 then bd (F (i + 1)) fun l j => ap (l ++ [(31, 0)]) (lpL T n k 5 31 F f j) else .inr ([], i) := rfl
    rw [b_mo_every_9]
    simp -implicitDefEqProofs (disch := first | assumption | omega) only [szS_0, szS_i, szS_r, szS_l, x_cons, x_goto, ob_some, kl_i, kl_r, kl_l, kl_n, push_n, push_s, pop_0, pop_i, pop_r, Int.reduceToNat, List.length_cons, List.length_nil, Nat.reduceAdd, Nat.reduceLeDiff, Nat.zero_add, true_and, nI_n0, nat_le, Nat.add_zero, rt_mo_every_0, rt_mo_every_1, rt_mo_every_b, x_al0, x_call, x_getf, x_goto, x_icne, x_ifne, x_iret, x_ldc, fd_196_0, fd_196_1, fd_196_2, fd_196_3, fd_196_4, sf_196_4, fd_196_5, sf_196_5, fd_196_6, fd_196_7, fd_196_8, fd_196_9, fd_196_10, fd_196_11, fd_196_12, sf_196_12, fd_196_13, sf_196_13, fd_196_14, sf_196_14, fd_196_15, sf_196_15, fd_196_16, sf_196_16, fd_196_17, sf_196_17, fd_196_18, sf_196_18, fd_196_19, sf_196_19, fd_196_20, sf_196_20, fd_196_21, sf_196_21, fd_196_22, sf_196_22, fd_196_23, sf_196_23, fd_196_24, sf_196_24, fd_196_25, sf_196_25, fd_196_26, sf_196_26, fd_196_27, fd_196_28, fd_196_29, fd_196_30, sf_196_30, fd_196_31, fd_196_32, fd_196_33, fd_196_34, fd_196_35, fd_196_36, fd_196_37, sf_196_37, fd_196_38, fd_196_39, sf_196_39, fd_196_40, sf_196_40, fd_196_41, sf_196_41, fd_196_42, fd_196_43, fd_196_44, h19, nI_eqE]
    by_cases c1 : kC T n k i = 5
    · rw [if_pos c1] at eu
      simp only [c1, ↓reduceIte]
      have hin := kC_n (T := T) (n := n) (i := i) hk (by omega)
      refine s_nx h fun g1 o1 => ?_
      have h1 := mIn_0 h o1 hin
      simp -implicitDefEqProofs (disch := first | assumption | omega) only [szS_0, szS_i, szS_r, szS_l, x_cons, x_goto, ob_some, kl_i, kl_r, kl_l, kl_n, push_n, push_s, pop_0, pop_i, pop_r, Int.reduceToNat, List.length_cons, List.length_nil, Nat.reduceAdd, Nat.reduceLeDiff, Nat.zero_add, true_and, nI_n0, nat_le, Nat.add_zero, rt_mo_every_0, rt_mo_every_1, rt_mo_every_b, x_al0, x_call, x_getf, x_goto, x_icne, x_ifne, x_iret, x_ldc]
      refine hF h1 (fun l j g2 e o2 => ?_) fun f' j g2 e x2 => ?_
      · have u := hK _ _ _ e
        have h2 := mIn_t h1 o2 (okR_ls hsi u) u.2.1
        have hl := okR_l1 hsi u
        simp -implicitDefEqProofs (disch := first | assumption | omega) only [szS_0, szS_i, szS_r, szS_l, x_cons, x_goto, ob_some, kl_i, kl_r, kl_l, kl_n, push_n, push_s, pop_0, pop_i, pop_r, Int.reduceToNat, List.length_cons, List.length_nil, Nat.reduceAdd, Nat.reduceLeDiff, Nat.zero_add, true_and, nI_n0, nat_le, Nat.add_zero, rt_mo_every_0, rt_mo_every_1, rt_mo_every_b, x_al0, x_call, x_getf, x_goto, x_icne, x_ifne, x_iret, x_ldc, n10, ↓reduceIte, b_mo_every_30]
        refine s_lay (d := d + 9) (o := (31, 0)) h2 (by have := u.2.1; omega) (fun h => absurd h (by decide)) fun g3 o3 => ?_
        simp -implicitDefEqProofs (disch := first | assumption | omega) only [szS_0, szS_i, szS_r, szS_l, x_cons, x_goto, ob_some, kl_i, kl_r, kl_l, kl_n, push_n, push_s, pop_0, pop_i, pop_r, Int.reduceToNat, List.length_cons, List.length_nil, Nat.reduceAdd, Nat.reduceLeDiff, Nat.zero_add, true_and, nI_n0, nat_le, Nat.add_zero, rt_mo_every_0, rt_mo_every_1, rt_mo_every_b, x_al0, x_call, x_getf, x_goto, x_icne, x_ifne, x_iret, x_ldc]
        exact ih j _ g3 (by have := u.1; omega) (mIn_1 h2 o3 hl) (fun l' j' g4 e' o4 => HN _ _ g4 (eu.trans ((bd_r e).trans (ap_r e'))) (mOK_3 (mOK_n o1 o2) o3 o4)) fun f' j' g4 e' x4 => HX _ _ g4 (eu.trans ((bd_r e).trans (ap_l e'))) (mX_t (mOK_t (mOK_n o1 o2) o3) x4)
      · simp -implicitDefEqProofs (disch := first | assumption | omega) only [szS_0, szS_i, szS_r, szS_l, x_cons, x_goto, ob_some, kl_i, kl_r, kl_l, kl_n, push_n, push_s, pop_0, pop_i, pop_r, Int.reduceToNat, List.length_cons, List.length_nil, Nat.reduceAdd, Nat.reduceLeDiff, Nat.zero_add, true_and, nI_n0, nat_le, Nat.add_zero, rt_mo_every_0, rt_mo_every_1, rt_mo_every_b, x_al0, x_call, x_getf, x_goto, x_icne, x_ifne, x_iret, x_ldc, ↓reduceIte]
        exact HX _ _ g2 (eu.trans (bd_l e)) (mX_t o1 x2)
    · rw [if_neg c1] at eu
      simp only [c1, ↓reduceIte]
      try simp -implicitDefEqProofs (disch := first | assumption | omega) only [b_mo_every_40, szS_0, szS_i, szS_r, szS_l, x_cons, x_goto, ob_some, kl_i, kl_r, kl_l, kl_n, push_n, push_s, pop_0, pop_i, pop_r, Int.reduceToNat, List.length_cons, List.length_nil, Nat.reduceAdd, Nat.reduceLeDiff, Nat.zero_add, true_and, nI_n0, nat_le, Nat.add_zero, rt_mo_every_0, rt_mo_every_1, rt_mo_every_b, x_al0, x_call, x_getf, x_goto, x_icne, x_ifne, x_iret, x_ldc]
      exact HN _ _ g eu (mOK_r h)
theorem s_every {D : Nat} {F : Nat → Rs} (hF : mFn T n k (d + 10) mo_oneTest r F) (hK : ∀ i l j, F i = .inr (l, j) → okR n k true D i l j) : mFn T n k (d + 11) mo_every r (evF T n k F) := by
  intro g q P s i h HN HX
  refine in_mo_every rfl ?_
  have n10 : (nI 1 = nI 0) = False := eq_false (by decide)
  have hsi := h.2.2.2.1
  have hn := mIn_n h
  rw [b_mo_every_0]
  simp -implicitDefEqProofs (disch := first | assumption | omega) only [szS_0, szS_i, szS_r, szS_l, x_cons, x_goto, ob_some, kl_i, kl_r, kl_l, kl_n, push_n, push_s, pop_0, pop_i, pop_r, Int.reduceToNat, List.length_cons, List.length_nil, Nat.reduceAdd, Nat.reduceLeDiff, Nat.zero_add, true_and, nI_n0, nat_le, Nat.add_zero, rt_mo_every_0, rt_mo_every_1, rt_mo_every_b, x_al0, x_call, x_getf, x_goto, x_icne, x_ifne, x_iret, x_ldc]
  refine hF h (fun l j g2 e o2 => ?_) fun f' j g2 e x2 => ?_
  · have u := hK _ _ _ e
    simp -implicitDefEqProofs (disch := first | assumption | omega) only [szS_0, szS_i, szS_r, szS_l, x_cons, x_goto, ob_some, kl_i, kl_r, kl_l, kl_n, push_n, push_s, pop_0, pop_i, pop_r, Int.reduceToNat, List.length_cons, List.length_nil, Nat.reduceAdd, Nat.reduceLeDiff, Nat.zero_add, true_and, nI_n0, nat_le, Nat.add_zero, rt_mo_every_0, rt_mo_every_1, rt_mo_every_b, x_al0, x_call, x_getf, x_goto, x_icne, x_ifne, x_iret, x_ldc, n10, ↓reduceIte]
    exact me_lp hF hK (mIn_k h) hn 401 j _ g2 (by omega) (mIn_t h o2 (okR_le hsi u) u.2.1) (fun l' j' g4 e' o4 => HN _ _ g4 ((bd_r e).trans (ap_r e')) (mOK_t o2 o4)) fun f' j' g4 e' x4 => HX _ _ g4 ((bd_r e).trans (ap_l e')) (mX_t o2 x4)
  · simp -implicitDefEqProofs (disch := first | assumption | omega) only [szS_0, szS_i, szS_r, szS_l, x_cons, x_goto, ob_some, kl_i, kl_r, kl_l, kl_n, push_n, push_s, pop_0, pop_i, pop_r, Int.reduceToNat, List.length_cons, List.length_nil, Nat.reduceAdd, Nat.reduceLeDiff, Nat.zero_add, true_and, nI_n0, nat_le, Nat.add_zero, rt_mo_every_0, rt_mo_every_1, rt_mo_every_b, x_al0, x_call, x_getf, x_goto, x_icne, x_ifne, x_iret, x_ldc, ↓reduceIte]
    exact HX _ _ g2 (bd_l e) x2
theorem may_lp {D : Nat} {F : Nat → Rs} (hF : mFn T n k (d + 10) mo_every r F) (hK : ∀ i l j, F i = .inr (l, j) → okR n k true D i l j) (hk : k < 3) (hn : n ≤ 400) : ∀ (f i s : Nat) (g : Nat → Nat → Int32), n + 1 ≤ i + f → mIn T n k s i r g →
    (∀ l j g', lpL T n k 4 32 F f i = .inr (l, j) → mOK T n k s l j g g' → P (some (.int (nI 1))) (E g' q)) → (∀ f' j g', lpL T n k 4 32 F f i = .inl (f', j) → mX T n f' j g g' → P (some (.int (nI 0))) (E g' q)) →
    wp (ev (d + 10)) P mo_any 9 [some (.ref 196)] [] (E g q) := by
  intro f
  induction f with
  | zero =>
    intro i s g hf h
    have := h.2.2.2.2.1
    omega
  | succ f ih =>
    intro i s g hf h HN HX
    have h19 := h.2.1.2.1
    have hc := kC_sm (T := T) (n := n) (m := i) hk
    have hi := h.2.2.2.2.1
    have hsi := h.2.2.2.1
    have n10 : (nI 1 = nI 0) = False := eq_false (by decide)
    have eu : lpL T n k 4 32 F (f + 1) i = if kC T n k i = 4 then bd (F (i + 1)) fun l j => ap (l ++ [(32, 0)]) (lpL T n k 4 32 F f j) else .inr ([], i) := rfl
    rw [b_mo_any_9]
    simp -implicitDefEqProofs (disch := first | assumption | omega) only [szS_0, szS_i, szS_r, szS_l, x_cons, x_goto, ob_some, kl_i, kl_r, kl_l, kl_n, push_n, push_s, pop_0, pop_i, pop_r, Int.reduceToNat, List.length_cons, List.length_nil, Nat.reduceAdd, Nat.reduceLeDiff, Nat.zero_add, true_and, nI_n0, nat_le, Nat.add_zero, rt_mo_any_0, rt_mo_any_1, rt_mo_any_b, x_al0, x_call, x_getf, x_goto, x_icne, x_ifne, x_iret, x_ldc, fd_196_0, fd_196_1, fd_196_2, fd_196_3, fd_196_4, sf_196_4, fd_196_5, sf_196_5, fd_196_6, fd_196_7, fd_196_8, fd_196_9, fd_196_10, fd_196_11, fd_196_12, sf_196_12, fd_196_13, sf_196_13, fd_196_14, sf_196_14, fd_196_15, sf_196_15, fd_196_16, sf_196_16, fd_196_17, sf_196_17, fd_196_18, sf_196_18, fd_196_19, sf_196_19, fd_196_20, sf_196_20, fd_196_21, sf_196_21, fd_196_22, sf_196_22, fd_196_23, sf_196_23, fd_196_24, sf_196_24, fd_196_25, sf_196_25, fd_196_26, sf_196_26, fd_196_27, fd_196_28, fd_196_29, fd_196_30, sf_196_30, fd_196_31, fd_196_32, fd_196_33, fd_196_34, fd_196_35, fd_196_36, fd_196_37, sf_196_37, fd_196_38, fd_196_39, sf_196_39, fd_196_40, sf_196_40, fd_196_41, sf_196_41, fd_196_42, fd_196_43, fd_196_44, h19, nI_eqE]
    by_cases c1 : kC T n k i = 4
    · rw [if_pos c1] at eu
      simp only [c1, ↓reduceIte]
      have hin := kC_n (T := T) (n := n) (i := i) hk (by omega)
      refine s_nx h fun g1 o1 => ?_
      have h1 := mIn_0 h o1 hin
      simp -implicitDefEqProofs (disch := first | assumption | omega) only [szS_0, szS_i, szS_r, szS_l, x_cons, x_goto, ob_some, kl_i, kl_r, kl_l, kl_n, push_n, push_s, pop_0, pop_i, pop_r, Int.reduceToNat, List.length_cons, List.length_nil, Nat.reduceAdd, Nat.reduceLeDiff, Nat.zero_add, true_and, nI_n0, nat_le, Nat.add_zero, rt_mo_any_0, rt_mo_any_1, rt_mo_any_b, x_al0, x_call, x_getf, x_goto, x_icne, x_ifne, x_iret, x_ldc]
      refine hF h1 (fun l j g2 e o2 => ?_) fun f' j g2 e x2 => ?_
      · have u := hK _ _ _ e
        have h2 := mIn_t h1 o2 (okR_ls hsi u) u.2.1
        have hl := okR_l1 hsi u
        simp -implicitDefEqProofs (disch := first | assumption | omega) only [szS_0, szS_i, szS_r, szS_l, x_cons, x_goto, ob_some, kl_i, kl_r, kl_l, kl_n, push_n, push_s, pop_0, pop_i, pop_r, Int.reduceToNat, List.length_cons, List.length_nil, Nat.reduceAdd, Nat.reduceLeDiff, Nat.zero_add, true_and, nI_n0, nat_le, Nat.add_zero, rt_mo_any_0, rt_mo_any_1, rt_mo_any_b, x_al0, x_call, x_getf, x_goto, x_icne, x_ifne, x_iret, x_ldc, n10, ↓reduceIte, b_mo_any_30]
        refine s_lay (d := d + 9) (o := (32, 0)) h2 (by have := u.2.1; omega) (fun h => absurd h (by decide)) fun g3 o3 => ?_
        simp -implicitDefEqProofs (disch := first | assumption | omega) only [szS_0, szS_i, szS_r, szS_l, x_cons, x_goto, ob_some, kl_i, kl_r, kl_l, kl_n, push_n, push_s, pop_0, pop_i, pop_r, Int.reduceToNat, List.length_cons, List.length_nil, Nat.reduceAdd, Nat.reduceLeDiff, Nat.zero_add, true_and, nI_n0, nat_le, Nat.add_zero, rt_mo_any_0, rt_mo_any_1, rt_mo_any_b, x_al0, x_call, x_getf, x_goto, x_icne, x_ifne, x_iret, x_ldc]
        exact ih j _ g3 (by have := u.1; omega) (mIn_1 h2 o3 hl) (fun l' j' g4 e' o4 => HN _ _ g4 (eu.trans ((bd_r e).trans (ap_r e'))) (mOK_3 (mOK_n o1 o2) o3 o4)) fun f' j' g4 e' x4 => HX _ _ g4 (eu.trans ((bd_r e).trans (ap_l e'))) (mX_t (mOK_t (mOK_n o1 o2) o3) x4)
      · simp -implicitDefEqProofs (disch := first | assumption | omega) only [szS_0, szS_i, szS_r, szS_l, x_cons, x_goto, ob_some, kl_i, kl_r, kl_l, kl_n, push_n, push_s, pop_0, pop_i, pop_r, Int.reduceToNat, List.length_cons, List.length_nil, Nat.reduceAdd, Nat.reduceLeDiff, Nat.zero_add, true_and, nI_n0, nat_le, Nat.add_zero, rt_mo_any_0, rt_mo_any_1, rt_mo_any_b, x_al0, x_call, x_getf, x_goto, x_icne, x_ifne, x_iret, x_ldc, ↓reduceIte]
        exact HX _ _ g2 (eu.trans (bd_l e)) (mX_t o1 x2)
    · rw [if_neg c1] at eu
      simp only [c1, ↓reduceIte]
      try simp -implicitDefEqProofs (disch := first | assumption | omega) only [b_mo_any_40, szS_0, szS_i, szS_r, szS_l, x_cons, x_goto, ob_some, kl_i, kl_r, kl_l, kl_n, push_n, push_s, pop_0, pop_i, pop_r, Int.reduceToNat, List.length_cons, List.length_nil, Nat.reduceAdd, Nat.reduceLeDiff, Nat.zero_add, true_and, nI_n0, nat_le, Nat.add_zero, rt_mo_any_0, rt_mo_any_1, rt_mo_any_b, x_al0, x_call, x_getf, x_goto, x_icne, x_ifne, x_iret, x_ldc]
      exact HN _ _ g eu (mOK_r h)
theorem s_any {D : Nat} {F : Nat → Rs} (hF : mFn T n k (d + 10) mo_every r F) (hK : ∀ i l j, F i = .inr (l, j) → okR n k true D i l j) : mFn T n k (d + 11) mo_any r (lpF T n k 4 32 F) := by
  intro g q P s i h HN HX
  refine in_mo_any rfl ?_
  have n10 : (nI 1 = nI 0) = False := eq_false (by decide)
  have hsi := h.2.2.2.1
  have hn := mIn_n h
  rw [b_mo_any_0]
  simp -implicitDefEqProofs (disch := first | assumption | omega) only [szS_0, szS_i, szS_r, szS_l, x_cons, x_goto, ob_some, kl_i, kl_r, kl_l, kl_n, push_n, push_s, pop_0, pop_i, pop_r, Int.reduceToNat, List.length_cons, List.length_nil, Nat.reduceAdd, Nat.reduceLeDiff, Nat.zero_add, true_and, nI_n0, nat_le, Nat.add_zero, rt_mo_any_0, rt_mo_any_1, rt_mo_any_b, x_al0, x_call, x_getf, x_goto, x_icne, x_ifne, x_iret, x_ldc]
  refine hF h (fun l j g2 e o2 => ?_) fun f' j g2 e x2 => ?_
  · have u := hK _ _ _ e
    simp -implicitDefEqProofs (disch := first | assumption | omega) only [szS_0, szS_i, szS_r, szS_l, x_cons, x_goto, ob_some, kl_i, kl_r, kl_l, kl_n, push_n, push_s, pop_0, pop_i, pop_r, Int.reduceToNat, List.length_cons, List.length_nil, Nat.reduceAdd, Nat.reduceLeDiff, Nat.zero_add, true_and, nI_n0, nat_le, Nat.add_zero, rt_mo_any_0, rt_mo_any_1, rt_mo_any_b, x_al0, x_call, x_getf, x_goto, x_icne, x_ifne, x_iret, x_ldc, n10, ↓reduceIte]
    exact may_lp hF hK (mIn_k h) hn 401 j _ g2 (by omega) (mIn_t h o2 (okR_le hsi u) u.2.1) (fun l' j' g4 e' o4 => HN _ _ g4 ((bd_r e).trans (ap_r e')) (mOK_t o2 o4)) fun f' j' g4 e' x4 => HX _ _ g4 ((bd_r e).trans (ap_l e')) (mX_t o2 x4)
  · simp -implicitDefEqProofs (disch := first | assumption | omega) only [szS_0, szS_i, szS_r, szS_l, x_cons, x_goto, ob_some, kl_i, kl_r, kl_l, kl_n, push_n, push_s, pop_0, pop_i, pop_r, Int.reduceToNat, List.length_cons, List.length_nil, Nat.reduceAdd, Nat.reduceLeDiff, Nat.zero_add, true_and, nI_n0, nat_le, Nat.add_zero, rt_mo_any_0, rt_mo_any_1, rt_mo_any_b, x_al0, x_call, x_getf, x_goto, x_icne, x_ifne, x_iret, x_ldc, ↓reduceIte]
    exact HX _ _ g2 (bd_l e) x2
theorem mIn_d {v : Nat} (h : mIn T n k s i r g) (hv : v ≤ 8) : mIn T n k s i v (upw g 196 (pu (g 196) 25 (nI (8 - v)))) :=
  ⟨TT_f h.1 (upw_o (by decide)) (by rw [upw_s, pu_n (by decide)]) (by rw [upw_s, pu_n (by decide)]), mT_f h.2.1 (by rw [upw_s, pu_n (by decide)]) (by rw [upw_s, pu_n (by decide)]) (by rw [upw_s, pu_n (by decide)]) (by rw [upw_s, pu_n (by decide)]), by rw [upw_s, pu_n (by decide)]; exact h.2.2.1, h.2.2.2.1, h.2.2.2.2.1, by rw [upw_s, pu_s], hv⟩
theorem mOK_d {l : List (Nat × Nat)} {j : Nat} {v v0 : Int32} {g2 : Nat → Nat → Int32} (h : mOK T n k s l j (upw g 196 (pu (g 196) 25 v)) g2) (h0 : g 196 25 = v0) : mOK T n k s l j g (upw g2 196 (pu (g2 196) 25 v0)) := by
  obtain ⟨a1, a2, a3, a4, a5, a6⟩ := h
  refine ⟨⟨fun b b1 b2 => by rw [upw_o b1, a1.1 b b1 b2, upw_o b1], fun x hx => ?_⟩, mT_f a2 (by rw [upw_s, pu_n (by decide)]) (by rw [upw_s, pu_n (by decide)]) (by rw [upw_s, pu_n (by decide)]) (by rw [upw_s, pu_n (by decide)]), by rw [upw_s, pu_n (by decide)]; exact a3, by rw [upw_s, pu_s, h0], by rw [upw_o (by decide)]; exact a5, fun x hx => by rw [upw_o (by decide), a6 x hx, upw_o (by decide)]⟩
  have e : x ≠ 25 := fun e => hx (by rw [e]; decide)
  rw [upw_s, pu_n e, a1.2 x hx, upw_s, pu_n e]
theorem mX_d {f j : Nat} {v : Int32} {g2 : Nat → Nat → Int32} (h : mX T n f j (upw g 196 (pu (g 196) 25 v)) g2) : mX T n f j g g2 := by
  obtain ⟨a1, a2⟩ := h
  refine ⟨⟨fun b b1 b2 => by rw [a1.1 b b1 b2, upw_o b1], fun x hx => ?_⟩, a2⟩
  rw [a1.2 x hx, upw_s, pu_n (fun e => hx (by rw [e]; decide))]
theorem s_opens0 (h : mIn T n k s i 0 g) (HX : ∀ g', mX T n 3 i g g' → P (some (.int (nI 0))) (E g' q)) : callC (ev (d + 11)) mo_opens [.ref 196] (E g q) P := by
  refine in_mo_opens rfl ?_
  have h25 : g 196 25 = nI 8 := h.2.2.2.2.2.1
  rw [b_mo_opens_0]
  simp -implicitDefEqProofs (disch := first | assumption | omega) only [szS_0, szS_i, szS_r, szS_l, x_cons, x_goto, ob_some, kl_i, kl_r, kl_l, kl_n, push_n, push_s, pop_0, pop_i, pop_r, Int.reduceToNat, List.length_cons, List.length_nil, Nat.reduceAdd, Nat.reduceLeDiff, Nat.zero_add, true_and, nI_n0, nat_le, Nat.add_zero, rt_mo_opens_0, rt_mo_opens_1, rt_mo_opens_b, x_al0, x_call, x_dupi, x_dupr, x_getf, x_iadd, x_icne, x_iret, x_ldc, x_putf, fd_196_0, fd_196_1, fd_196_2, fd_196_3, fd_196_4, sf_196_4, fd_196_5, sf_196_5, fd_196_6, fd_196_7, fd_196_8, fd_196_9, fd_196_10, fd_196_11, fd_196_12, sf_196_12, fd_196_13, sf_196_13, fd_196_14, sf_196_14, fd_196_15, sf_196_15, fd_196_16, sf_196_16, fd_196_17, sf_196_17, fd_196_18, sf_196_18, fd_196_19, sf_196_19, fd_196_20, sf_196_20, fd_196_21, sf_196_21, fd_196_22, sf_196_22, fd_196_23, sf_196_23, fd_196_24, sf_196_24, fd_196_25, sf_196_25, fd_196_26, sf_196_26, fd_196_27, fd_196_28, fd_196_29, fd_196_30, sf_196_30, fd_196_31, fd_196_32, fd_196_33, fd_196_34, fd_196_35, fd_196_36, fd_196_37, sf_196_37, fd_196_38, fd_196_39, sf_196_39, fd_196_40, sf_196_40, fd_196_41, sf_196_41, fd_196_42, fd_196_43, fd_196_44, h25, ↓reduceIte]
  refine s_mbad (d := d + 9) h.2.1 fun g2 x2 => ?_
  simp -implicitDefEqProofs (disch := first | assumption | omega) only [szS_0, szS_i, szS_r, szS_l, x_cons, x_goto, ob_some, kl_i, kl_r, kl_l, kl_n, push_n, push_s, pop_0, pop_i, pop_r, Int.reduceToNat, List.length_cons, List.length_nil, Nat.reduceAdd, Nat.reduceLeDiff, Nat.zero_add, true_and, nI_n0, nat_le, Nat.add_zero, rt_mo_opens_0, rt_mo_opens_1, rt_mo_opens_b, x_al0, x_call, x_dupi, x_dupr, x_getf, x_iadd, x_icne, x_iret, x_ldc, x_putf]
  exact HX g2 x2
theorem s_opens (h : mIn T n k s i (r + 1) g) (HN : ∀ g', mOK T n k s [] (i + 1) (upw g 196 (pu (g 196) 25 (nI (8 - r)))) g' → P (some (.int (nI 1))) (E g' q)) : callC (ev (d + 11)) mo_opens [.ref 196] (E g q) P := by
  refine in_mo_opens rfl ?_
  have h25 := h.2.2.2.2.2.1
  have hr := h.2.2.2.2.2.2
  have n8 : ¬ 8 - (r + 1) = 8 := by omega
  have e8 : 8 - (r + 1) + 1 = 8 - r := by omega
  rw [b_mo_opens_0]
  simp -implicitDefEqProofs (disch := first | assumption | omega) only [szS_0, szS_i, szS_r, szS_l, x_cons, x_goto, ob_some, kl_i, kl_r, kl_l, kl_n, push_n, push_s, pop_0, pop_i, pop_r, Int.reduceToNat, List.length_cons, List.length_nil, Nat.reduceAdd, Nat.reduceLeDiff, Nat.zero_add, true_and, nI_n0, nat_le, Nat.add_zero, rt_mo_opens_0, rt_mo_opens_1, rt_mo_opens_b, x_al0, x_call, x_dupi, x_dupr, x_getf, x_iadd, x_icne, x_iret, x_ldc, x_putf, fd_196_0, fd_196_1, fd_196_2, fd_196_3, fd_196_4, sf_196_4, fd_196_5, sf_196_5, fd_196_6, fd_196_7, fd_196_8, fd_196_9, fd_196_10, fd_196_11, fd_196_12, sf_196_12, fd_196_13, sf_196_13, fd_196_14, sf_196_14, fd_196_15, sf_196_15, fd_196_16, sf_196_16, fd_196_17, sf_196_17, fd_196_18, sf_196_18, fd_196_19, sf_196_19, fd_196_20, sf_196_20, fd_196_21, sf_196_21, fd_196_22, sf_196_22, fd_196_23, sf_196_23, fd_196_24, sf_196_24, fd_196_25, sf_196_25, fd_196_26, sf_196_26, fd_196_27, fd_196_28, fd_196_29, fd_196_30, sf_196_30, fd_196_31, fd_196_32, fd_196_33, fd_196_34, fd_196_35, fd_196_36, fd_196_37, sf_196_37, fd_196_38, fd_196_39, sf_196_39, fd_196_40, sf_196_40, fd_196_41, sf_196_41, fd_196_42, fd_196_43, fd_196_44, h25, nI_eqE, n8, ↓reduceIte, b_mo_opens_15, nI_add, e8, pu_g]
  refine s_nx (mIn_d h (show r ≤ 8 by omega)) fun g1 o1 => ?_
  simp -implicitDefEqProofs (disch := first | assumption | omega) only [szS_0, szS_i, szS_r, szS_l, x_cons, x_goto, ob_some, kl_i, kl_r, kl_l, kl_n, push_n, push_s, pop_0, pop_i, pop_r, Int.reduceToNat, List.length_cons, List.length_nil, Nat.reduceAdd, Nat.reduceLeDiff, Nat.zero_add, true_and, nI_n0, nat_le, Nat.add_zero, rt_mo_opens_0, rt_mo_opens_1, rt_mo_opens_b, x_al0, x_call, x_dupi, x_dupr, x_getf, x_iadd, x_icne, x_iret, x_ldc, x_putf]
  exact HN g1 o1
theorem s_mcmp (hk0 : 1 ≤ k) (h : mIn T n k s i r g) (HN : ∀ l j g', cmF_ T n k i = .inr (l, j) → mOK T n k s l j g g' → P (some (.int (nI 1))) (E g' q)) (HX : ∀ f j g', cmF_ T n k i = .inl (f, j) → mX T n f j g g' → P (some (.int (nI 0))) (E g' q)) :
    wp (ev (d + 13)) P mo_oneTest 92 [some (.ref 196), none] [] (E g q) := by
  have n10 : (nI 1 = nI 0) = False := eq_false (by decide)
  have hsi := h.2.2.2.1
  have hn := mIn_n h
  have hk := mIn_k h
  rw [b_mo_oneTest_92]
  simp -implicitDefEqProofs (disch := first | assumption | omega) only [szS_0, szS_i, szS_r, szS_l, x_cons, x_goto, ob_some, kl_i, kl_r, kl_l, kl_n, push_n, push_s, pop_0, pop_i, pop_r, Int.reduceToNat, List.length_cons, List.length_nil, Nat.reduceAdd, Nat.reduceLeDiff, Nat.zero_add, true_and, nI_n0, nat_le, Nat.add_zero, rt_mo_oneTest_0, rt_mo_oneTest_1, rt_mo_oneTest_b, x_al0, x_call, x_dupi, x_dupr, x_getf, x_goto, x_icne, x_ifeq, x_ifne, x_il1, x_iret, x_is1, x_isub, x_ldc, x_m1, x_putf]
  refine s_sumUp hk0 h (fun l j g1 e o1 => ?_) fun f' j g1 e x1 => ?_
  · have u := smF_k hk0 hk e
    have h1 := mIn_t h o1 (okR_le hsi u) u.2.1
    have k19 := h1.2.1.2.1
    have hc := kC_sm (T := T) (n := n) (m := j) hk
    have eu : cmF_ T n k i = if 160 ≤ kC T n k j ∧ kC T n k j ≤ 162 then bd (smF T n k (j + 1)) fun l2 j2 => .inr (l ++ l2 ++ [(kC T n k j - 133, 0)], j2) else .inl (1, j) := bd_r e
    have go : ∀ o : Nat, 160 ≤ kC T n k j → kC T n k j ≤ 162 → kC T n k j - 133 = o → wp (ev (d + 13)) P mo_oneTest 147 [some (.ref 196), none] [.int (nI o)] (E g1 q) := by
      intro o c1 c2 ho
      rw [if_pos ⟨c1, c2⟩] at eu
      have nm : (nI o = -1) = False := nI_m1 (by omega)
      have hjn := kC_n (T := T) (n := n) (i := j) hk (by omega)
      rw [b_mo_oneTest_147]
      simp -implicitDefEqProofs (disch := first | assumption | omega) only [szS_0, szS_i, szS_r, szS_l, x_cons, x_goto, ob_some, kl_i, kl_r, kl_l, kl_n, push_n, push_s, pop_0, pop_i, pop_r, Int.reduceToNat, List.length_cons, List.length_nil, Nat.reduceAdd, Nat.reduceLeDiff, Nat.zero_add, true_and, nI_n0, nat_le, Nat.add_zero, rt_mo_oneTest_0, rt_mo_oneTest_1, rt_mo_oneTest_b, x_al0, x_call, x_dupi, x_dupr, x_getf, x_goto, x_icne, x_ifeq, x_ifne, x_il1, x_iret, x_is1, x_isub, x_ldc, x_m1, x_putf, nm, ↓reduceIte, b_mo_oneTest_159]
      refine s_nx (d := d + 3) h1 fun g2 o2 => ?_
      have h2 := mIn_0 h1 o2 hjn
      simp -implicitDefEqProofs (disch := first | assumption | omega) only [szS_0, szS_i, szS_r, szS_l, x_cons, x_goto, ob_some, kl_i, kl_r, kl_l, kl_n, push_n, push_s, pop_0, pop_i, pop_r, Int.reduceToNat, List.length_cons, List.length_nil, Nat.reduceAdd, Nat.reduceLeDiff, Nat.zero_add, true_and, nI_n0, nat_le, Nat.add_zero, rt_mo_oneTest_0, rt_mo_oneTest_1, rt_mo_oneTest_b, x_al0, x_call, x_dupi, x_dupr, x_getf, x_goto, x_icne, x_ifeq, x_ifne, x_il1, x_iret, x_is1, x_isub, x_ldc, x_m1, x_putf]
      refine s_sumUp hk0 h2 (fun l' j' g3 e' o3 => ?_) fun f' j' g3 e' x3 => ?_
      · have u' := smF_k hk0 hk e'
        have ls := h1.2.2.2.1
        have h3 := mIn_t h2 o3 (okR_ls ls u') u'.2.1
        have hl := okR_l1 ls u'
        simp -implicitDefEqProofs (disch := first | assumption | omega) only [szS_0, szS_i, szS_r, szS_l, x_cons, x_goto, ob_some, kl_i, kl_r, kl_l, kl_n, push_n, push_s, pop_0, pop_i, pop_r, Int.reduceToNat, List.length_cons, List.length_nil, Nat.reduceAdd, Nat.reduceLeDiff, Nat.zero_add, true_and, nI_n0, nat_le, Nat.add_zero, rt_mo_oneTest_0, rt_mo_oneTest_1, rt_mo_oneTest_b, x_al0, x_call, x_dupi, x_dupr, x_getf, x_goto, x_icne, x_ifeq, x_ifne, x_il1, x_iret, x_is1, x_isub, x_ldc, x_m1, x_putf, n10, ↓reduceIte, b_mo_oneTest_172]
        refine s_lay (d := d + 12) (o := (o, 0)) h3 (by have := u'.2.1; omega) (fun h => absurd h (by show ¬ (o = 0 ∨ o = 26); omega)) fun g4 o4 => ?_
        simp -implicitDefEqProofs (disch := first | assumption | omega) only [szS_0, szS_i, szS_r, szS_l, x_cons, x_goto, ob_some, kl_i, kl_r, kl_l, kl_n, push_n, push_s, pop_0, pop_i, pop_r, Int.reduceToNat, List.length_cons, List.length_nil, Nat.reduceAdd, Nat.reduceLeDiff, Nat.zero_add, true_and, nI_n0, nat_le, Nat.add_zero, rt_mo_oneTest_0, rt_mo_oneTest_1, rt_mo_oneTest_b, x_al0, x_call, x_dupi, x_dupr, x_getf, x_goto, x_icne, x_ifeq, x_ifne, x_il1, x_iret, x_is1, x_isub, x_ldc, x_m1, x_putf]
        rw [bd_r e', ho] at eu
        exact HN _ _ g4 (eu.trans (by rw [List.append_assoc])) (mOK_t o1 (mOK_t (mOK_n o2 o3) o4))
      · simp -implicitDefEqProofs (disch := first | assumption | omega) only [szS_0, szS_i, szS_r, szS_l, x_cons, x_goto, ob_some, kl_i, kl_r, kl_l, kl_n, push_n, push_s, pop_0, pop_i, pop_r, Int.reduceToNat, List.length_cons, List.length_nil, Nat.reduceAdd, Nat.reduceLeDiff, Nat.zero_add, true_and, nI_n0, nat_le, Nat.add_zero, rt_mo_oneTest_0, rt_mo_oneTest_1, rt_mo_oneTest_b, x_al0, x_call, x_dupi, x_dupr, x_getf, x_goto, x_icne, x_ifeq, x_ifne, x_il1, x_iret, x_is1, x_isub, x_ldc, x_m1, x_putf, ↓reduceIte]
        exact HX _ _ g3 (eu.trans (bd_l e')) (mX_t (mOK_t o1 o2) x3)
    simp -implicitDefEqProofs (disch := first | assumption | omega) only [szS_0, szS_i, szS_r, szS_l, x_cons, x_goto, ob_some, kl_i, kl_r, kl_l, kl_n, push_n, push_s, pop_0, pop_i, pop_r, Int.reduceToNat, List.length_cons, List.length_nil, Nat.reduceAdd, Nat.reduceLeDiff, Nat.zero_add, true_and, nI_n0, nat_le, Nat.add_zero, rt_mo_oneTest_0, rt_mo_oneTest_1, rt_mo_oneTest_b, x_al0, x_call, x_dupi, x_dupr, x_getf, x_goto, x_icne, x_ifeq, x_ifne, x_il1, x_iret, x_is1, x_isub, x_ldc, x_m1, x_putf, n10, ↓reduceIte, b_mo_oneTest_101, fd_196_0, fd_196_1, fd_196_2, fd_196_3, fd_196_4, sf_196_4, fd_196_5, sf_196_5, fd_196_6, fd_196_7, fd_196_8, fd_196_9, fd_196_10, fd_196_11, fd_196_12, sf_196_12, fd_196_13, sf_196_13, fd_196_14, sf_196_14, fd_196_15, sf_196_15, fd_196_16, sf_196_16, fd_196_17, sf_196_17, fd_196_18, sf_196_18, fd_196_19, sf_196_19, fd_196_20, sf_196_20, fd_196_21, sf_196_21, fd_196_22, sf_196_22, fd_196_23, sf_196_23, fd_196_24, sf_196_24, fd_196_25, sf_196_25, fd_196_26, sf_196_26, fd_196_27, fd_196_28, fd_196_29, fd_196_30, sf_196_30, fd_196_31, fd_196_32, fd_196_33, fd_196_34, fd_196_35, fd_196_36, fd_196_37, sf_196_37, fd_196_38, fd_196_39, sf_196_39, fd_196_40, sf_196_40, fd_196_41, sf_196_41, fd_196_42, fd_196_43, fd_196_44, k19, nI_eqE]
    by_cases c1 : kC T n k j = 160
    · simp only [c1, ↓reduceIte]
      try simp -implicitDefEqProofs (disch := first | assumption | omega) only [szS_0, szS_i, szS_r, szS_l, x_cons, x_goto, ob_some, kl_i, kl_r, kl_l, kl_n, push_n, push_s, pop_0, pop_i, pop_r, Int.reduceToNat, List.length_cons, List.length_nil, Nat.reduceAdd, Nat.reduceLeDiff, Nat.zero_add, true_and, nI_n0, nat_le, Nat.add_zero, rt_mo_oneTest_0, rt_mo_oneTest_1, rt_mo_oneTest_b, x_al0, x_call, x_dupi, x_dupr, x_getf, x_goto, x_icne, x_ifeq, x_ifne, x_il1, x_iret, x_is1, x_isub, x_ldc, x_m1, x_putf]
      exact go 27 (by omega) (by omega) (by omega)
    · simp only [c1, ↓reduceIte]
      try simp -implicitDefEqProofs (disch := first | assumption | omega) only [b_mo_oneTest_116, szS_0, szS_i, szS_r, szS_l, x_cons, x_goto, ob_some, kl_i, kl_r, kl_l, kl_n, push_n, push_s, pop_0, pop_i, pop_r, Int.reduceToNat, List.length_cons, List.length_nil, Nat.reduceAdd, Nat.reduceLeDiff, Nat.zero_add, true_and, nI_n0, nat_le, Nat.add_zero, rt_mo_oneTest_0, rt_mo_oneTest_1, rt_mo_oneTest_b, x_al0, x_call, x_dupi, x_dupr, x_getf, x_goto, x_icne, x_ifeq, x_ifne, x_il1, x_iret, x_is1, x_isub, x_ldc, x_m1, x_putf, fd_196_0, fd_196_1, fd_196_2, fd_196_3, fd_196_4, sf_196_4, fd_196_5, sf_196_5, fd_196_6, fd_196_7, fd_196_8, fd_196_9, fd_196_10, fd_196_11, fd_196_12, sf_196_12, fd_196_13, sf_196_13, fd_196_14, sf_196_14, fd_196_15, sf_196_15, fd_196_16, sf_196_16, fd_196_17, sf_196_17, fd_196_18, sf_196_18, fd_196_19, sf_196_19, fd_196_20, sf_196_20, fd_196_21, sf_196_21, fd_196_22, sf_196_22, fd_196_23, sf_196_23, fd_196_24, sf_196_24, fd_196_25, sf_196_25, fd_196_26, sf_196_26, fd_196_27, fd_196_28, fd_196_29, fd_196_30, sf_196_30, fd_196_31, fd_196_32, fd_196_33, fd_196_34, fd_196_35, fd_196_36, fd_196_37, sf_196_37, fd_196_38, fd_196_39, sf_196_39, fd_196_40, sf_196_40, fd_196_41, sf_196_41, fd_196_42, fd_196_43, fd_196_44, k19, nI_eqE]
      by_cases c2 : kC T n k j = 161
      · simp only [c2, ↓reduceIte]
        try simp -implicitDefEqProofs (disch := first | assumption | omega) only [szS_0, szS_i, szS_r, szS_l, x_cons, x_goto, ob_some, kl_i, kl_r, kl_l, kl_n, push_n, push_s, pop_0, pop_i, pop_r, Int.reduceToNat, List.length_cons, List.length_nil, Nat.reduceAdd, Nat.reduceLeDiff, Nat.zero_add, true_and, nI_n0, nat_le, Nat.add_zero, rt_mo_oneTest_0, rt_mo_oneTest_1, rt_mo_oneTest_b, x_al0, x_call, x_dupi, x_dupr, x_getf, x_goto, x_icne, x_ifeq, x_ifne, x_il1, x_iret, x_is1, x_isub, x_ldc, x_m1, x_putf]
        exact go 28 (by omega) (by omega) (by omega)
      · simp only [c2, ↓reduceIte]
        try simp -implicitDefEqProofs (disch := first | assumption | omega) only [b_mo_oneTest_131, szS_0, szS_i, szS_r, szS_l, x_cons, x_goto, ob_some, kl_i, kl_r, kl_l, kl_n, push_n, push_s, pop_0, pop_i, pop_r, Int.reduceToNat, List.length_cons, List.length_nil, Nat.reduceAdd, Nat.reduceLeDiff, Nat.zero_add, true_and, nI_n0, nat_le, Nat.add_zero, rt_mo_oneTest_0, rt_mo_oneTest_1, rt_mo_oneTest_b, x_al0, x_call, x_dupi, x_dupr, x_getf, x_goto, x_icne, x_ifeq, x_ifne, x_il1, x_iret, x_is1, x_isub, x_ldc, x_m1, x_putf, fd_196_0, fd_196_1, fd_196_2, fd_196_3, fd_196_4, sf_196_4, fd_196_5, sf_196_5, fd_196_6, fd_196_7, fd_196_8, fd_196_9, fd_196_10, fd_196_11, fd_196_12, sf_196_12, fd_196_13, sf_196_13, fd_196_14, sf_196_14, fd_196_15, sf_196_15, fd_196_16, sf_196_16, fd_196_17, sf_196_17, fd_196_18, sf_196_18, fd_196_19, sf_196_19, fd_196_20, sf_196_20, fd_196_21, sf_196_21, fd_196_22, sf_196_22, fd_196_23, sf_196_23, fd_196_24, sf_196_24, fd_196_25, sf_196_25, fd_196_26, sf_196_26, fd_196_27, fd_196_28, fd_196_29, fd_196_30, sf_196_30, fd_196_31, fd_196_32, fd_196_33, fd_196_34, fd_196_35, fd_196_36, fd_196_37, sf_196_37, fd_196_38, fd_196_39, sf_196_39, fd_196_40, sf_196_40, fd_196_41, sf_196_41, fd_196_42, fd_196_43, fd_196_44, k19, nI_eqE]
        by_cases c3 : kC T n k j = 162
        · simp only [c3, ↓reduceIte]
          try simp -implicitDefEqProofs (disch := first | assumption | omega) only [szS_0, szS_i, szS_r, szS_l, x_cons, x_goto, ob_some, kl_i, kl_r, kl_l, kl_n, push_n, push_s, pop_0, pop_i, pop_r, Int.reduceToNat, List.length_cons, List.length_nil, Nat.reduceAdd, Nat.reduceLeDiff, Nat.zero_add, true_and, nI_n0, nat_le, Nat.add_zero, rt_mo_oneTest_0, rt_mo_oneTest_1, rt_mo_oneTest_b, x_al0, x_call, x_dupi, x_dupr, x_getf, x_goto, x_icne, x_ifeq, x_ifne, x_il1, x_iret, x_is1, x_isub, x_ldc, x_m1, x_putf]
          exact go 29 (by omega) (by omega) (by omega)
        · simp only [c3, ↓reduceIte]
          rw [if_neg (by omega)] at eu
          simp -implicitDefEqProofs (disch := first | assumption | omega) only [b_mo_oneTest_146, b_mo_oneTest_147, szS_0, szS_i, szS_r, szS_l, x_cons, x_goto, ob_some, kl_i, kl_r, kl_l, kl_n, push_n, push_s, pop_0, pop_i, pop_r, Int.reduceToNat, List.length_cons, List.length_nil, Nat.reduceAdd, Nat.reduceLeDiff, Nat.zero_add, true_and, nI_n0, nat_le, Nat.add_zero, rt_mo_oneTest_0, rt_mo_oneTest_1, rt_mo_oneTest_b, x_al0, x_call, x_dupi, x_dupr, x_getf, x_goto, x_icne, x_ifeq, x_ifne, x_il1, x_iret, x_is1, x_isub, x_ldc, x_m1, x_putf, ↓reduceIte]
          refine s_mbad (d := d + 12) h1.2.1 fun g2 x2 => ?_
          simp -implicitDefEqProofs (disch := first | assumption | omega) only [szS_0, szS_i, szS_r, szS_l, x_cons, x_goto, ob_some, kl_i, kl_r, kl_l, kl_n, push_n, push_s, pop_0, pop_i, pop_r, Int.reduceToNat, List.length_cons, List.length_nil, Nat.reduceAdd, Nat.reduceLeDiff, Nat.zero_add, true_and, nI_n0, nat_le, Nat.add_zero, rt_mo_oneTest_0, rt_mo_oneTest_1, rt_mo_oneTest_b, x_al0, x_call, x_dupi, x_dupr, x_getf, x_goto, x_icne, x_ifeq, x_ifne, x_il1, x_iret, x_is1, x_isub, x_ldc, x_m1, x_putf]
          exact HX _ _ g2 eu (mX_t o1 x2)
  · simp -implicitDefEqProofs (disch := first | assumption | omega) only [szS_0, szS_i, szS_r, szS_l, x_cons, x_goto, ob_some, kl_i, kl_r, kl_l, kl_n, push_n, push_s, pop_0, pop_i, pop_r, Int.reduceToNat, List.length_cons, List.length_nil, Nat.reduceAdd, Nat.reduceLeDiff, Nat.zero_add, true_and, nI_n0, nat_le, Nat.add_zero, rt_mo_oneTest_0, rt_mo_oneTest_1, rt_mo_oneTest_b, x_al0, x_call, x_dupi, x_dupr, x_getf, x_goto, x_icne, x_ifeq, x_ifne, x_il1, x_iret, x_is1, x_isub, x_ldc, x_m1, x_putf, ↓reduceIte]
    exact HX _ _ g1 (bd_l e) x1
theorem s_oneTest (hk0 : 1 ≤ k) (hk : k < 3) : ∀ (r d : Nat), mFn T n k (d + 14 + 3 * r) mo_oneTest r (oneF T n k r) := by
  intro r
  induction r with
  | zero =>
    intro d
    show mFn T n k (d + 14) mo_oneTest 0 (oneF T n k 0)
    intro g q P s i h HN HX
    refine in_mo_oneTest rfl ?_
    have h19 := h.2.1.2.1
    have hc := kC_sm (T := T) (n := n) (m := i) hk
    have eu : oneF T n k 0 i = if kC T n k i = 6 ∨ kC T n k i = 140 then .inl (3, i) else cmF_ T n k i := rfl
    rw [b_mo_oneTest_0]
    simp -implicitDefEqProofs (disch := first | assumption | omega) only [szS_0, szS_i, szS_r, szS_l, x_cons, x_goto, ob_some, kl_i, kl_r, kl_l, kl_n, push_n, push_s, pop_0, pop_i, pop_r, Int.reduceToNat, List.length_cons, List.length_nil, Nat.reduceAdd, Nat.reduceLeDiff, Nat.zero_add, true_and, nI_n0, nat_le, Nat.add_zero, rt_mo_oneTest_0, rt_mo_oneTest_1, rt_mo_oneTest_b, x_al0, x_call, x_dupi, x_dupr, x_getf, x_goto, x_icne, x_ifeq, x_ifne, x_il1, x_iret, x_is1, x_isub, x_ldc, x_m1, x_putf, fd_196_0, fd_196_1, fd_196_2, fd_196_3, fd_196_4, sf_196_4, fd_196_5, sf_196_5, fd_196_6, fd_196_7, fd_196_8, fd_196_9, fd_196_10, fd_196_11, fd_196_12, sf_196_12, fd_196_13, sf_196_13, fd_196_14, sf_196_14, fd_196_15, sf_196_15, fd_196_16, sf_196_16, fd_196_17, sf_196_17, fd_196_18, sf_196_18, fd_196_19, sf_196_19, fd_196_20, sf_196_20, fd_196_21, sf_196_21, fd_196_22, sf_196_22, fd_196_23, sf_196_23, fd_196_24, sf_196_24, fd_196_25, sf_196_25, fd_196_26, sf_196_26, fd_196_27, fd_196_28, fd_196_29, fd_196_30, sf_196_30, fd_196_31, fd_196_32, fd_196_33, fd_196_34, fd_196_35, fd_196_36, fd_196_37, sf_196_37, fd_196_38, fd_196_39, sf_196_39, fd_196_40, sf_196_40, fd_196_41, sf_196_41, fd_196_42, fd_196_43, fd_196_44, h19, nI_eqE]
    by_cases c1 : kC T n k i = 6
    · rw [if_pos (Or.inl c1)] at eu
      simp only [c1, ↓reduceIte]
      try simp -implicitDefEqProofs (disch := first | assumption | omega) only [szS_0, szS_i, szS_r, szS_l, x_cons, x_goto, ob_some, kl_i, kl_r, kl_l, kl_n, push_n, push_s, pop_0, pop_i, pop_r, Int.reduceToNat, List.length_cons, List.length_nil, Nat.reduceAdd, Nat.reduceLeDiff, Nat.zero_add, true_and, nI_n0, nat_le, Nat.add_zero, rt_mo_oneTest_0, rt_mo_oneTest_1, rt_mo_oneTest_b, x_al0, x_call, x_dupi, x_dupr, x_getf, x_goto, x_icne, x_ifeq, x_ifne, x_il1, x_iret, x_is1, x_isub, x_ldc, x_m1, x_putf]
      refine s_opens0 (d := d + 2) h fun g1 x1 => ?_
      simp -implicitDefEqProofs (disch := first | assumption | omega) only [szS_0, szS_i, szS_r, szS_l, x_cons, x_goto, ob_some, kl_i, kl_r, kl_l, kl_n, push_n, push_s, pop_0, pop_i, pop_r, Int.reduceToNat, List.length_cons, List.length_nil, Nat.reduceAdd, Nat.reduceLeDiff, Nat.zero_add, true_and, nI_n0, nat_le, Nat.add_zero, rt_mo_oneTest_0, rt_mo_oneTest_1, rt_mo_oneTest_b, x_al0, x_call, x_dupi, x_dupr, x_getf, x_goto, x_icne, x_ifeq, x_ifne, x_il1, x_iret, x_is1, x_isub, x_ldc, x_m1, x_putf, ↓reduceIte, b_mo_oneTest_23]
      exact HX _ _ g1 eu x1
    · simp only [c1, ↓reduceIte]
      try simp -implicitDefEqProofs (disch := first | assumption | omega) only [b_mo_oneTest_44, szS_0, szS_i, szS_r, szS_l, x_cons, x_goto, ob_some, kl_i, kl_r, kl_l, kl_n, push_n, push_s, pop_0, pop_i, pop_r, Int.reduceToNat, List.length_cons, List.length_nil, Nat.reduceAdd, Nat.reduceLeDiff, Nat.zero_add, true_and, nI_n0, nat_le, Nat.add_zero, rt_mo_oneTest_0, rt_mo_oneTest_1, rt_mo_oneTest_b, x_al0, x_call, x_dupi, x_dupr, x_getf, x_goto, x_icne, x_ifeq, x_ifne, x_il1, x_iret, x_is1, x_isub, x_ldc, x_m1, x_putf, fd_196_0, fd_196_1, fd_196_2, fd_196_3, fd_196_4, sf_196_4, fd_196_5, sf_196_5, fd_196_6, fd_196_7, fd_196_8, fd_196_9, fd_196_10, fd_196_11, fd_196_12, sf_196_12, fd_196_13, sf_196_13, fd_196_14, sf_196_14, fd_196_15, sf_196_15, fd_196_16, sf_196_16, fd_196_17, sf_196_17, fd_196_18, sf_196_18, fd_196_19, sf_196_19, fd_196_20, sf_196_20, fd_196_21, sf_196_21, fd_196_22, sf_196_22, fd_196_23, sf_196_23, fd_196_24, sf_196_24, fd_196_25, sf_196_25, fd_196_26, sf_196_26, fd_196_27, fd_196_28, fd_196_29, fd_196_30, sf_196_30, fd_196_31, fd_196_32, fd_196_33, fd_196_34, fd_196_35, fd_196_36, fd_196_37, sf_196_37, fd_196_38, fd_196_39, sf_196_39, fd_196_40, sf_196_40, fd_196_41, sf_196_41, fd_196_42, fd_196_43, fd_196_44, h19, nI_eqE]
      by_cases c2 : kC T n k i = 140
      · rw [if_pos (Or.inr c2)] at eu
        simp only [c2, ↓reduceIte]
        try simp -implicitDefEqProofs (disch := first | assumption | omega) only [szS_0, szS_i, szS_r, szS_l, x_cons, x_goto, ob_some, kl_i, kl_r, kl_l, kl_n, push_n, push_s, pop_0, pop_i, pop_r, Int.reduceToNat, List.length_cons, List.length_nil, Nat.reduceAdd, Nat.reduceLeDiff, Nat.zero_add, true_and, nI_n0, nat_le, Nat.add_zero, rt_mo_oneTest_0, rt_mo_oneTest_1, rt_mo_oneTest_b, x_al0, x_call, x_dupi, x_dupr, x_getf, x_goto, x_icne, x_ifeq, x_ifne, x_il1, x_iret, x_is1, x_isub, x_ldc, x_m1, x_putf]
        refine s_opens0 (d := d + 2) h fun g1 x1 => ?_
        simp -implicitDefEqProofs (disch := first | assumption | omega) only [szS_0, szS_i, szS_r, szS_l, x_cons, x_goto, ob_some, kl_i, kl_r, kl_l, kl_n, push_n, push_s, pop_0, pop_i, pop_r, Int.reduceToNat, List.length_cons, List.length_nil, Nat.reduceAdd, Nat.reduceLeDiff, Nat.zero_add, true_and, nI_n0, nat_le, Nat.add_zero, rt_mo_oneTest_0, rt_mo_oneTest_1, rt_mo_oneTest_b, x_al0, x_call, x_dupi, x_dupr, x_getf, x_goto, x_icne, x_ifeq, x_ifne, x_il1, x_iret, x_is1, x_isub, x_ldc, x_m1, x_putf, ↓reduceIte, b_mo_oneTest_78]
        exact HX _ _ g1 eu x1
      · rw [if_neg (fun h => h.elim c1 c2)] at eu
        simp only [c2, ↓reduceIte]
        exact s_mcmp hk0 h (fun l j g' e o => HN l j g' (eu.trans e) o) fun f j g' e x => HX f j g' (eu.trans e) x
  | succ r hr =>
    intro d
    obtain ⟨D, hD⟩ : ∃ D, D = d + 3 + 3 * r := ⟨_, rfl⟩
    have hr1 : mFn T n k (D + 11) mo_oneTest r (oneF T n k r) := by
      rw [show D + 11 = d + 14 + 3 * r by omega]
      exact hr d
    have hr2 : mFn T n k (D + 13) mo_oneTest r (oneF T n k r) := by
      rw [show D + 13 = d + 2 + 14 + 3 * r by omega]
      exact hr (d + 2)
    rw [show d + 14 + 3 * (r + 1) = D + 14 by omega]
    have hK := oneF_k (T := T) (n := n) hk0 hk r
    have hA : mFn T n k (D + 13) mo_any r (anF T n k (oneF T n k r)) := s_any (d := D + 2) (s_every (d := D + 1) hr1 hK) (evF_k hK)
    intro g q P s i h HN HX
    refine in_mo_oneTest rfl ?_
    have h19 := h.2.1.2.1
    have hsi := h.2.2.2.1
    have h25 := h.2.2.2.2.2.1
    have hr8 := h.2.2.2.2.2.2
    have hn := mIn_n h
    have n10 : (nI 1 = nI 0) = False := eq_false (by decide)
    have hc := kC_sm (T := T) (n := n) (m := i) hk
    have e8 : 8 - r - 1 = 8 - (r + 1) := by omega
    have l8 : 1 ≤ 8 - r := by omega
    have eu : oneF T n k (r + 1) i = if kC T n k i = 6 then bd (oneF T n k r (i + 1)) fun l j => .inr (l ++ [(30, 0)], j) else if kC T n k i = 140 then bd (anF T n k (oneF T n k r) (i + 1)) fun l j => if kC T n k j = 141 then .inr (l, j + 1) else .inl (1, j) else cmF_ T n k i := rfl
    rw [b_mo_oneTest_0]
    simp -implicitDefEqProofs (disch := first | assumption | omega) only [szS_0, szS_i, szS_r, szS_l, x_cons, x_goto, ob_some, kl_i, kl_r, kl_l, kl_n, push_n, push_s, pop_0, pop_i, pop_r, Int.reduceToNat, List.length_cons, List.length_nil, Nat.reduceAdd, Nat.reduceLeDiff, Nat.zero_add, true_and, nI_n0, nat_le, Nat.add_zero, rt_mo_oneTest_0, rt_mo_oneTest_1, rt_mo_oneTest_b, x_al0, x_call, x_dupi, x_dupr, x_getf, x_goto, x_icne, x_ifeq, x_ifne, x_il1, x_iret, x_is1, x_isub, x_ldc, x_m1, x_putf, fd_196_0, fd_196_1, fd_196_2, fd_196_3, fd_196_4, sf_196_4, fd_196_5, sf_196_5, fd_196_6, fd_196_7, fd_196_8, fd_196_9, fd_196_10, fd_196_11, fd_196_12, sf_196_12, fd_196_13, sf_196_13, fd_196_14, sf_196_14, fd_196_15, sf_196_15, fd_196_16, sf_196_16, fd_196_17, sf_196_17, fd_196_18, sf_196_18, fd_196_19, sf_196_19, fd_196_20, sf_196_20, fd_196_21, sf_196_21, fd_196_22, sf_196_22, fd_196_23, sf_196_23, fd_196_24, sf_196_24, fd_196_25, sf_196_25, fd_196_26, sf_196_26, fd_196_27, fd_196_28, fd_196_29, fd_196_30, sf_196_30, fd_196_31, fd_196_32, fd_196_33, fd_196_34, fd_196_35, fd_196_36, fd_196_37, sf_196_37, fd_196_38, fd_196_39, sf_196_39, fd_196_40, sf_196_40, fd_196_41, sf_196_41, fd_196_42, fd_196_43, fd_196_44, h19, nI_eqE]
    by_cases c1 : kC T n k i = 6
    · rw [if_pos c1] at eu
      have hin := kC_n (T := T) (n := n) (i := i) hk (by omega)
      simp only [c1, ↓reduceIte]
      try simp -implicitDefEqProofs (disch := first | assumption | omega) only [szS_0, szS_i, szS_r, szS_l, x_cons, x_goto, ob_some, kl_i, kl_r, kl_l, kl_n, push_n, push_s, pop_0, pop_i, pop_r, Int.reduceToNat, List.length_cons, List.length_nil, Nat.reduceAdd, Nat.reduceLeDiff, Nat.zero_add, true_and, nI_n0, nat_le, Nat.add_zero, rt_mo_oneTest_0, rt_mo_oneTest_1, rt_mo_oneTest_b, x_al0, x_call, x_dupi, x_dupr, x_getf, x_goto, x_icne, x_ifeq, x_ifne, x_il1, x_iret, x_is1, x_isub, x_ldc, x_m1, x_putf]
      refine s_opens (d := D + 2) h fun g1 o1 => ?_
      have h1 := mIn_0 (mIn_d h (show r ≤ 8 by omega)) o1 hin
      simp -implicitDefEqProofs (disch := first | assumption | omega) only [szS_0, szS_i, szS_r, szS_l, x_cons, x_goto, ob_some, kl_i, kl_r, kl_l, kl_n, push_n, push_s, pop_0, pop_i, pop_r, Int.reduceToNat, List.length_cons, List.length_nil, Nat.reduceAdd, Nat.reduceLeDiff, Nat.zero_add, true_and, nI_n0, nat_le, Nat.add_zero, rt_mo_oneTest_0, rt_mo_oneTest_1, rt_mo_oneTest_b, x_al0, x_call, x_dupi, x_dupr, x_getf, x_goto, x_icne, x_ifeq, x_ifne, x_il1, x_iret, x_is1, x_isub, x_ldc, x_m1, x_putf, n10, ↓reduceIte]
      refine hr2 h1 (fun l j g2 e o2 => ?_) fun f' j g2 e x2 => ?_
      · have u := hK _ _ _ e
        have h2 := mIn_t h1 o2 (okR_ls hsi u) u.2.1
        have hl := okR_l1 hsi u
        have k25 := h2.2.2.2.2.2.1
        have oo := mOK_d (mOK_n o1 o2) h25
        have h3 := mIn_d h2 hr8
        simp -implicitDefEqProofs (disch := first | assumption | omega) only [szS_0, szS_i, szS_r, szS_l, x_cons, x_goto, ob_some, kl_i, kl_r, kl_l, kl_n, push_n, push_s, pop_0, pop_i, pop_r, Int.reduceToNat, List.length_cons, List.length_nil, Nat.reduceAdd, Nat.reduceLeDiff, Nat.zero_add, true_and, nI_n0, nat_le, Nat.add_zero, rt_mo_oneTest_0, rt_mo_oneTest_1, rt_mo_oneTest_b, x_al0, x_call, x_dupi, x_dupr, x_getf, x_goto, x_icne, x_ifeq, x_ifne, x_il1, x_iret, x_is1, x_isub, x_ldc, x_m1, x_putf, n10, ↓reduceIte, b_mo_oneTest_25, fd_196_0, fd_196_1, fd_196_2, fd_196_3, fd_196_4, sf_196_4, fd_196_5, sf_196_5, fd_196_6, fd_196_7, fd_196_8, fd_196_9, fd_196_10, fd_196_11, fd_196_12, sf_196_12, fd_196_13, sf_196_13, fd_196_14, sf_196_14, fd_196_15, sf_196_15, fd_196_16, sf_196_16, fd_196_17, sf_196_17, fd_196_18, sf_196_18, fd_196_19, sf_196_19, fd_196_20, sf_196_20, fd_196_21, sf_196_21, fd_196_22, sf_196_22, fd_196_23, sf_196_23, fd_196_24, sf_196_24, fd_196_25, sf_196_25, fd_196_26, sf_196_26, fd_196_27, fd_196_28, fd_196_29, fd_196_30, sf_196_30, fd_196_31, fd_196_32, fd_196_33, fd_196_34, fd_196_35, fd_196_36, fd_196_37, sf_196_37, fd_196_38, fd_196_39, sf_196_39, fd_196_40, sf_196_40, fd_196_41, sf_196_41, fd_196_42, fd_196_43, fd_196_44, k25, nI_sub, e8, pu_g]
        refine s_lay (d := D + 12) (o := (30, 0)) h3 (by have := u.2.1; omega) (fun h => absurd h (by decide)) fun g4 o4 => ?_
        simp -implicitDefEqProofs (disch := first | assumption | omega) only [szS_0, szS_i, szS_r, szS_l, x_cons, x_goto, ob_some, kl_i, kl_r, kl_l, kl_n, push_n, push_s, pop_0, pop_i, pop_r, Int.reduceToNat, List.length_cons, List.length_nil, Nat.reduceAdd, Nat.reduceLeDiff, Nat.zero_add, true_and, nI_n0, nat_le, Nat.add_zero, rt_mo_oneTest_0, rt_mo_oneTest_1, rt_mo_oneTest_b, x_al0, x_call, x_dupi, x_dupr, x_getf, x_goto, x_icne, x_ifeq, x_ifne, x_il1, x_iret, x_is1, x_isub, x_ldc, x_m1, x_putf]
        exact HN _ _ g4 (eu.trans (bd_r e)) (mOK_t oo o4)
      · simp -implicitDefEqProofs (disch := first | assumption | omega) only [szS_0, szS_i, szS_r, szS_l, x_cons, x_goto, ob_some, kl_i, kl_r, kl_l, kl_n, push_n, push_s, pop_0, pop_i, pop_r, Int.reduceToNat, List.length_cons, List.length_nil, Nat.reduceAdd, Nat.reduceLeDiff, Nat.zero_add, true_and, nI_n0, nat_le, Nat.add_zero, rt_mo_oneTest_0, rt_mo_oneTest_1, rt_mo_oneTest_b, x_al0, x_call, x_dupi, x_dupr, x_getf, x_goto, x_icne, x_ifeq, x_ifne, x_il1, x_iret, x_is1, x_isub, x_ldc, x_m1, x_putf, ↓reduceIte, b_mo_oneTest_23]
        exact HX _ _ g2 (eu.trans (bd_l e)) (mX_d (mX_t o1 x2))
    · rw [if_neg c1] at eu
      simp only [c1, ↓reduceIte]
      try simp -implicitDefEqProofs (disch := first | assumption | omega) only [b_mo_oneTest_44, szS_0, szS_i, szS_r, szS_l, x_cons, x_goto, ob_some, kl_i, kl_r, kl_l, kl_n, push_n, push_s, pop_0, pop_i, pop_r, Int.reduceToNat, List.length_cons, List.length_nil, Nat.reduceAdd, Nat.reduceLeDiff, Nat.zero_add, true_and, nI_n0, nat_le, Nat.add_zero, rt_mo_oneTest_0, rt_mo_oneTest_1, rt_mo_oneTest_b, x_al0, x_call, x_dupi, x_dupr, x_getf, x_goto, x_icne, x_ifeq, x_ifne, x_il1, x_iret, x_is1, x_isub, x_ldc, x_m1, x_putf, fd_196_0, fd_196_1, fd_196_2, fd_196_3, fd_196_4, sf_196_4, fd_196_5, sf_196_5, fd_196_6, fd_196_7, fd_196_8, fd_196_9, fd_196_10, fd_196_11, fd_196_12, sf_196_12, fd_196_13, sf_196_13, fd_196_14, sf_196_14, fd_196_15, sf_196_15, fd_196_16, sf_196_16, fd_196_17, sf_196_17, fd_196_18, sf_196_18, fd_196_19, sf_196_19, fd_196_20, sf_196_20, fd_196_21, sf_196_21, fd_196_22, sf_196_22, fd_196_23, sf_196_23, fd_196_24, sf_196_24, fd_196_25, sf_196_25, fd_196_26, sf_196_26, fd_196_27, fd_196_28, fd_196_29, fd_196_30, sf_196_30, fd_196_31, fd_196_32, fd_196_33, fd_196_34, fd_196_35, fd_196_36, fd_196_37, sf_196_37, fd_196_38, fd_196_39, sf_196_39, fd_196_40, sf_196_40, fd_196_41, sf_196_41, fd_196_42, fd_196_43, fd_196_44, h19, nI_eqE]
      by_cases c2 : kC T n k i = 140
      · rw [if_pos c2] at eu
        have hin := kC_n (T := T) (n := n) (i := i) hk (by omega)
        simp only [c2, ↓reduceIte]
        try simp -implicitDefEqProofs (disch := first | assumption | omega) only [szS_0, szS_i, szS_r, szS_l, x_cons, x_goto, ob_some, kl_i, kl_r, kl_l, kl_n, push_n, push_s, pop_0, pop_i, pop_r, Int.reduceToNat, List.length_cons, List.length_nil, Nat.reduceAdd, Nat.reduceLeDiff, Nat.zero_add, true_and, nI_n0, nat_le, Nat.add_zero, rt_mo_oneTest_0, rt_mo_oneTest_1, rt_mo_oneTest_b, x_al0, x_call, x_dupi, x_dupr, x_getf, x_goto, x_icne, x_ifeq, x_ifne, x_il1, x_iret, x_is1, x_isub, x_ldc, x_m1, x_putf]
        refine s_opens (d := D + 2) h fun g1 o1 => ?_
        have h1 := mIn_0 (mIn_d h (show r ≤ 8 by omega)) o1 hin
        simp -implicitDefEqProofs (disch := first | assumption | omega) only [szS_0, szS_i, szS_r, szS_l, x_cons, x_goto, ob_some, kl_i, kl_r, kl_l, kl_n, push_n, push_s, pop_0, pop_i, pop_r, Int.reduceToNat, List.length_cons, List.length_nil, Nat.reduceAdd, Nat.reduceLeDiff, Nat.zero_add, true_and, nI_n0, nat_le, Nat.add_zero, rt_mo_oneTest_0, rt_mo_oneTest_1, rt_mo_oneTest_b, x_al0, x_call, x_dupi, x_dupr, x_getf, x_goto, x_icne, x_ifeq, x_ifne, x_il1, x_iret, x_is1, x_isub, x_ldc, x_m1, x_putf, n10, ↓reduceIte]
        refine hA h1 (fun l j g2 e o2 => ?_) fun f' j g2 e x2 => ?_
        · have u := anF_k hK _ _ _ e
          have h2 := mIn_t h1 o2 (okR_ls hsi u) u.2.1
          rw [bd_r e] at eu
          simp -implicitDefEqProofs (disch := first | assumption | omega) only [szS_0, szS_i, szS_r, szS_l, x_cons, x_goto, ob_some, kl_i, kl_r, kl_l, kl_n, push_n, push_s, pop_0, pop_i, pop_r, Int.reduceToNat, List.length_cons, List.length_nil, Nat.reduceAdd, Nat.reduceLeDiff, Nat.zero_add, true_and, nI_n0, nat_le, Nat.add_zero, rt_mo_oneTest_0, rt_mo_oneTest_1, rt_mo_oneTest_b, x_al0, x_call, x_dupi, x_dupr, x_getf, x_goto, x_icne, x_ifeq, x_ifne, x_il1, x_iret, x_is1, x_isub, x_ldc, x_m1, x_putf, n10, ↓reduceIte]
          refine s_mneed (d := D + 2) (by decide) h2 (fun g3 c3 o3 => ?_) fun g3 c3 x3 => ?_
          · rw [if_pos c3] at eu
            have hjn := kC_n (T := T) (n := n) (i := j) hk (by omega)
            have h3 := mIn_0 h2 o3 hjn
            have k25 := h3.2.2.2.2.2.1
            simp -implicitDefEqProofs (disch := first | assumption | omega) only [szS_0, szS_i, szS_r, szS_l, x_cons, x_goto, ob_some, kl_i, kl_r, kl_l, kl_n, push_n, push_s, pop_0, pop_i, pop_r, Int.reduceToNat, List.length_cons, List.length_nil, Nat.reduceAdd, Nat.reduceLeDiff, Nat.zero_add, true_and, nI_n0, nat_le, Nat.add_zero, rt_mo_oneTest_0, rt_mo_oneTest_1, rt_mo_oneTest_b, x_al0, x_call, x_dupi, x_dupr, x_getf, x_goto, x_icne, x_ifeq, x_ifne, x_il1, x_iret, x_is1, x_isub, x_ldc, x_m1, x_putf, n10, ↓reduceIte, b_mo_oneTest_80, fd_196_0, fd_196_1, fd_196_2, fd_196_3, fd_196_4, sf_196_4, fd_196_5, sf_196_5, fd_196_6, fd_196_7, fd_196_8, fd_196_9, fd_196_10, fd_196_11, fd_196_12, sf_196_12, fd_196_13, sf_196_13, fd_196_14, sf_196_14, fd_196_15, sf_196_15, fd_196_16, sf_196_16, fd_196_17, sf_196_17, fd_196_18, sf_196_18, fd_196_19, sf_196_19, fd_196_20, sf_196_20, fd_196_21, sf_196_21, fd_196_22, sf_196_22, fd_196_23, sf_196_23, fd_196_24, sf_196_24, fd_196_25, sf_196_25, fd_196_26, sf_196_26, fd_196_27, fd_196_28, fd_196_29, fd_196_30, sf_196_30, fd_196_31, fd_196_32, fd_196_33, fd_196_34, fd_196_35, fd_196_36, fd_196_37, sf_196_37, fd_196_38, fd_196_39, sf_196_39, fd_196_40, sf_196_40, fd_196_41, sf_196_41, fd_196_42, fd_196_43, fd_196_44, k25, nI_sub, e8, pu_g]
            have oo := mOK_t (mOK_n o1 o2) o3
            rw [List.append_nil] at oo
            exact HN _ _ _ eu (mOK_d oo h25)
          · rw [if_neg c3] at eu
            simp -implicitDefEqProofs (disch := first | assumption | omega) only [szS_0, szS_i, szS_r, szS_l, x_cons, x_goto, ob_some, kl_i, kl_r, kl_l, kl_n, push_n, push_s, pop_0, pop_i, pop_r, Int.reduceToNat, List.length_cons, List.length_nil, Nat.reduceAdd, Nat.reduceLeDiff, Nat.zero_add, true_and, nI_n0, nat_le, Nat.add_zero, rt_mo_oneTest_0, rt_mo_oneTest_1, rt_mo_oneTest_b, x_al0, x_call, x_dupi, x_dupr, x_getf, x_goto, x_icne, x_ifeq, x_ifne, x_il1, x_iret, x_is1, x_isub, x_ldc, x_m1, x_putf, ↓reduceIte, b_mo_oneTest_78]
            exact HX _ _ g3 eu (mX_d (mX_t (mOK_n o1 o2) x3))
        · simp -implicitDefEqProofs (disch := first | assumption | omega) only [szS_0, szS_i, szS_r, szS_l, x_cons, x_goto, ob_some, kl_i, kl_r, kl_l, kl_n, push_n, push_s, pop_0, pop_i, pop_r, Int.reduceToNat, List.length_cons, List.length_nil, Nat.reduceAdd, Nat.reduceLeDiff, Nat.zero_add, true_and, nI_n0, nat_le, Nat.add_zero, rt_mo_oneTest_0, rt_mo_oneTest_1, rt_mo_oneTest_b, x_al0, x_call, x_dupi, x_dupr, x_getf, x_goto, x_icne, x_ifeq, x_ifne, x_il1, x_iret, x_is1, x_isub, x_ldc, x_m1, x_putf, ↓reduceIte, b_mo_oneTest_78]
          exact HX _ _ g2 (eu.trans (bd_l e)) (mX_d (mX_t o1 x2))
      · rw [if_neg c2] at eu
        simp only [c2, ↓reduceIte]
        exact s_mcmp (d := D) hk0 (by exact h) (fun l j g' e o => HN l j g' (eu.trans e) o) fun f j g' e x => HX f j g' (eu.trans e) x
end MG
