/-! both programs' objects, tied; the reference's tape and image -/
/-- nothing but the reference's cells changes -/
def fM (g g' : Nat → Nat → Int32) : Prop := ∀ b, b < 196 ∨ 220 ≤ b → g' b = g b
theorem fM_r {g : Nat → Nat → Int32} : fM g g := fun _ _ => rfl
theorem FR_M {l fs : List Nat} {g g' : Nat → Nat → Int32} (h : FR l fs g g') (hl : (l.all fun x => decide (196 ≤ x ∧ x < 220)) = true) : fM g g' := fun b hb => h.1 b (by omega) fun hm => by
  have := of_decide_eq_true (List.all_eq_true.mp hl b hm)
  omega
theorem fr_M {l : List Nat} {g g' : Nat → Nat → Int32} (h : fr l g g') (hl : (l.all fun x => decide (196 ≤ x ∧ x < 220)) = true) : fM g g' := fun b hb => h b fun hm => by
  have := of_decide_eq_true (List.all_eq_true.mp hl b hm)
  omega
def z5 (w : Nat → Int32) : Prop := ∀ k, 2955 ≤ k → w k = 0
/-- the reference's object -/
def Mc (w : Nat → Int32) (pl : PL) (im : IM) (R : RD) (g : Nat → Nat → Int32) : Prop :=
  (g 197 = w ∧ g 196 4 = nI pl.length ∧ BR (g 199) pl) ∧ (match im with
  | none => g 196 5 = nI 0 ∧ z5 (g 198)
  | some x => g 196 5 = nI 1 ∧ g 198 = x.1) ∧ g 196 17 = nI R.1.1 ∧ (∀ k, k < R.1.1 → g 204 k = nI (R.1.2 k)) ∧ g 196 24 = R.2.1 ∧ g 196 26 = R.2.2
theorem Mc_f {w : Nat → Int32} {pl : PL} {im : IM} {R : RD} {g g' : Nat → Nat → Int32} (h : Mc w pl im R g) (e7 : g' 197 = g 197) (e8 : g' 198 = g 198) (e9 : g' 199 = g 199) (e4 : g' 204 = g 204) (ek : ∀ k, k = 4 ∨ k = 5 ∨ k = 17 ∨ k = 24 ∨ k = 26 → g' 196 k = g 196 k) : Mc w pl im R g' := by
  unfold Mc at *
  rw [e7, e8, e9, e4, ek 4 (by omega), ek 5 (by omega), ek 17 (by omega), ek 24 (by omega), ek 26 (by omega)]
  exact h
theorem Mc_C {w : Nat → Int32} {pl : PL} {im : IM} {R : RD} {g g' : Nat → Nat → Int32} (h : Mc w pl im R g) (e : fC g g') : Mc w pl im R g' :=
  Mc_f h (e _ (by decide)) (e _ (by decide)) (e _ (by decide)) (e _ (by decide)) fun k _ => by rw [e 196 (by decide)]
/-- the reference's object behind a change that forgets the days -/
theorem Mc_s {w w' : Nat → Int32} {pl : PL} {im : IM} {R : RD} {g : Nat → Nat → Int32} (h : Mc w pl im R g) : Mc w' [] im R (upw (upw g 197 w') 196 (pu (g 196) 4 (nI 0))) := by
  obtain ⟨-, h2, h3, h4, h5, h6⟩ := h
  have e : ∀ b, b ≠ 196 → b ≠ 197 → upw (upw g 197 w') 196 (pu (g 196) 4 (nI 0)) b = g b := fun b b1 b2 => by rw [upw_o b1, upw_o b2]
  refine ⟨⟨by rw [upw_o (by decide), upw_s], by rw [upw_s, pu_s]; rfl, fun i r hr => by rw [List.getElem?_nil] at hr; cases hr⟩, ?_, by rw [upw_s, pu_n (by decide)]; exact h3, by rw [e 204 (by decide) (by decide)]; exact h4, by rw [upw_s, pu_n (by decide)]; exact h5, by rw [upw_s, pu_n (by decide)]; exact h6⟩
  rw [e 198 (by decide) (by decide), upw_s, pu_n (by decide)]
  exact h2
/-- what holds of the data -/
def rowI (B : Nat) (w : Nat → Int32) (V M : LW) : Prop := WI w ∧ LK w 0 okV V ∧ LK w 1 okM M ∧ z5 w ∧ sumH w 16 ≤ B
def plI (B : Nat) (w : Nat → Int32) (pl : PL) : Prop := pl.length ≤ 5 ∧ ∀ r, r ∈ pl → WI r ∧ stc w r ∧ sumH r 16 ≤ B
def DI (B : Nat) (w : Nat → Int32) (V M : LW) (pl : PL) (im : IM) (R : RD) : Prop := rowI B w V M ∧ plI B w pl ∧ (∀ x, im = some x → rowI B x.1 x.2.1 x.2.2) ∧ R.1.1 ≤ 400 ∧ ∀ k, k < R.1.1 → R.1.2 k < 256
theorem rowI_m {B B' : Nat} (hB : B ≤ B') {w : Nat → Int32} {V M : LW} (h : rowI B w V M) : rowI B' w V M := ⟨h.1, h.2.1, h.2.2.1, h.2.2.2.1, Nat.le_trans h.2.2.2.2 hB⟩
theorem plI_m {B B' : Nat} (hB : B ≤ B') {w : Nat → Int32} {pl : PL} (h : plI B w pl) : plI B' w pl := ⟨h.1, fun r hr => ⟨(h.2 r hr).1, (h.2 r hr).2.1, Nat.le_trans (h.2 r hr).2.2 hB⟩⟩
theorem DI_m {B B' : Nat} (hB : B ≤ B') {w : Nat → Int32} {V M : LW} {pl : PL} {im : IM} {R : RD} (h : DI B w V M pl im R) : DI B' w V M pl im R := ⟨rowI_m hB h.1, plI_m hB h.2.1, fun x hx => rowI_m hB (h.2.2.1 x hx), h.2.2.2⟩
theorem plI_0 {B : Nat} {w : Nat → Int32} : plI B w [] := ⟨Nat.zero_le _, fun r hr => absurd hr List.not_mem_nil⟩
/-- what the law has beside the objects -/
def Env (L : Nat) (xs : Nat → Int32) (g : Nat → Nat → Int32) : Prop := (∀ k, k < 4 → g 300000 k = setv k) ∧ g 300001 = xs ∧ g 300002 0 = nI L
theorem Env_C {L : Nat} {xs : Nat → Int32} {g g' : Nat → Nat → Int32} (h : Env L xs g) (e : fC g g') : Env L xs g' := by
  unfold Env at *
  rw [e 300000 (by decide), e 300001 (by decide), e 300002 (by decide)]
  exact h
theorem Env_M {L : Nat} {xs : Nat → Int32} {g g' : Nat → Nat → Int32} (h : Env L xs g) (e : fM g g') : Env L xs g' := by
  unfold Env at *
  rw [e 300000 (by omega), e 300001 (by omega), e 300002 (by omega)]
  exact h
theorem Kc_M {w : Nat → Int32} {V M : LW} {pl : PL} {im : IM} {R : RD} {g g' : Nat → Nat → Int32} (h : Kc w V M pl im R g) (e : fM g g') : Kc w V M pl im R g' :=
  ⟨KA_c h.1 fun b _ _ _ _ => e b (by omega), rgK_c h.2.1 fun b _ _ => e b (by omega), imK_c h.2.2.1 fun b hb => e b (by omega), rdK_c h.2.2.2 fun b hb => e b (by omega)⟩
def WD (B : Nat) (w : Nat → Int32) (V M : LW) (pl : PL) (im : IM) (R : RD) (g : Nat → Nat → Int32) : Prop := DI B w V M pl im R ∧ Kc w V M pl im R g ∧ Mc w pl im R g
def World (B : Nat) (g : Nat → Nat → Int32) : Prop := ∃ w V M pl im R, WD B w V M pl im R g
/-- a call of the class, then the reference's: they answer alike, and all is tied as before -/
def two (d L : Nat) (xs : Nat → Int32) (B m1 m2 : Nat) (a1 a2 : List Value) (g : Nat → Nat → Int32) (q : Nat → Nat → Int64) : Prop :=
  callC (ev d) m1 a1 (E g q) fun r h => ∃ (a : Int32) (g1 : Nat → Nat → Int32) (q1 : Nat → Nat → Int64), r = some (.int a) ∧ h = E g1 q1 ∧ Env L xs g1 ∧
    callC (ev d) m2 a2 (E g1 q1) fun r' h' => r' = some (.int a) ∧ ∃ (g2 : Nat → Nat → Int32) (q2 : Nat → Nat → Int64), h' = E g2 q2 ∧ Env L xs g2 ∧ World B g2
section MW
variable {d : Nat} {g : Nat → Nat → Int32} {q : Nat → Nat → Int64} {P : QT}
theorem mf_lp2 {a b c e f : Int32} {n : Nat} (hn : n + 20 ≤ 400) {g0 : Nat → Nat → Int32} (H : ∀ g' o, (∀ b, b ≠ 196 → b ≠ 204 → g' b = g0 b) → (∀ k, k ≠ 17 → g' 196 k = g0 196 k) → g' 196 17 = nI (n + 20) → (∀ i, g' 204 i = if n ≤ i ∧ i < n + 20 then nI (byt (fdV a b c e f (i - n)) (24 - 8 * ((i - n) % 4))) else g0 204 i) → wp (ev d) P mo_feed 115 [some (.ref 196), some (.int a), some (.int b), some (.int c), some (.int e), some (.int f), some (.int (nI 20)), o] [] (E g' q)) :
    ∀ (j k : Nat) (g : Nat → Nat → Int32) (o : Option Value), k + j = 20 → (∀ b, b ≠ 196 → b ≠ 204 → g b = g0 b) → (∀ k, k ≠ 17 → g 196 k = g0 196 k) → g 196 17 = nI (n + k) → (∀ i, g 204 i = if n ≤ i ∧ i < n + k then nI (byt (fdV a b c e f (i - n)) (24 - 8 * ((i - n) % 4))) else g0 204 i) →
    wp (ev d) P mo_feed 18 [some (.ref 196), some (.int a), some (.int b), some (.int c), some (.int e), some (.int f), some (.int (nI k)), o] [] (E g q) := by
  intro j
  induction j with
  | zero =>
    intro k g o hk h1 h2 h3 h4
    have hk : k = 20 := hk
    subst hk
    rw [b_mo_feed_18]
    simp -implicitDefEqProofs (disch := first | assumption | omega) only [szS_0, szS_i, szS_r, szS_l, x_cons, x_goto, ob_some, kl_i, kl_r, kl_l, kl_n, push_n, push_s, pop_0, pop_i, pop_r, Int.reduceToNat, List.length_cons, List.length_nil, Nat.reduceAdd, Nat.reduceLeDiff, Nat.zero_add, true_and, nI_n0, nat_le, Nat.add_zero, i_1, rt_mo_feed, x_al0, x_dupi, x_dupr, x_getf, x_goto, x_iadd, x_iand, x_iastore, x_icge, x_icle, x_il1, x_il2, x_il3, x_il4, x_il5, x_il6, x_il7, x_imul, x_inc6, x_irem, x_iret, x_is6, x_is7, x_ishr, x_isub, x_ldc, x_m1, x_putf, nI_ltE, Nat.lt_irrefl, ↓reduceIte]
    exact H g o h1 h2 h3 h4
  | succ j ih =>
    intro k g o hk h1 h2 h3 h4
    have hk' : k < 20 := by omega
    have hz := nI_ne (a := 4) (by decide) (by decide)
    have hl2 : n + k < 400 := by omega
    have go : ∀ v, v = fdV a b c e f k → wp (ev d) P mo_feed 71 [some (.ref 196), some (.int a), some (.int b), some (.int c), some (.int e), some (.int f), some (.int (nI k)), o] [.int v] (E g q) := by
      intro v hv
      have hm : k % 4 < 4 := Nat.mod_lt _ (by decide)
      have hb := by_s (x := v) (s := 24 - 8 * (k % 4)) (by omega)
      rw [b_mo_feed_71]
      simp -implicitDefEqProofs (disch := first | assumption | omega) only [szS_0, szS_i, szS_r, szS_l, x_cons, x_goto, ob_some, kl_i, kl_r, kl_l, kl_n, push_n, push_s, pop_0, pop_i, pop_r, Int.reduceToNat, List.length_cons, List.length_nil, Nat.reduceAdd, Nat.reduceLeDiff, Nat.zero_add, true_and, nI_n0, nat_le, Nat.add_zero, i_1, rt_mo_feed, x_al0, x_dupi, x_dupr, x_getf, x_goto, x_iadd, x_iand, x_iastore, x_icge, x_icle, x_il1, x_il2, x_il3, x_il4, x_il5, x_il6, x_il7, x_imul, x_inc6, x_irem, x_iret, x_is6, x_is7, x_ishr, x_isub, x_ldc, x_m1, x_putf, fd_196_0, fd_196_1, fd_196_2, fd_196_3, fd_196_4, sf_196_4, fd_196_5, sf_196_5, fd_196_6, fd_196_7, fd_196_8, fd_196_9, fd_196_10, fd_196_11, fd_196_12, sf_196_12, fd_196_13, sf_196_13, fd_196_14, sf_196_14, fd_196_15, sf_196_15, fd_196_16, sf_196_16, fd_196_17, sf_196_17, fd_196_18, sf_196_18, fd_196_19, sf_196_19, fd_196_20, sf_196_20, fd_196_21, sf_196_21, fd_196_22, sf_196_22, fd_196_23, sf_196_23, fd_196_24, sf_196_24, fd_196_25, sf_196_25, fd_196_26, sf_196_26, fd_196_27, fd_196_28, fd_196_29, fd_196_30, sf_196_30, fd_196_31, fd_196_32, fd_196_33, fd_196_34, fd_196_35, fd_196_36, fd_196_37, sf_196_37, fd_196_38, fd_196_39, sf_196_39, fd_196_40, sf_196_40, fd_196_41, sf_196_41, fd_196_42, fd_196_43, fd_196_44, ld_204, sd_204, ln_204, h3, nI_mod, nI_mul, nI_sub, hb, pu_g, upw_o, nI_add, pu_w, upw_s, upw_w, pu_s]
      refine ih (k + 1) _ _ (by omega) (fun b b1 b2 => by rw [upw_o b1, upw_o b2]; exact h1 b b1 b2) (fun k hk => by rw [upw_s, pu_n hk]; exact h2 k hk) (by rw [upw_s, pu_s, Nat.add_assoc]) fun i => ?_
      rw [upw_o (by decide), upw_s]
      by_cases e1 : i = n + k
      · rw [e1, pu_s, if_pos (by omega), show n + k - n = k by omega, hv]
      · rw [pu_n e1, h4]
        by_cases e2 : n ≤ i ∧ i < n + k
        · rw [if_pos e2, if_pos (by omega)]
        · rw [if_neg e2, if_neg (by omega)]
    rw [b_mo_feed_18]
    simp -implicitDefEqProofs (disch := first | assumption | omega) only [szS_0, szS_i, szS_r, szS_l, x_cons, x_goto, ob_some, kl_i, kl_r, kl_l, kl_n, push_n, push_s, pop_0, pop_i, pop_r, Int.reduceToNat, List.length_cons, List.length_nil, Nat.reduceAdd, Nat.reduceLeDiff, Nat.zero_add, true_and, nI_n0, nat_le, Nat.add_zero, i_1, rt_mo_feed, x_al0, x_dupi, x_dupr, x_getf, x_goto, x_iadd, x_iand, x_iastore, x_icge, x_icle, x_il1, x_il2, x_il3, x_il4, x_il5, x_il6, x_il7, x_imul, x_inc6, x_irem, x_iret, x_is6, x_is7, x_ishr, x_isub, x_ldc, x_m1, x_putf, nI_ltE, hk', ↓reduceIte]
    by_cases k1 : k < 4
    · rw [if_pos k1]
      try simp -implicitDefEqProofs (disch := first | assumption | omega) only [szS_0, szS_i, szS_r, szS_l, x_cons, x_goto, ob_some, kl_i, kl_r, kl_l, kl_n, push_n, push_s, pop_0, pop_i, pop_r, Int.reduceToNat, List.length_cons, List.length_nil, Nat.reduceAdd, Nat.reduceLeDiff, Nat.zero_add, true_and, nI_n0, nat_le, Nat.add_zero, i_1, rt_mo_feed, x_al0, x_dupi, x_dupr, x_getf, x_goto, x_iadd, x_iand, x_iastore, x_icge, x_icle, x_il1, x_il2, x_il3, x_il4, x_il5, x_il6, x_il7, x_imul, x_inc6, x_irem, x_iret, x_is6, x_is7, x_ishr, x_isub, x_ldc, x_m1, x_putf]
      exact go a (by unfold fdV; rw [if_pos k1])
    · rw [if_neg k1, b_mo_feed_35]
      simp -implicitDefEqProofs (disch := first | assumption | omega) only [szS_0, szS_i, szS_r, szS_l, x_cons, x_goto, ob_some, kl_i, kl_r, kl_l, kl_n, push_n, push_s, pop_0, pop_i, pop_r, Int.reduceToNat, List.length_cons, List.length_nil, Nat.reduceAdd, Nat.reduceLeDiff, Nat.zero_add, true_and, nI_n0, nat_le, Nat.add_zero, i_1, rt_mo_feed, x_al0, x_dupi, x_dupr, x_getf, x_goto, x_iadd, x_iand, x_iastore, x_icge, x_icle, x_il1, x_il2, x_il3, x_il4, x_il5, x_il6, x_il7, x_imul, x_inc6, x_irem, x_iret, x_is6, x_is7, x_ishr, x_isub, x_ldc, x_m1, x_putf, nI_ltE]
      by_cases k2 : k < 8
      · rw [if_pos k2]
        try simp -implicitDefEqProofs (disch := first | assumption | omega) only [szS_0, szS_i, szS_r, szS_l, x_cons, x_goto, ob_some, kl_i, kl_r, kl_l, kl_n, push_n, push_s, pop_0, pop_i, pop_r, Int.reduceToNat, List.length_cons, List.length_nil, Nat.reduceAdd, Nat.reduceLeDiff, Nat.zero_add, true_and, nI_n0, nat_le, Nat.add_zero, i_1, rt_mo_feed, x_al0, x_dupi, x_dupr, x_getf, x_goto, x_iadd, x_iand, x_iastore, x_icge, x_icle, x_il1, x_il2, x_il3, x_il4, x_il5, x_il6, x_il7, x_imul, x_inc6, x_irem, x_iret, x_is6, x_is7, x_ishr, x_isub, x_ldc, x_m1, x_putf]
        exact go b (by unfold fdV; rw [if_neg k1, if_pos k2])
      · rw [if_neg k2, b_mo_feed_46]
        simp -implicitDefEqProofs (disch := first | assumption | omega) only [szS_0, szS_i, szS_r, szS_l, x_cons, x_goto, ob_some, kl_i, kl_r, kl_l, kl_n, push_n, push_s, pop_0, pop_i, pop_r, Int.reduceToNat, List.length_cons, List.length_nil, Nat.reduceAdd, Nat.reduceLeDiff, Nat.zero_add, true_and, nI_n0, nat_le, Nat.add_zero, i_1, rt_mo_feed, x_al0, x_dupi, x_dupr, x_getf, x_goto, x_iadd, x_iand, x_iastore, x_icge, x_icle, x_il1, x_il2, x_il3, x_il4, x_il5, x_il6, x_il7, x_imul, x_inc6, x_irem, x_iret, x_is6, x_is7, x_ishr, x_isub, x_ldc, x_m1, x_putf, nI_ltE]
        by_cases k3 : k < 12
        · rw [if_pos k3]
          try simp -implicitDefEqProofs (disch := first | assumption | omega) only [szS_0, szS_i, szS_r, szS_l, x_cons, x_goto, ob_some, kl_i, kl_r, kl_l, kl_n, push_n, push_s, pop_0, pop_i, pop_r, Int.reduceToNat, List.length_cons, List.length_nil, Nat.reduceAdd, Nat.reduceLeDiff, Nat.zero_add, true_and, nI_n0, nat_le, Nat.add_zero, i_1, rt_mo_feed, x_al0, x_dupi, x_dupr, x_getf, x_goto, x_iadd, x_iand, x_iastore, x_icge, x_icle, x_il1, x_il2, x_il3, x_il4, x_il5, x_il6, x_il7, x_imul, x_inc6, x_irem, x_iret, x_is6, x_is7, x_ishr, x_isub, x_ldc, x_m1, x_putf]
          exact go c (by unfold fdV; rw [if_neg k1, if_neg k2, if_pos k3])
        · rw [if_neg k3, b_mo_feed_57]
          simp -implicitDefEqProofs (disch := first | assumption | omega) only [szS_0, szS_i, szS_r, szS_l, x_cons, x_goto, ob_some, kl_i, kl_r, kl_l, kl_n, push_n, push_s, pop_0, pop_i, pop_r, Int.reduceToNat, List.length_cons, List.length_nil, Nat.reduceAdd, Nat.reduceLeDiff, Nat.zero_add, true_and, nI_n0, nat_le, Nat.add_zero, i_1, rt_mo_feed, x_al0, x_dupi, x_dupr, x_getf, x_goto, x_iadd, x_iand, x_iastore, x_icge, x_icle, x_il1, x_il2, x_il3, x_il4, x_il5, x_il6, x_il7, x_imul, x_inc6, x_irem, x_iret, x_is6, x_is7, x_ishr, x_isub, x_ldc, x_m1, x_putf, nI_ltE]
          by_cases k4 : k < 16
          · rw [if_pos k4]
            try simp -implicitDefEqProofs (disch := first | assumption | omega) only [szS_0, szS_i, szS_r, szS_l, x_cons, x_goto, ob_some, kl_i, kl_r, kl_l, kl_n, push_n, push_s, pop_0, pop_i, pop_r, Int.reduceToNat, List.length_cons, List.length_nil, Nat.reduceAdd, Nat.reduceLeDiff, Nat.zero_add, true_and, nI_n0, nat_le, Nat.add_zero, i_1, rt_mo_feed, x_al0, x_dupi, x_dupr, x_getf, x_goto, x_iadd, x_iand, x_iastore, x_icge, x_icle, x_il1, x_il2, x_il3, x_il4, x_il5, x_il6, x_il7, x_imul, x_inc6, x_irem, x_iret, x_is6, x_is7, x_ishr, x_isub, x_ldc, x_m1, x_putf]
            exact go e (by unfold fdV; rw [if_neg k1, if_neg k2, if_neg k3, if_pos k4])
          · rw [if_neg k4, b_mo_feed_69]
            simp -implicitDefEqProofs (disch := first | assumption | omega) only [szS_0, szS_i, szS_r, szS_l, x_cons, x_goto, ob_some, kl_i, kl_r, kl_l, kl_n, push_n, push_s, pop_0, pop_i, pop_r, Int.reduceToNat, List.length_cons, List.length_nil, Nat.reduceAdd, Nat.reduceLeDiff, Nat.zero_add, true_and, nI_n0, nat_le, Nat.add_zero, i_1, rt_mo_feed, x_al0, x_dupi, x_dupr, x_getf, x_goto, x_iadd, x_iand, x_iastore, x_icge, x_icle, x_il1, x_il2, x_il3, x_il4, x_il5, x_il6, x_il7, x_imul, x_inc6, x_irem, x_iret, x_is6, x_is7, x_ishr, x_isub, x_ldc, x_m1, x_putf]
            exact go f (by unfold fdV; rw [if_neg k1, if_neg k2, if_neg k3, if_neg k4])
theorem s_mfeed0 {n : Nat} (h17 : g 196 17 = nI n) (hn : n ≤ 400) (h : 380 < n) {a b c e f : Int32} : callC (ev (d + 1)) mo_feed [.ref 196, .int a, .int b, .int c, .int e, .int f] (E g q) P = P (some (.int (-1))) (E g q) := by
  refine call_eq (in_mo_feed rfl ?_)
  have hl : 400 < n + 20 := by omega
  rw [b_mo_feed_0]
  simp -implicitDefEqProofs (disch := first | assumption | omega) only [szS_0, szS_i, szS_r, szS_l, x_cons, x_goto, ob_some, kl_i, kl_r, kl_l, kl_n, push_n, push_s, pop_0, pop_i, pop_r, Int.reduceToNat, List.length_cons, List.length_nil, Nat.reduceAdd, Nat.reduceLeDiff, Nat.zero_add, true_and, nI_n0, nat_le, Nat.add_zero, i_1, rt_mo_feed, x_al0, x_dupi, x_dupr, x_getf, x_goto, x_iadd, x_iand, x_iastore, x_icge, x_icle, x_il1, x_il2, x_il3, x_il4, x_il5, x_il6, x_il7, x_imul, x_inc6, x_irem, x_iret, x_is6, x_is7, x_ishr, x_isub, x_ldc, x_m1, x_putf, fd_196_0, fd_196_1, fd_196_2, fd_196_3, fd_196_4, sf_196_4, fd_196_5, sf_196_5, fd_196_6, fd_196_7, fd_196_8, fd_196_9, fd_196_10, fd_196_11, fd_196_12, sf_196_12, fd_196_13, sf_196_13, fd_196_14, sf_196_14, fd_196_15, sf_196_15, fd_196_16, sf_196_16, fd_196_17, sf_196_17, fd_196_18, sf_196_18, fd_196_19, sf_196_19, fd_196_20, sf_196_20, fd_196_21, sf_196_21, fd_196_22, sf_196_22, fd_196_23, sf_196_23, fd_196_24, sf_196_24, fd_196_25, sf_196_25, fd_196_26, sf_196_26, fd_196_27, fd_196_28, fd_196_29, fd_196_30, sf_196_30, fd_196_31, fd_196_32, fd_196_33, fd_196_34, fd_196_35, fd_196_36, fd_196_37, sf_196_37, fd_196_38, fd_196_39, sf_196_39, fd_196_40, sf_196_40, fd_196_41, sf_196_41, fd_196_42, fd_196_43, fd_196_44, h17, nI_add, nI_ltE, hl, ↓reduceIte]
  all_goals first | rfl | exact ⟨rfl, rfl⟩ | exact ⟨rfl, trivial⟩ | exact ⟨trivial, rfl⟩ | trivial
theorem s_mfeed {n : Nat} (h17 : g 196 17 = nI n) (h : n ≤ 380) {a b c e f : Int32} (H : ∀ g', (∀ b, b ≠ 196 → b ≠ 204 → g' b = g b) → (∀ k, k ≠ 17 → g' 196 k = g 196 k) → g' 196 17 = nI (n + 20) → (∀ i, g' 204 i = if n ≤ i ∧ i < n + 20 then nI (byt (fdV a b c e f (i - n)) (24 - 8 * ((i - n) % 4))) else g 204 i) → P (some (.int (nI (n + 20)))) (E g' q)) :
    callC (ev (d + 1)) mo_feed [.ref 196, .int a, .int b, .int c, .int e, .int f] (E g q) P := by
  refine in_mo_feed rfl ?_
  have hl : ¬ 400 < n + 20 := by omega
  rw [b_mo_feed_0]
  simp -implicitDefEqProofs (disch := first | assumption | omega) only [szS_0, szS_i, szS_r, szS_l, x_cons, x_goto, ob_some, kl_i, kl_r, kl_l, kl_n, push_n, push_s, pop_0, pop_i, pop_r, Int.reduceToNat, List.length_cons, List.length_nil, Nat.reduceAdd, Nat.reduceLeDiff, Nat.zero_add, true_and, nI_n0, nat_le, Nat.add_zero, i_1, rt_mo_feed, x_al0, x_dupi, x_dupr, x_getf, x_goto, x_iadd, x_iand, x_iastore, x_icge, x_icle, x_il1, x_il2, x_il3, x_il4, x_il5, x_il6, x_il7, x_imul, x_inc6, x_irem, x_iret, x_is6, x_is7, x_ishr, x_isub, x_ldc, x_m1, x_putf, fd_196_0, fd_196_1, fd_196_2, fd_196_3, fd_196_4, sf_196_4, fd_196_5, sf_196_5, fd_196_6, fd_196_7, fd_196_8, fd_196_9, fd_196_10, fd_196_11, fd_196_12, sf_196_12, fd_196_13, sf_196_13, fd_196_14, sf_196_14, fd_196_15, sf_196_15, fd_196_16, sf_196_16, fd_196_17, sf_196_17, fd_196_18, sf_196_18, fd_196_19, sf_196_19, fd_196_20, sf_196_20, fd_196_21, sf_196_21, fd_196_22, sf_196_22, fd_196_23, sf_196_23, fd_196_24, sf_196_24, fd_196_25, sf_196_25, fd_196_26, sf_196_26, fd_196_27, fd_196_28, fd_196_29, fd_196_30, sf_196_30, fd_196_31, fd_196_32, fd_196_33, fd_196_34, fd_196_35, fd_196_36, fd_196_37, sf_196_37, fd_196_38, fd_196_39, sf_196_39, fd_196_40, sf_196_40, fd_196_41, sf_196_41, fd_196_42, fd_196_43, fd_196_44, h17, nI_add, nI_ltE, hl, ↓reduceIte, b_mo_feed_15]
  refine mf_lp2 (n := n) (by omega) (g0 := g) (fun g1 o h1 h2 h3 h4 => ?_) 20 0 g none rfl (fun _ _ _ => rfl) (fun _ _ => rfl) h17 fun i => by rw [if_neg (by omega)]
  rw [b_mo_feed_115]
  simp -implicitDefEqProofs (disch := first | assumption | omega) only [szS_0, szS_i, szS_r, szS_l, x_cons, x_goto, ob_some, kl_i, kl_r, kl_l, kl_n, push_n, push_s, pop_0, pop_i, pop_r, Int.reduceToNat, List.length_cons, List.length_nil, Nat.reduceAdd, Nat.reduceLeDiff, Nat.zero_add, true_and, nI_n0, nat_le, Nat.add_zero, i_1, rt_mo_feed, x_al0, x_dupi, x_dupr, x_getf, x_goto, x_iadd, x_iand, x_iastore, x_icge, x_icle, x_il1, x_il2, x_il3, x_il4, x_il5, x_il6, x_il7, x_imul, x_inc6, x_irem, x_iret, x_is6, x_is7, x_ishr, x_isub, x_ldc, x_m1, x_putf, fd_196_0, fd_196_1, fd_196_2, fd_196_3, fd_196_4, sf_196_4, fd_196_5, sf_196_5, fd_196_6, fd_196_7, fd_196_8, fd_196_9, fd_196_10, fd_196_11, fd_196_12, sf_196_12, fd_196_13, sf_196_13, fd_196_14, sf_196_14, fd_196_15, sf_196_15, fd_196_16, sf_196_16, fd_196_17, sf_196_17, fd_196_18, sf_196_18, fd_196_19, sf_196_19, fd_196_20, sf_196_20, fd_196_21, sf_196_21, fd_196_22, sf_196_22, fd_196_23, sf_196_23, fd_196_24, sf_196_24, fd_196_25, sf_196_25, fd_196_26, sf_196_26, fd_196_27, fd_196_28, fd_196_29, fd_196_30, sf_196_30, fd_196_31, fd_196_32, fd_196_33, fd_196_34, fd_196_35, fd_196_36, fd_196_37, sf_196_37, fd_196_38, fd_196_39, sf_196_39, fd_196_40, sf_196_40, fd_196_41, sf_196_41, fd_196_42, fd_196_43, fd_196_44, h3]
  exact H g1 h1 h2 h3 h4
theorem mi_lp {x : Int32} {A Bb : Nat} (hAB : (x ≠ nI 0 ∧ A = 197 ∧ Bb = 198) ∨ (x = nI 0 ∧ A = 198 ∧ Bb = 197)) {s old : Nat → Int32} (hs : g A = s) (H : wp (ev (d + 1)) P mo_image 59 [some (.ref 196), some (.int x), some (.int (nI 2955))] [] (E (upw g Bb (imR s old)) q)) :
    ∀ (j k : Nat) (r : Nat → Int32), k + j = 2955 → (∀ i, r i = if i < k then s i else old i) → wp (ev (d + 1)) P mo_image 15 [some (.ref 196), some (.int x), some (.int (nI k))] [] (E (upw g Bb r) q) := by
  intro j
  induction j with
  | zero =>
    intro k r hk hr
    have hk : k = 2955 := hk
    subst hk
    have : r = imR s old := funext hr
    rw [this, b_mo_image_15]
    simp -implicitDefEqProofs (disch := first | assumption | omega) only [szS_0, szS_i, szS_r, szS_l, x_cons, x_goto, ob_some, kl_i, kl_r, kl_l, kl_n, push_n, push_s, pop_0, pop_i, pop_r, Int.reduceToNat, List.length_cons, List.length_nil, Nat.reduceAdd, Nat.reduceLeDiff, Nat.zero_add, true_and, nI_n0, nat_le, Nat.add_zero, i_1, rt_mo_image_0, rt_mo_image_1, rt_mo_image_b, x_al0, x_call, x_getf, x_goto, x_iaload, x_iastore, x_icge, x_ifeq, x_ifne, x_il1, x_il2, x_inc2, x_iret, x_is2, x_ldc, x_putf, nI_ltE, Nat.lt_irrefl, ↓reduceIte]
    exact H
  | succ j ih =>
    intro k r hk hr
    have hk' : k < 2955 := by omega
    have next : ∀ v, v = s k → wp (ev (d + 1)) P mo_image 15 [some (.ref 196), some (.int x), some (.int (nI (k + 1)))] [] (E (upw g Bb (pu r k v)) q) := by
      intro v hv
      refine ih (k + 1) _ (by omega) fun i => ?_
      unfold pu
      by_cases e1 : i = k
      · rw [if_pos e1, if_pos (by omega), e1, hv]
      · rw [if_neg e1, hr]
        by_cases e2 : i < k
        · rw [if_pos e2, if_pos (by omega)]
        · rw [if_neg e2, if_neg (by omega)]
    rcases hAB with ⟨hx, rfl, rfl⟩ | ⟨hx, rfl, rfl⟩
    · have hn := next (s k) rfl
      rw [b_mo_image_15]
      simp -implicitDefEqProofs (disch := first | assumption | omega) only [szS_0, szS_i, szS_r, szS_l, x_cons, x_goto, ob_some, kl_i, kl_r, kl_l, kl_n, push_n, push_s, pop_0, pop_i, pop_r, Int.reduceToNat, List.length_cons, List.length_nil, Nat.reduceAdd, Nat.reduceLeDiff, Nat.zero_add, true_and, nI_n0, nat_le, Nat.add_zero, i_1, rt_mo_image_0, rt_mo_image_1, rt_mo_image_b, x_al0, x_call, x_getf, x_goto, x_iaload, x_iastore, x_icge, x_ifeq, x_ifne, x_il1, x_il2, x_inc2, x_iret, x_is2, x_ldc, x_putf, nI_ltE, hk', ↓reduceIte, hx, fd_196_0, fd_196_1, fd_196_2, fd_196_3, fd_196_4, sf_196_4, fd_196_5, sf_196_5, fd_196_6, fd_196_7, fd_196_8, fd_196_9, fd_196_10, fd_196_11, fd_196_12, sf_196_12, fd_196_13, sf_196_13, fd_196_14, sf_196_14, fd_196_15, sf_196_15, fd_196_16, sf_196_16, fd_196_17, sf_196_17, fd_196_18, sf_196_18, fd_196_19, sf_196_19, fd_196_20, sf_196_20, fd_196_21, sf_196_21, fd_196_22, sf_196_22, fd_196_23, sf_196_23, fd_196_24, sf_196_24, fd_196_25, sf_196_25, fd_196_26, sf_196_26, fd_196_27, fd_196_28, fd_196_29, fd_196_30, sf_196_30, fd_196_31, fd_196_32, fd_196_33, fd_196_34, fd_196_35, fd_196_36, fd_196_37, sf_196_37, fd_196_38, fd_196_39, sf_196_39, fd_196_40, sf_196_40, fd_196_41, sf_196_41, fd_196_42, fd_196_43, fd_196_44, ld_197, sd_197, ln_197, ld_198, sd_198, ln_198, upw_o, hs, pu_w, b_mo_image_53, nI_add]
      exact hn
    · have hn := next (s k) rfl
      subst hx
      rw [b_mo_image_15]
      simp -implicitDefEqProofs (disch := first | assumption | omega) only [szS_0, szS_i, szS_r, szS_l, x_cons, x_goto, ob_some, kl_i, kl_r, kl_l, kl_n, push_n, push_s, pop_0, pop_i, pop_r, Int.reduceToNat, List.length_cons, List.length_nil, Nat.reduceAdd, Nat.reduceLeDiff, Nat.zero_add, true_and, nI_n0, nat_le, Nat.add_zero, i_1, rt_mo_image_0, rt_mo_image_1, rt_mo_image_b, x_al0, x_call, x_getf, x_goto, x_iaload, x_iastore, x_icge, x_ifeq, x_ifne, x_il1, x_il2, x_inc2, x_iret, x_is2, x_ldc, x_putf, nI_ltE, hk', ↓reduceIte, b_mo_image_41, fd_196_0, fd_196_1, fd_196_2, fd_196_3, fd_196_4, sf_196_4, fd_196_5, sf_196_5, fd_196_6, fd_196_7, fd_196_8, fd_196_9, fd_196_10, fd_196_11, fd_196_12, sf_196_12, fd_196_13, sf_196_13, fd_196_14, sf_196_14, fd_196_15, sf_196_15, fd_196_16, sf_196_16, fd_196_17, sf_196_17, fd_196_18, sf_196_18, fd_196_19, sf_196_19, fd_196_20, sf_196_20, fd_196_21, sf_196_21, fd_196_22, sf_196_22, fd_196_23, sf_196_23, fd_196_24, sf_196_24, fd_196_25, sf_196_25, fd_196_26, sf_196_26, fd_196_27, fd_196_28, fd_196_29, fd_196_30, sf_196_30, fd_196_31, fd_196_32, fd_196_33, fd_196_34, fd_196_35, fd_196_36, fd_196_37, sf_196_37, fd_196_38, fd_196_39, sf_196_39, fd_196_40, sf_196_40, fd_196_41, sf_196_41, fd_196_42, fd_196_43, fd_196_44, ld_197, sd_197, ln_197, ld_198, sd_198, ln_198, upw_o, hs, pu_w, b_mo_image_53, nI_add]
      exact hn
theorem imR_z {w old : Nat → Int32} (h : z5 w) (h' : z5 old) : imR w old = w := by
  funext k
  unfold imR
  by_cases e : k < 2955
  · rw [if_pos e]
  · rw [if_neg e, h k (by omega), h' k (by omega)]
theorem s_mimg1 {x : Int32} (hx : x ≠ nI 0) (h7 : z5 (g 197)) (h8 : z5 (g 198)) : callC (ev (d + 2)) mo_image [.ref 196, .int x] (E g q) P = P (some (.int (nI 1))) (E (upw (upw g 198 (g 197)) 196 (pu (g 196) 5 (nI 1))) q) := by
  refine call_eq (in_mo_image rfl ?_)
  have e5 : ∀ G : Nat → Nat → Int32, sfd mo_image (E G q) 196 1205 (.int (nI 1)) = some (E (up2 G 196 5 (nI 1)) q) := fun G => sf_196_5 (Or.inr rfl)
  rw [b_mo_image_0]
  simp -implicitDefEqProofs (disch := first | assumption | omega) only [szS_0, szS_i, szS_r, szS_l, x_cons, x_goto, ob_some, kl_i, kl_r, kl_l, kl_n, push_n, push_s, pop_0, pop_i, pop_r, Int.reduceToNat, List.length_cons, List.length_nil, Nat.reduceAdd, Nat.reduceLeDiff, Nat.zero_add, true_and, nI_n0, nat_le, Nat.add_zero, i_1, rt_mo_image_0, rt_mo_image_1, rt_mo_image_b, x_al0, x_call, x_getf, x_goto, x_iaload, x_iastore, x_icge, x_ifeq, x_ifne, x_il1, x_il2, x_inc2, x_iret, x_is2, x_ldc, x_putf, hx, ↓reduceIte, b_mo_image_13]
  rw [show E g q = E (upw g 198 (g 198)) q by rw [upw_g]]
  refine mi_lp (A := 197) (Bb := 198) (Or.inl ⟨hx, rfl, rfl⟩) (s := g 197) (old := g 198) rfl ?_ 2955 0 _ rfl fun i => by rw [if_neg (by omega)]
  rw [imR_z h7 h8, b_mo_image_59]
  simp -implicitDefEqProofs (disch := first | assumption | omega) only [szS_0, szS_i, szS_r, szS_l, x_cons, x_goto, ob_some, kl_i, kl_r, kl_l, kl_n, push_n, push_s, pop_0, pop_i, pop_r, Int.reduceToNat, List.length_cons, List.length_nil, Nat.reduceAdd, Nat.reduceLeDiff, Nat.zero_add, true_and, nI_n0, nat_le, Nat.add_zero, i_1, rt_mo_image_0, rt_mo_image_1, rt_mo_image_b, x_al0, x_call, x_getf, x_goto, x_iaload, x_iastore, x_icge, x_ifeq, x_ifne, x_il1, x_il2, x_inc2, x_iret, x_is2, x_ldc, x_putf, hx, ↓reduceIte, b_mo_image_67, e5, pu_g, upw_o, pu_w, upw_s, upw_w, pu_s]
  all_goals first | rfl | exact ⟨rfl, rfl⟩ | exact ⟨rfl, trivial⟩ | exact ⟨trivial, rfl⟩ | trivial
theorem s_mimg0 (h5 : g 196 5 = nI 0) : callC (ev (d + 2)) mo_image [.ref 196, .int (nI 0)] (E g q) P = P (some (.int (nI 0))) (E g q) := by
  refine call_eq (in_mo_image rfl ?_)
  rw [b_mo_image_0]
  simp -implicitDefEqProofs (disch := first | assumption | omega) only [szS_0, szS_i, szS_r, szS_l, x_cons, x_goto, ob_some, kl_i, kl_r, kl_l, kl_n, push_n, push_s, pop_0, pop_i, pop_r, Int.reduceToNat, List.length_cons, List.length_nil, Nat.reduceAdd, Nat.reduceLeDiff, Nat.zero_add, true_and, nI_n0, nat_le, Nat.add_zero, i_1, rt_mo_image_0, rt_mo_image_1, rt_mo_image_b, x_al0, x_call, x_getf, x_goto, x_iaload, x_iastore, x_icge, x_ifeq, x_ifne, x_il1, x_il2, x_inc2, x_iret, x_is2, x_ldc, x_putf, ↓reduceIte, fd_196_0, fd_196_1, fd_196_2, fd_196_3, fd_196_4, sf_196_4, fd_196_5, sf_196_5, fd_196_6, fd_196_7, fd_196_8, fd_196_9, fd_196_10, fd_196_11, fd_196_12, sf_196_12, fd_196_13, sf_196_13, fd_196_14, sf_196_14, fd_196_15, sf_196_15, fd_196_16, sf_196_16, fd_196_17, sf_196_17, fd_196_18, sf_196_18, fd_196_19, sf_196_19, fd_196_20, sf_196_20, fd_196_21, sf_196_21, fd_196_22, sf_196_22, fd_196_23, sf_196_23, fd_196_24, sf_196_24, fd_196_25, sf_196_25, fd_196_26, sf_196_26, fd_196_27, fd_196_28, fd_196_29, fd_196_30, sf_196_30, fd_196_31, fd_196_32, fd_196_33, fd_196_34, fd_196_35, fd_196_36, fd_196_37, sf_196_37, fd_196_38, fd_196_39, sf_196_39, fd_196_40, sf_196_40, fd_196_41, sf_196_41, fd_196_42, fd_196_43, fd_196_44, h5]
  all_goals first | rfl | exact ⟨rfl, rfl⟩ | exact ⟨rfl, trivial⟩ | exact ⟨trivial, rfl⟩ | trivial
theorem s_mimg (h5 : g 196 5 = nI 1) (h7 : z5 (g 197)) (h8 : z5 (g 198)) : callC (ev (d + 2)) mo_image [.ref 196, .int (nI 0)] (E g q) P = P (some (.int (nI 1))) (E (upw (upw g 197 (g 198)) 196 (pu (pu (g 196) 4 (nI 0)) 5 (nI 1))) q) := by
  refine call_eq (in_mo_image rfl ?_)
  have e5 : ∀ G : Nat → Nat → Int32, sfd mo_image (E G q) 196 1205 (.int (nI 1)) = some (E (up2 G 196 5 (nI 1)) q) := fun G => sf_196_5 (Or.inr rfl)
  have n10 : (nI 1 = nI 0) = False := eq_false (by decide)
  rw [b_mo_image_0]
  simp -implicitDefEqProofs (disch := first | assumption | omega) only [szS_0, szS_i, szS_r, szS_l, x_cons, x_goto, ob_some, kl_i, kl_r, kl_l, kl_n, push_n, push_s, pop_0, pop_i, pop_r, Int.reduceToNat, List.length_cons, List.length_nil, Nat.reduceAdd, Nat.reduceLeDiff, Nat.zero_add, true_and, nI_n0, nat_le, Nat.add_zero, i_1, rt_mo_image_0, rt_mo_image_1, rt_mo_image_b, x_al0, x_call, x_getf, x_goto, x_iaload, x_iastore, x_icge, x_ifeq, x_ifne, x_il1, x_il2, x_inc2, x_iret, x_is2, x_ldc, x_putf, ↓reduceIte, fd_196_0, fd_196_1, fd_196_2, fd_196_3, fd_196_4, sf_196_4, fd_196_5, sf_196_5, fd_196_6, fd_196_7, fd_196_8, fd_196_9, fd_196_10, fd_196_11, fd_196_12, sf_196_12, fd_196_13, sf_196_13, fd_196_14, sf_196_14, fd_196_15, sf_196_15, fd_196_16, sf_196_16, fd_196_17, sf_196_17, fd_196_18, sf_196_18, fd_196_19, sf_196_19, fd_196_20, sf_196_20, fd_196_21, sf_196_21, fd_196_22, sf_196_22, fd_196_23, sf_196_23, fd_196_24, sf_196_24, fd_196_25, sf_196_25, fd_196_26, sf_196_26, fd_196_27, fd_196_28, fd_196_29, fd_196_30, sf_196_30, fd_196_31, fd_196_32, fd_196_33, fd_196_34, fd_196_35, fd_196_36, fd_196_37, sf_196_37, fd_196_38, fd_196_39, sf_196_39, fd_196_40, sf_196_40, fd_196_41, sf_196_41, fd_196_42, fd_196_43, fd_196_44, h5, n10, b_mo_image_13]
  rw [show E g q = E (upw g 197 (g 197)) q by rw [upw_g]]
  refine mi_lp (A := 198) (Bb := 197) (Or.inr ⟨rfl, rfl, rfl⟩) (s := g 198) (old := g 197) rfl ?_ 2955 0 _ rfl fun i => by rw [if_neg (by omega)]
  rw [imR_z h8 h7, b_mo_image_59]
  simp -implicitDefEqProofs (disch := first | assumption | omega) only [szS_0, szS_i, szS_r, szS_l, x_cons, x_goto, ob_some, kl_i, kl_r, kl_l, kl_n, push_n, push_s, pop_0, pop_i, pop_r, Int.reduceToNat, List.length_cons, List.length_nil, Nat.reduceAdd, Nat.reduceLeDiff, Nat.zero_add, true_and, nI_n0, nat_le, Nat.add_zero, i_1, rt_mo_image_0, rt_mo_image_1, rt_mo_image_b, x_al0, x_call, x_getf, x_goto, x_iaload, x_iastore, x_icge, x_ifeq, x_ifne, x_il1, x_il2, x_inc2, x_iret, x_is2, x_ldc, x_putf, ↓reduceIte, s_forgets, b_mo_image_67, e5, pu_g, pu_w, upw_s, upw_o, upw_w, pu_s]
  all_goals first | rfl | exact ⟨rfl, rfl⟩ | exact ⟨rfl, trivial⟩ | exact ⟨trivial, rfl⟩ | trivial
end MW
