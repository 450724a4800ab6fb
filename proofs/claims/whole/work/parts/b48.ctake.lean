/-! how the class takes the water -/
theorem wtS_t {w : Nat → Int32} {op : Nat → Nat} {fl N n : Nat} (hn : n < N) (hs : fd w n 0 = 1) : (wtS w op fl N).testBit n = wetP w (cmA w op fl n) n := by
  unfold wtS
  rw [bset_t, decide_eq_true hn, decide_eq_true hs, Bool.true_and, Bool.true_and]
theorem flN_3 {w : Nat → Int32} {fl : Nat} : ∀ n, (∀ m, m < n → fd w m 0 ≤ 2) → flN w fl n 3 = w 3 + nI (seS w (fun n => fd w n 5) fl n)
  | 0, _ => by
    show w 3 = w 3 + 0
    rw [Int32.add_zero]
  | n + 1, h => by
    have h1 := flN_3 (w := w) (fl := fl) n fun m hm => h m (by omega)
    have h2 := h n (by omega)
    have e : seS w (fun n => fd w n 5) fl (n + 1) = seS w (fun n => fd w n 5) fl n + (if fd w n 0 = 2 then cmA w (fun n => fd w n 5) fl n else 0) := rfl
    rw [e]
    unfold flN
    split
    next h0 => rw [if_neg (by omega), h1]; rfl
    next h0 =>
      split
      next h3 => rw [if_neg (by omega), drk_o (by omega) (by omega) (by omega) (by omega), h1]; rfl
      next h3 => rw [pu_s, if_pos (by omega), h1, ← nI_add, Int32.add_assoc]
theorem drk_12 {r w : Nat → Int32} {c t : Nat} : drk r w c t (10 + 20 * t + 12) = nI c := by
  unfold drk
  rw [pu_n (by omega), pu_n (by omega), pu_n (by omega), pu_s]
theorem drk_16 {r w : Nat → Int32} {c t : Nat} : drk r w c t (10 + 20 * t + 16) = nI (sto w c t) := by
  unfold drk
  rw [pu_n (by omega), pu_n (by omega), pu_s]
theorem drk_17 {r w : Nat → Int32} {c t : Nat} : drk r w c t (10 + 20 * t + 17) = nI (if wetP w c t = true then 1 else 0) := by
  unfold drk
  rw [pu_n (by omega), pu_s]
theorem drk_13 {r w : Nat → Int32} {c t : Nat} : drk r w c t (10 + 20 * t + 13) = nI (if wetP w c t = true then 0 else if 99 < fd w t 13 + 1 then 99 else fd w t 13 + 1) := by
  unfold drk
  rw [pu_s]
/-- the town rows that the water writes -/
def twR (t : Nat) (u : Nat → Int32) (g : Nat → Nat → Int32) : Prop := ∀ m, m < 16 → g (t + 12) m = u (10 + 20 * m + 16) ∧ g (t + 13) m = u (10 + 20 * m + 12) ∧ g (t + 14) m = u (10 + 20 * m + 13) ∧ g (t + 16) m = u (10 + 20 * m + 17)
section CY
variable {d : Nat} {g : Nat → Nat → Int32} {q : Nat → Nat → Int64} {P : QT} {t : Nat} {w : Nat → Int32}
theorem s_takeAt (hT : t = 1 ∨ t = 31 ∨ t = 61) (hw : WI w) {fl n N W : Nat} (hn : n < nn w) (hs : fd w n 0 = 1) (hfl : cmA w (fun n => fd w n 5) fl n ≤ 1998) (hW : W < 65536) (hWt : W.testBit n = wetP w (cmA w (fun n => fd w n 5) fl n) n) (h3 : g 175 3 = nI W) (h1 : g 176 n = nI (cmA w (fun n => fd w n 5) fl n)) (h2 : g 177 n = nI (sto w (cmA w (fun n => fd w n 5) fl n) n)) (hr : twR t (flN w fl n) g)
    (H : ∀ g', (∀ b, b ≠ t + 12 → b ≠ t + 13 → b ≠ t + 14 → b ≠ t + 16 → g' b = g b) → twR t (flN w fl (n + 1)) g' → P none (E g' q)) :
    callC (ev (d + 2)) ri_takeWaterAt [.ref 174, .ref (t + 6), .int (nI n)] (E g q) P := by
  refine in_ri_takeWaterAt rfl ?_
  have h0 := wi_n hw
  have hn16 : n < 16 := by omega
  have e13 := (hr n hn16).2.2.1
  rw [flN_n (Nat.le_refl _) (by decide)] at e13
  have hy13 := (wi_y hw hn16).2.2.2.1
  rw [hy13.1] at e13
  have l13 := hy13.2
  have eF : flN w fl (n + 1) = drk (flN w fl n) w (cmA w (fun n => fd w n 5) fl n) n := by
    show (if fd w n 0 = 0 then _ else _) = _
    rw [if_neg (by omega), if_pos hs]
  generalize cmA w (fun n => fd w n 5) fl n = c at *
  rw [eF] at H
  have fin : ∀ (X Y : Nat) (g1 : Nat → Nat → Int32), X = (if wetP w c n = true then 1 else 0) → Y = (if wetP w c n = true then 0 else if 99 < fd w n 13 + 1 then 99 else fd w n 13 + 1) → g1 = upw (upw (upw g (t + 13) (pu (g (t + 13)) n (nI c))) (t + 12) (pu (g (t + 12)) n (nI (sto w c n)))) (t + 16) (pu (g (t + 16)) n (nI X)) → P none (E (upw g1 (t + 14) (pu (g1 (t + 14)) n (nI Y))) q) := by
    intro X Y g1 hX hY hg
    refine H _ (fun b a1 a2 a3 a4 => by rw [upw_o a3, hg, upw_o a4, upw_o a1, upw_o a2]) fun m hm => ?_
    obtain ⟨m1, m2, m3, m4⟩ := hr m hm
    rw [upw_s, upw_o (by omega), upw_o (by omega), upw_o (by omega), hg, upw_o (by omega), upw_s, upw_o (by omega), upw_o (by omega), upw_s, upw_o (by omega), upw_o (by omega), upw_o (by omega), upw_s]
    unfold pu
    by_cases e : m = n
    · subst e
      rw [if_pos rfl, if_pos rfl, if_pos rfl, if_pos rfl, drk_12, drk_13, drk_16, drk_17, ← hX, ← hY]
      exact ⟨rfl, rfl, rfl, rfl⟩
    · rw [if_neg e, if_neg e, if_neg e, if_neg e, drk_o (by omega) (by omega) (by omega) (by omega), drk_o (by omega) (by omega) (by omega) (by omega), drk_o (by omega) (by omega) (by omega) (by omega), drk_o (by omega) (by omega) (by omega) (by omega)]
      exact ⟨m1, m2, m3, m4⟩
  rw [b_ri_takeWaterAt_0]
  simp -implicitDefEqProofs (disch := first | assumption | omega) only [szS_0, szS_i, szS_r, szS_l, x_cons, x_goto, ob_some, kl_i, kl_r, kl_l, kl_n, push_n, push_s, pop_0, pop_i, pop_r, Int.reduceToNat, List.length_cons, List.length_nil, Nat.reduceAdd, Nat.reduceLeDiff, Nat.zero_add, true_and, nI_n0, nat_le, Nat.add_zero, rt_ri_takeWaterAt, x_aaload, x_al0, x_al1, x_call, x_getf, x_goto, x_iadd, x_iaload, x_iastore, x_ifeq, x_il2, x_il3, x_is3, x_ldc, x_vret, fd_174_0, fd_174_1, fd_174_2, fd_174_3, fd_175_0, fd_175_1, fd_175_2, fd_175_3, sf_175_3, fd_175_4, sf_175_4, ld_176, sd_176, ln_176, ld_177, sd_177, ln_177, h3, s_holds, hWt, h1, h2, tf_6_0, tf_6_1, tf_6_2, tf_6_3, tf_6_4, tf_6_5, tf_6_6, tf_6_7, tf_6_8, tf_6_9, tf_6_10, ts_6_0, ts_6_1, ts_6_2, ts_6_3, ts_6_4, tr_0, tr_1, tr_2, tr_3, tr_4, tr_5, tr_6, tr_7, tl_12, td_12, tl_13, td_13, tl_14, td_14, tl_16, td_16, pu_g, upw_o, bI_0]
  by_cases hb : wetP w c n = true
  · simp only [hb, Bool.true_eq_false, ↓reduceIte] at fin ⊢
    simp -implicitDefEqProofs (disch := first | assumption | omega) only [b_ri_takeWaterAt_63, szS_0, szS_i, szS_r, szS_l, x_cons, x_goto, ob_some, kl_i, kl_r, kl_l, kl_n, push_n, push_s, pop_0, pop_i, pop_r, Int.reduceToNat, List.length_cons, List.length_nil, Nat.reduceAdd, Nat.reduceLeDiff, Nat.zero_add, true_and, nI_n0, nat_le, Nat.add_zero, rt_ri_takeWaterAt, x_aaload, x_al0, x_al1, x_call, x_getf, x_goto, x_iadd, x_iaload, x_iastore, x_ifeq, x_il2, x_il3, x_is3, x_ldc, x_vret, tf_6_0, tf_6_1, tf_6_2, tf_6_3, tf_6_4, tf_6_5, tf_6_6, tf_6_7, tf_6_8, tf_6_9, tf_6_10, ts_6_0, ts_6_1, ts_6_2, ts_6_3, ts_6_4, tr_0, tr_1, tr_2, tr_3, tr_4, tr_5, tr_6, tr_7, tl_12, td_12, tl_13, td_13, tl_14, td_14, tl_16, td_16, pu_g, upw_o, bI_0, Bool.true_eq_false, ↓reduceIte, b_ri_takeWaterAt_94]
    have := fin 1 0 _ rfl rfl rfl
    rw [upw_o (by omega), upw_o (by omega), upw_o (by omega)] at this
    exact this
  · have hb := bne_f hb
    simp only [hb, Bool.false_eq_true, ↓reduceIte] at fin ⊢
    simp -implicitDefEqProofs (disch := first | assumption | omega) only [b_ri_takeWaterAt_62, b_ri_takeWaterAt_63, szS_0, szS_i, szS_r, szS_l, x_cons, x_goto, ob_some, kl_i, kl_r, kl_l, kl_n, push_n, push_s, pop_0, pop_i, pop_r, Int.reduceToNat, List.length_cons, List.length_nil, Nat.reduceAdd, Nat.reduceLeDiff, Nat.zero_add, true_and, nI_n0, nat_le, Nat.add_zero, rt_ri_takeWaterAt, x_aaload, x_al0, x_al1, x_call, x_getf, x_goto, x_iadd, x_iaload, x_iastore, x_ifeq, x_il2, x_il3, x_is3, x_ldc, x_vret, tf_6_0, tf_6_1, tf_6_2, tf_6_3, tf_6_4, tf_6_5, tf_6_6, tf_6_7, tf_6_8, tf_6_9, tf_6_10, ts_6_0, ts_6_1, ts_6_2, ts_6_3, ts_6_4, tr_0, tr_1, tr_2, tr_3, tr_4, tr_5, tr_6, tr_7, tl_12, td_12, tl_13, td_13, tl_14, td_14, tl_16, td_16, pu_g, upw_o, bI_0, ↓reduceIte, b_ri_takeWaterAt_79, b_ri_takeWaterAt_94, e13, nI_add, s_jmin, nI_ltE, nI_ite]
    have := fin 0 (if 99 < fd w n 13 + 1 then 99 else fd w n 13 + 1) _ rfl rfl rfl
    rw [upw_o (by omega), upw_o (by omega), upw_o (by omega)] at this
    exact this
/-- the nodes alone are tied -/
def Ts (t : Nat) (w : Nat → Int32) (g : Nat → Nat → Int32) : Prop := g (t + 1) 0 = w 0 ∧ (∀ n, n < 16 → g (t + 2) n = w (10 + 20 * n) ∧ g (t + 3) n = w (10 + 20 * n + 1)) ∧ ∀ n a, n < 16 → a < 3 → g (t + 4) (n * 3 + a) = w (10 + 20 * n + (2 + a))
theorem ts_n (h : Ts t w g) : g (t + 1) 0 = w 0 := h.1
theorem ts_so (h : Ts t w g) {n : Nat} (hn : n < 16) : g (t + 2) n = w (10 + 20 * n) := (h.2.1 n hn).1
theorem ts_am (h : Ts t w g) {n : Nat} (hn : n < 16) : g (t + 3) n = w (10 + 20 * n + 1) := (h.2.1 n hn).2
theorem ts_to (h : Ts t w g) {n a : Nat} (hn : n < 16) (ha : a < 3) : g (t + 4) (n * 3 + a) = w (10 + 20 * n + (2 + a)) := h.2.2 n a hn ha
/-- what has come straight: of the nodes below n, of n by its arms below a -/
def cmP (w : Nat → Int32) (fl n a i j : Nat) : Nat := if i < n then cmF w (fun n => fd w n 5) fl i j else if i = n then sm (fun b => if tg w n b = j then snt w (fun n => fd w n 5) (cmA w (fun n => fd w n 5) fl n) n b else 0) a else 0
theorem tk_in (hT : t = 1 ∨ t = 31 ∨ t = 61) (hw : WI w) {fl : Nat} {g0 : Nat → Nat → Int32} (hc : Ts t w g0) (hW : watN w (fun n => fd w n 5) fl 175 (nn w) g0) {n : Nat} (hn : n < nn w)
    (H : ∀ g' o o2, (∀ b, b ≠ t + 12 → b ≠ t + 13 → b ≠ t + 14 → b ≠ t + 16 → b ≠ t + 20 → g' b = g0 b) → (∀ i j, i < 16 → j < 16 → g' (t + 20) (i * 16 + j) = nI (cmP w fl n (am w n) i j)) → twR t (flN w fl n) g' → wp (ev (d + 2)) P ri_takeWater 92 [some (.ref 174), some (.ref (t + 1)), some (.ref (t + 6)), some (.int (nI n)), o, o2] [] (E g' q)) :
    ∀ (j a : Nat) (g : Nat → Nat → Int32) (o2 : Option Value), a + j = am w n → (∀ b, b ≠ t + 12 → b ≠ t + 13 → b ≠ t + 14 → b ≠ t + 16 → b ≠ t + 20 → g b = g0 b) → (∀ i j, i < 16 → j < 16 → g (t + 20) (i * 16 + j) = nI (cmP w fl n a i j)) → twR t (flN w fl n) g →
    wp (ev (d + 2)) P ri_takeWater 37 [some (.ref 174), some (.ref (t + 1)), some (.ref (t + 6)), some (.int (nI n)), some (.int (nI a)), o2] [] (E g q) := by
  have h0 := wi_n hw
  have hn16 : n < 16 := by omega
  have ham := am_le hw hn16
  have ham3 : g0 (t + 3) n = nI (am w n) := by rw [ts_am hc hn16]; exact (wi_1 hw hn16).1
  intro j
  induction j with
  | zero =>
    intro a g o2 ha hr hC hR
    have ha : a = am w n := ha
    have e3 : g (t + 3) n = nI (am w n) := by rw [hr _ (by omega) (by omega) (by omega) (by omega) (by omega)]; exact ham3
    rw [ha, b_ri_takeWater_37]
    simp -implicitDefEqProofs (disch := first | assumption | omega) only [szS_0, szS_i, szS_r, szS_l, x_cons, x_goto, ob_some, kl_i, kl_r, kl_l, kl_n, push_n, push_s, pop_0, pop_i, pop_r, Int.reduceToNat, List.length_cons, List.length_nil, Nat.reduceAdd, Nat.reduceLeDiff, Nat.zero_add, true_and, nI_n0, nat_le, Nat.add_zero, i_1, rt_ri_takeWater, x_al0, x_al1, x_al2, x_call, x_dup2, x_dupi, x_dupr, x_getf, x_goto, x_iadd, x_iaload, x_iastore, x_icge, x_icne, x_il3, x_il4, x_il5, x_imul, x_inc3, x_inc4, x_is3, x_is4, x_is5, x_ldc, x_putf, x_vret, tf_1_0, tf_1_1, tf_1_2, tf_1_3, tf_1_4, ts_1_0, tl_3, td_3, e3, nI_ltE, Nat.lt_irrefl, ↓reduceIte]
    exact H g _ _ hr (by rw [← ha]; exact hC) hR
  | succ j ih =>
    intro a g o2 ha hr hC hR
    have ha' : a < am w n := by omega
    have htl := tg_lt hw hn16 ha'
    have e3 : g (t + 3) n = nI (am w n) := by rw [hr _ (by omega) (by omega) (by omega) (by omega) (by omega)]; exact ham3
    have e4 : g (t + 4) (n * 3 + a) = nI (tg w n a) := by
      rw [hr _ (by omega) (by omega) (by omega) (by omega) (by omega), ts_to hc hn16 (by omega)]
      exact (wi_t hw hn16 (by omega)).1
    have e5 : g 178 (n * 3 + a) = nI (snt w (fun n => fd w n 5) (cmA w (fun n => fd w n 5) fl n) n a) := by
      rw [hr _ (by omega) (by omega) (by omega) (by omega) (by omega)]
      exact hW.2.2.1 n a hn ha'
    have e6 := hC n (tg w n a) hn16 (by omega)
    rw [b_ri_takeWater_37]
    simp -implicitDefEqProofs (disch := first | assumption | omega) only [szS_0, szS_i, szS_r, szS_l, x_cons, x_goto, ob_some, kl_i, kl_r, kl_l, kl_n, push_n, push_s, pop_0, pop_i, pop_r, Int.reduceToNat, List.length_cons, List.length_nil, Nat.reduceAdd, Nat.reduceLeDiff, Nat.zero_add, true_and, nI_n0, nat_le, Nat.add_zero, i_1, rt_ri_takeWater, x_al0, x_al1, x_al2, x_call, x_dup2, x_dupi, x_dupr, x_getf, x_goto, x_iadd, x_iaload, x_iastore, x_icge, x_icne, x_il3, x_il4, x_il5, x_imul, x_inc3, x_inc4, x_is3, x_is4, x_is5, x_ldc, x_putf, x_vret, fd_174_0, fd_174_1, fd_174_2, fd_174_3, fd_175_0, fd_175_1, fd_175_2, fd_175_3, sf_175_3, fd_175_4, sf_175_4, ld_178, sd_178, ln_178, tf_1_0, tf_1_1, tf_1_2, tf_1_3, tf_1_4, ts_1_0, tl_3, td_3, tl_4, td_4, tf_6_0, tf_6_1, tf_6_2, tf_6_3, tf_6_4, tf_6_5, tf_6_6, tf_6_7, tf_6_8, tf_6_9, tf_6_10, ts_6_0, ts_6_1, ts_6_2, ts_6_3, ts_6_4, tl_20, td_20, e3, e4, e5, e6, nI_ltE, ha', ↓reduceIte, nI_mul, nI_add, pu_g]
    refine ih (a + 1) _ _ (by omega) (fun b a1 a2 a3 a4 a5 => by rw [upw_o a5, hr b a1 a2 a3 a4 a5]) (fun i j hi hj => ?_) fun m hm => by rw [upw_o (by omega), upw_o (by omega), upw_o (by omega), upw_o (by omega)]; exact hR m hm
    rw [upw_s]
    unfold pu
    by_cases e : i * 16 + j = n * 16 + tg w n a
    · have ei : i = n := by omega
      have ej : j = tg w n a := by omega
      rw [if_pos e, ei, ej]
      unfold cmP
      rw [if_neg (Nat.lt_irrefl n), if_pos rfl, if_neg (Nat.lt_irrefl n), if_pos rfl]
      show _ = nI (sm _ a + if tg w n a = tg w n a then _ else 0)
      rw [if_pos rfl]
    · rw [if_neg e, hC i j hi hj]
      unfold cmP
      by_cases e2 : i < n
      · rw [if_pos e2, if_pos e2]
      · rw [if_neg e2, if_neg e2]
        by_cases e3 : i = n
        · rw [if_pos e3, if_pos e3]
          show _ = nI (sm _ a + if tg w n a = j then _ else 0)
          rw [if_neg (by omega)]
          rfl
        · rw [if_neg e3, if_neg e3]
theorem tk_out (hT : t = 1 ∨ t = 31 ∨ t = 61) (hw : WI w) {fl : Nat} (hfl : fl ≤ 1998) {g0 : Nat → Nat → Int32} (hc : Ts t w g0) (hW : watN w (fun n => fd w n 5) fl 175 (nn w) g0)
    (H : ∀ g', (∀ b, b ≠ t + 12 → b ≠ t + 13 → b ≠ t + 14 → b ≠ t + 16 → b ≠ t + 20 → g' b = g0 b) → (∀ i j, i < 16 → j < 16 → g' (t + 20) (i * 16 + j) = nI (if i < nn w then cmF w (fun n => fd w n 5) fl i j else 0)) → twR t (flN w fl (nn w)) g' → P none (E g' q)) :
    ∀ (j n : Nat) (g : Nat → Nat → Int32) (o o2 : Option Value), n + j = nn w → (∀ b, b ≠ t + 12 → b ≠ t + 13 → b ≠ t + 14 → b ≠ t + 16 → b ≠ t + 20 → g b = g0 b) → (∀ i j, i < 16 → j < 16 → g (t + 20) (i * 16 + j) = nI (if i < n then cmF w (fun n => fd w n 5) fl i j else 0)) → twR t (flN w fl n) g →
    wp (ev (d + 2)) P ri_takeWater 26 [some (.ref 174), some (.ref (t + 1)), some (.ref (t + 6)), some (.int (nI n)), o, o2] [] (E g q) := by
  have h0 := wi_n hw
  intro j
  induction j with
  | zero =>
    intro n g o o2 hn hr hC hR
    have hn : n = nn w := hn
    have e1 : g (t + 1) 0 = nI (nn w) := by rw [hr _ (by omega) (by omega) (by omega) (by omega) (by omega), ts_n hc]; exact h0.1
    rw [b_ri_takeWater_26]
    simp -implicitDefEqProofs (disch := first | assumption | omega) only [szS_0, szS_i, szS_r, szS_l, x_cons, x_goto, ob_some, kl_i, kl_r, kl_l, kl_n, push_n, push_s, pop_0, pop_i, pop_r, Int.reduceToNat, List.length_cons, List.length_nil, Nat.reduceAdd, Nat.reduceLeDiff, Nat.zero_add, true_and, nI_n0, nat_le, Nat.add_zero, i_1, rt_ri_takeWater, x_al0, x_al1, x_al2, x_call, x_dup2, x_dupi, x_dupr, x_getf, x_goto, x_iadd, x_iaload, x_iastore, x_icge, x_icne, x_il3, x_il4, x_il5, x_imul, x_inc3, x_inc4, x_is3, x_is4, x_is5, x_ldc, x_putf, x_vret, tf_1_0, tf_1_1, tf_1_2, tf_1_3, tf_1_4, ts_1_0, e1, hn, nI_ltE, Nat.lt_irrefl, ↓reduceIte, b_ri_takeWater_114]
    rw [hn] at hC hR
    exact H g hr hC hR
  | succ j ih =>
    intro n g o o2 hn hr hC hR
    have hn' : n < nn w := by omega
    have hn16 : n < 16 := by omega
    have e1 : g (t + 1) 0 = nI (nn w) := by rw [hr _ (by omega) (by omega) (by omega) (by omega) (by omega), ts_n hc]; exact h0.1
    have hz := wi_0 hw hn16
    have hcl := cm_le hw (opO_w hw) (fl := fl) hn16
    rw [b_ri_takeWater_26]
    simp -implicitDefEqProofs (disch := first | assumption | omega) only [szS_0, szS_i, szS_r, szS_l, x_cons, x_goto, ob_some, kl_i, kl_r, kl_l, kl_n, push_n, push_s, pop_0, pop_i, pop_r, Int.reduceToNat, List.length_cons, List.length_nil, Nat.reduceAdd, Nat.reduceLeDiff, Nat.zero_add, true_and, nI_n0, nat_le, Nat.add_zero, i_1, rt_ri_takeWater, x_al0, x_al1, x_al2, x_call, x_dup2, x_dupi, x_dupr, x_getf, x_goto, x_iadd, x_iaload, x_iastore, x_icge, x_icne, x_il3, x_il4, x_il5, x_imul, x_inc3, x_inc4, x_is3, x_is4, x_is5, x_ldc, x_putf, x_vret, tf_1_0, tf_1_1, tf_1_2, tf_1_3, tf_1_4, ts_1_0, e1, nI_ltE, hn', ↓reduceIte]
    refine tk_in hT hw hc hW hn' (fun g1 o o2 f1 hC1 hR1 => ?_) (am w n) 0 g o2 (Nat.zero_add _) hr (fun i j hi hj => ?_) hR
    · have e2 : g1 (t + 2) n = nI (fd w n 0) := by rw [f1 _ (by omega) (by omega) (by omega) (by omega) (by omega), ts_so hc hn16]; exact hz.1
      have hC2 : ∀ i j, i < 16 → j < 16 → g1 (t + 20) (i * 16 + j) = nI (if i < n + 1 then cmF w (fun n => fd w n 5) fl i j else 0) := fun i j hi hj => by
        rw [hC1 i j hi hj]
        unfold cmP
        by_cases e : i < n
        · rw [if_pos e, if_pos (by omega)]
        · rw [if_neg e]
          by_cases e3 : i = n
          · rw [if_pos e3, if_pos (by omega), e3]
            rfl
          · rw [if_neg e3, if_neg (by omega)]
      rw [b_ri_takeWater_92]
      simp -implicitDefEqProofs (disch := first | assumption | omega) only [szS_0, szS_i, szS_r, szS_l, x_cons, x_goto, ob_some, kl_i, kl_r, kl_l, kl_n, push_n, push_s, pop_0, pop_i, pop_r, Int.reduceToNat, List.length_cons, List.length_nil, Nat.reduceAdd, Nat.reduceLeDiff, Nat.zero_add, true_and, nI_n0, nat_le, Nat.add_zero, i_1, rt_ri_takeWater, x_al0, x_al1, x_al2, x_call, x_dup2, x_dupi, x_dupr, x_getf, x_goto, x_iadd, x_iaload, x_iastore, x_icge, x_icne, x_il3, x_il4, x_il5, x_imul, x_inc3, x_inc4, x_is3, x_is4, x_is5, x_ldc, x_putf, x_vret, tf_1_0, tf_1_1, tf_1_2, tf_1_3, tf_1_4, ts_1_0, tl_2, td_2, e2, nI_eqE]
      by_cases k1 : fd w n 0 = 1
      · simp only [k1, ↓reduceIte]
        try simp -implicitDefEqProofs (disch := first | assumption | omega) only [szS_0, szS_i, szS_r, szS_l, x_cons, x_goto, ob_some, kl_i, kl_r, kl_l, kl_n, push_n, push_s, pop_0, pop_i, pop_r, Int.reduceToNat, List.length_cons, List.length_nil, Nat.reduceAdd, Nat.reduceLeDiff, Nat.zero_add, true_and, nI_n0, nat_le, Nat.add_zero, i_1, rt_ri_takeWater, x_al0, x_al1, x_al2, x_call, x_dup2, x_dupi, x_dupr, x_getf, x_goto, x_iadd, x_iaload, x_iastore, x_icge, x_icne, x_il3, x_il4, x_il5, x_imul, x_inc3, x_inc4, x_is3, x_is4, x_is5, x_ldc, x_putf, x_vret]
        refine s_takeAt hT hw (N := nn w) (W := wtS w (fun n => fd w n 5) fl (nn w)) hn' k1 (Nat.le_trans hcl hfl) (wtS_l (by omega)) (wtS_t hn' k1) (by rw [f1 _ (by omega) (by omega) (by omega) (by omega) (by omega)]; exact hW.2.2.2.1) (by rw [f1 _ (by omega) (by omega) (by omega) (by omega) (by omega), hW.1 n hn16, cmN_d hw _ (by omega) (by omega)]) (by rw [f1 _ (by omega) (by omega) (by omega) (by omega) (by omega)]; exact hW.2.1 n hn' k1) hR1 fun g2 f2 hR2 => ?_
        simp -implicitDefEqProofs (disch := first | assumption | omega) only [szS_0, szS_i, szS_r, szS_l, x_cons, x_goto, ob_some, kl_i, kl_r, kl_l, kl_n, push_n, push_s, pop_0, pop_i, pop_r, Int.reduceToNat, List.length_cons, List.length_nil, Nat.reduceAdd, Nat.reduceLeDiff, Nat.zero_add, true_and, nI_n0, nat_le, Nat.add_zero, i_1, rt_ri_takeWater, x_al0, x_al1, x_al2, x_call, x_dup2, x_dupi, x_dupr, x_getf, x_goto, x_iadd, x_iaload, x_iastore, x_icge, x_icne, x_il3, x_il4, x_il5, x_imul, x_inc3, x_inc4, x_is3, x_is4, x_is5, x_ldc, x_putf, x_vret, b_ri_takeWater_108, nI_add]
        exact ih (n + 1) g2 _ _ (by omega) (fun b a1 a2 a3 a4 a5 => by rw [f2 b a1 a2 a3 a4, f1 b a1 a2 a3 a4 a5]) (fun i j hi hj => by rw [f2 _ (by omega) (by omega) (by omega) (by omega)]; exact hC2 i j hi hj) hR2
      · simp only [k1, ↓reduceIte]
        try simp -implicitDefEqProofs (disch := first | assumption | omega) only [szS_0, szS_i, szS_r, szS_l, x_cons, x_goto, ob_some, kl_i, kl_r, kl_l, kl_n, push_n, push_s, pop_0, pop_i, pop_r, Int.reduceToNat, List.length_cons, List.length_nil, Nat.reduceAdd, Nat.reduceLeDiff, Nat.zero_add, true_and, nI_n0, nat_le, Nat.add_zero, i_1, rt_ri_takeWater, x_al0, x_al1, x_al2, x_call, x_dup2, x_dupi, x_dupr, x_getf, x_goto, x_iadd, x_iaload, x_iastore, x_icge, x_icne, x_il3, x_il4, x_il5, x_imul, x_inc3, x_inc4, x_is3, x_is4, x_is5, x_ldc, x_putf, x_vret, b_ri_takeWater_108, nI_add]
        refine ih (n + 1) g1 _ _ (by omega) f1 hC2 fun m hm => ?_
        have eF : flN w fl (n + 1) = if fd w n 0 = 0 then flN w fl n else pu (flN w fl n) 3 (flN w fl n 3 + nI (cmA w (fun n => fd w n 5) fl n)) := by
          show (if fd w n 0 = 0 then _ else if fd w n 0 = 1 then _ else _) = _
          rw [if_neg k1]
        rw [eF]
        split
        · exact hR1 m hm
        · rw [pu_n (by omega), pu_n (by omega), pu_n (by omega), pu_n (by omega)]
          exact hR1 m hm
    · rw [hC i j hi hj]
      unfold cmP
      by_cases e : i < n
      · rw [if_pos e, if_pos e]
      · rw [if_neg e, if_neg e]
        split <;> rfl
/-- of a Told nothing but its state changes, and there neither draws, lines nor settings -/
def fT (t : Nat) (g g' : Nat → Nat → Int32) : Prop := (∀ b, (b < t + 6 ∨ t + 20 < b) → g' b = g b) ∧ g' (t + 6) 3 = g (t + 6) 3 ∧ g' (t + 6) 4 = g (t + 6) 4 ∧ g' (t + 7) = g (t + 7)
theorem s_takeWater (hT : t = 1 ∨ t = 31 ∨ t = 61) (hw : WI w) {fl : Nat} (hfl : fl ≤ 1998) (hc : Tc t w g) (hW : watN w (fun n => fd w n 5) fl 175 (nn w) g) (H : ∀ g', fT t g g' → Tc t (flR w fl) g' → P none (E g' q)) :
    callC (ev (d + 3)) ri_takeWater [.ref 174, .ref (t + 1), .ref (t + 6)] (E g q) P := by
  refine in_ri_takeWater rfl ?_
  have h0 := wi_n hw
  have hseas : g (t + 6) 2 = w 3 := hc.1.2.2.2.1
  rw [b_ri_takeWater_0]
  simp -implicitDefEqProofs (disch := first | assumption | omega) only [szS_0, szS_i, szS_r, szS_l, x_cons, x_goto, ob_some, kl_i, kl_r, kl_l, kl_n, push_n, push_s, pop_0, pop_i, pop_r, Int.reduceToNat, List.length_cons, List.length_nil, Nat.reduceAdd, Nat.reduceLeDiff, Nat.zero_add, true_and, nI_n0, nat_le, Nat.add_zero, i_1, rt_ri_takeWater, x_al0, x_al1, x_al2, x_call, x_dup2, x_dupi, x_dupr, x_getf, x_goto, x_iadd, x_iaload, x_iastore, x_icge, x_icne, x_il3, x_il4, x_il5, x_imul, x_inc3, x_inc4, x_is3, x_is4, x_is5, x_ldc, x_putf, x_vret, tf_6_0, tf_6_1, tf_6_2, tf_6_3, tf_6_4, tf_6_5, tf_6_6, tf_6_7, tf_6_8, tf_6_9, tf_6_10, ts_6_0, ts_6_1, ts_6_2, ts_6_3, ts_6_4]
  refine s_fill (tk_20 hT) (by omega) (by decide) fun r1 hr1 => ?_
  simp -implicitDefEqProofs (disch := first | assumption | omega) only [szS_0, szS_i, szS_r, szS_l, x_cons, x_goto, ob_some, kl_i, kl_r, kl_l, kl_n, push_n, push_s, pop_0, pop_i, pop_r, Int.reduceToNat, List.length_cons, List.length_nil, Nat.reduceAdd, Nat.reduceLeDiff, Nat.zero_add, true_and, nI_n0, nat_le, Nat.add_zero, i_1, rt_ri_takeWater, x_al0, x_al1, x_al2, x_call, x_dup2, x_dupi, x_dupr, x_getf, x_goto, x_iadd, x_iaload, x_iastore, x_icge, x_icne, x_il3, x_il4, x_il5, x_imul, x_inc3, x_inc4, x_is3, x_is4, x_is5, x_ldc, x_putf, x_vret, tf_6_0, tf_6_1, tf_6_2, tf_6_3, tf_6_4, tf_6_5, tf_6_6, tf_6_7, tf_6_8, tf_6_9, tf_6_10, ts_6_0, ts_6_1, ts_6_2, ts_6_3, ts_6_4, fd_174_0, fd_174_1, fd_174_2, fd_174_3, fd_175_0, fd_175_1, fd_175_2, fd_175_3, sf_175_3, fd_175_4, sf_175_4, upw_o, hseas, hW.2.2.2.2, pu_g]
  obtain ⟨g1, hg1⟩ : ∃ g1, g1 = upw (upw g (t + 20) r1) (t + 6) (pu (g (t + 6)) 2 (w 3 + nI (seS w (fun n => fd w n 5) fl (nn w)))) := ⟨_, rfl⟩
  rw [← hg1]
  have g1o : ∀ b, b ≠ t + 6 → b ≠ t + 20 → g1 b = g b := fun b a1 a2 => by rw [hg1, upw_o a1, upw_o a2]
  have W1 : watN w (fun n => fd w n 5) fl 175 (nn w) g1 := by
    obtain ⟨a1, a2, a3, a4, a5⟩ := hW
    refine ⟨?_, ?_, ?_, ?_, ?_⟩
    · rw [g1o _ (by omega) (by omega)]; exact a1
    · rw [g1o _ (by omega) (by omega)]; exact a2
    · rw [g1o _ (by omega) (by omega)]; exact a3
    · rw [g1o _ (by omega) (by omega)]; exact a4
    · rw [g1o _ (by omega) (by omega)]; exact a5
  refine tk_out hT hw hfl (g0 := g1) ?_ W1 (fun g2 f2 hC2 hR2 => ?_) (nn w) 0 g1 none none (Nat.zero_add _) (fun _ _ _ _ _ _ => rfl) (fun i j hi hj => ?_) fun m hm => ?_
  · exact ⟨by rw [g1o _ (by omega) (by omega)]; exact hc.1.1, by rw [g1o _ (by omega) (by omega), g1o _ (by omega) (by omega)]; exact hc.2.1, by rw [g1o _ (by omega) (by omega)]; exact hc.2.2.1⟩
  · have o6 : ∀ k, k ≠ 2 → g2 (t + 6) k = g (t + 6) k := fun k hk => by rw [f2 _ (by omega) (by omega) (by omega) (by omega) (by omega), hg1, upw_s, pu_n hk]
    have s6 : g2 (t + 6) 2 = w 3 + nI (seS w (fun n => fd w n 5) fl (nn w)) := by rw [f2 _ (by omega) (by omega) (by omega) (by omega) (by omega), hg1, upw_s, pu_s]
    have o : ∀ b, b ≠ t + 6 → b ≠ t + 12 → b ≠ t + 13 → b ≠ t + 14 → b ≠ t + 16 → b ≠ t + 20 → g2 b = g b := fun b a0 a1 a2 a3 a4 a5 => by rw [f2 b a1 a2 a3 a4 a5, g1o b a0 a5]
    have hst := flR_stc hw (fl := fl)
    have eR : ∀ k, k < 340 → flR w fl k = flN w fl (nn w) k := fun k hk => cmw_o (by omega)
    obtain ⟨a1, a2, a3, a4, a5, a6, a7⟩ := hc
    refine H g2 ⟨fun b hb => o b (by omega) (by omega) (by omega) (by omega) (by omega) (by omega), o6 3 (by decide), o6 4 (by decide), o _ (by omega) (by omega) (by omega) (by omega) (by omega) (by omega)⟩ ⟨⟨?_, ?_, ?_, ?_, ?_, ?_⟩, fun n hn => ?_, fun n a hn ha => ?_, fun s m hs hm => ?_, fun n hn hs => ?_, fun n hn => ?_, fun k hk => ?_⟩
    · rw [o _ (by omega) (by omega) (by omega) (by omega) (by omega) (by omega), flR_o hw (by decide) (by omega) (by omega)]; exact a1.1
    · rw [o6 0 (by decide), flR_o hw (by decide) (by omega) (by omega)]; exact a1.2.1
    · rw [o6 1 (by decide), flR_o hw (by decide) (by omega) (by omega)]; exact a1.2.2.1
    · rw [s6, eR 3 (by decide), flN_3 _ fun m hm => (wi_0 hw (by omega)).2]
    · rw [o _ (by omega) (by omega) (by omega) (by omega) (by omega) (by omega), flR_o hw (by decide) (by omega) (by omega)]; exact a1.2.2.2.2.1
    · rw [o _ (by omega) (by omega) (by omega) (by omega) (by omega) (by omega), flR_o hw (by decide) (by omega) (by omega)]; exact a1.2.2.2.2.2
    · rw [o _ (by omega) (by omega) (by omega) (by omega) (by omega) (by omega), o (t + 3) (by omega) (by omega) (by omega) (by omega) (by omega) (by omega)]
      exact ⟨(a2 n hn).1.trans (hst.2 n 0 hn (by decide)).symm, (a2 n hn).2.trans (hst.2 n 1 hn (by decide)).symm⟩
    · rw [o _ (by omega) (by omega) (by omega) (by omega) (by omega) (by omega), hst.2 n (2 + a) hn (by omega)]; exact a3 n a hn ha
    · rw [stc_nn hst] at hs
      rw [o _ (by omega) (by omega) (by omega) (by omega) (by omega) (by omega), stc_far hw hst (by omega)]; exact a4 s m hs hm
    · rw [stc_nn hst] at hn
      rw [stc_fd hst (by omega) (by decide)] at hs
      have e : ∀ f, f < 12 → flR w fl (10 + 20 * n + f) = w (10 + 20 * n + f) := fun f hf => by
        rw [eR _ (by omega)]
        exact flN_t (by omega)
      rw [o _ (by omega) (by omega) (by omega) (by omega) (by omega) (by omega), o (t + 18) (by omega) (by omega) (by omega) (by omega) (by omega) (by omega), o (t + 19) (by omega) (by omega) (by omega) (by omega) (by omega) (by omega), e 5 (by decide), e 6 (by decide)]
      exact ⟨(a5 n hn hs).1, (a5 n hn hs).2.1, fun a ha => by rw [e (7 + a) (by omega)]; exact (a5 n hn hs).2.2 a ha⟩
    · have e : ∀ f, f < 12 ∨ f = 14 ∨ f = 15 → flR w fl (10 + 20 * n + f) = w (10 + 20 * n + f) := fun f hf => by
        rw [eR _ (by omega)]
        exact flN_t (by omega)
      obtain ⟨b0, b1, b2, b3, b4, b5, b6, b7⟩ := a6 n hn
      obtain ⟨c1, c2, c3, c4⟩ := hR2 n hn
      rw [o _ (by omega) (by omega) (by omega) (by omega) (by omega) (by omega), o (t + 10) (by omega) (by omega) (by omega) (by omega) (by omega) (by omega), o (t + 11) (by omega) (by omega) (by omega) (by omega) (by omega) (by omega), o (t + 15) (by omega) (by omega) (by omega) (by omega) (by omega) (by omega), e 10 (by omega), e 11 (by omega), e 14 (by omega), e 15 (by omega), eR _ (by omega), eR _ (by omega), eR _ (by omega), eR _ (by omega)]
      exact ⟨b0, b1, b2, c1, c2, c3, b6, c4⟩
    · have := hC2 (k / 16) (k % 16) (by omega) (by omega)
      rw [show k / 16 * 16 + k % 16 = k by omega] at this
      have e2 := cmw_i (w := flN w fl (nn w)) (c := fun i j => if i < nn w then cmF w (fun n => fd w n 5) fl i j else 0) (i := k / 16) (j := k % 16) (by omega) (by omega)
      rw [show 340 + 16 * (k / 16) + k % 16 = 340 + k by omega] at e2
      exact this.trans e2.symm
  · rw [hg1, upw_o (by omega), upw_s, hr1 _ (by omega)]
    rfl
  · have := tc_t hc hm
    rw [g1o _ (by omega) (by omega), g1o _ (by omega) (by omega), g1o _ (by omega) (by omega), g1o _ (by omega) (by omega)]
    exact ⟨this.2.2.2.1, this.2.2.2.2.1, this.2.2.2.2.2.1, this.2.2.2.2.2.2.2⟩
end CY
