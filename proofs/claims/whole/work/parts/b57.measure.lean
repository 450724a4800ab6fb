/-! how far each node is from each, as the class measures it -/
theorem pth_nn {w : Nat → Int32} (h : WI w) : ∀ (k s m : Nat), s < nn w → pth w k s m → m < nn w
  | 0, s, m, hs, e => by
    cases (show s = m from e)
    exact hs
  | k + 1, s, m, hs, ⟨a, ha, e⟩ => by
    have h0 := wi_n h
    exact pth_nn h k _ _ (tg_lt h (by omega) ha).2 e
theorem far_no {w : Nat → Int32} (h : WI w) {s m : Nat} (hs : s < nn w) (hm : m < s ∨ nn w ≤ m) : far w s m = 99 := by
  have h0 := wi_n h
  refine Classical.byContradiction fun hf => ?_
  obtain ⟨k, hk⟩ := (far_iff h (by omega)).mp hf
  have h1 := pth_le h k s m (by omega) hk
  have h2 := pth_nn h k s m hs hk
  omega
/-- a node's row when the arms below b are done -/
def rwb (w : Nat → Int32) (n b m : Nat) : Nat := if n = m then 0 else minA (fun a => far w (tg w n a) m + 1) b
theorem rwb_l (w : Nat → Int32) (n b m : Nat) : rwb w n b m ≤ 99 := by
  unfold rwb
  split
  · omega
  · exact minA_99 b
theorem rwb_s {w : Nat → Int32} {n b m : Nat} (h : far w (tg w n b) m = 99) : rwb w n (b + 1) m = rwb w n b m := by
  unfold rwb
  split
  · rfl
  · have := minA_99 (f := fun a => far w (tg w n a) m + 1) b
    show (if far w (tg w n b) m + 1 < _ then far w (tg w n b) m + 1 else _) = _
    rw [if_neg (by omega)]
theorem rwb_e {w : Nat → Int32} (h : WI w) {n m : Nat} (hn : n < 16) : rwb w n (am w n) m = far w n m := (far_rec h hn).symm
section ME2
variable {d : Nat} {g : Nat → Nat → Int32} {q : Nat → Nat → Int64} {P : QT} {t : Nat} {w : Nat → Int32}
theorem mb_lp (hT : t = 1 ∨ t = 31 ∨ t = 61) (hw : WI w) {n b : Nat} (hn : n < nn w) (hb : b < am w n) {g0 : Nat → Nat → Int32} (e0 : g0 (t + 1) 0 = nI (nn w)) (hx : ∀ m, m < 16 → g0 (t + 5) (tg w n b * 16 + m) = nN (far w (tg w n b) m))
    (H : ∀ g', (∀ c, c ≠ t + 5 → g' c = g0 c) → (∀ s m, s ≠ n → m < 16 → g' (t + 5) (s * 16 + m) = g0 (t + 5) (s * 16 + m)) → (∀ m, m < 16 → g' (t + 5) (n * 16 + m) = nN (rwb w n (b + 1) m)) → P none (E g' q)) :
    ∀ (j k : Nat) (g : Nat → Nat → Int32) (o4 o5 : Option Value), k + j = nn w → tg w n b ≤ k → (∀ c, c ≠ t + 5 → g c = g0 c) → (∀ s m, s ≠ n → m < 16 → g (t + 5) (s * 16 + m) = g0 (t + 5) (s * 16 + m)) → (∀ m, m < 16 → g (t + 5) (n * 16 + m) = nN (if m < k then rwb w n (b + 1) m else rwb w n b m)) →
    wp (ev d) P de_measureBy 2 [some (.ref (t + 1)), some (.int (nI n)), some (.int (nI (tg w n b))), some (.int (nI k)), o4, o5] [] (E g q) := by
  have hN := wi_n hw
  have ht := tg_lt hw (by omega) hb
  intro j
  induction j with
  | zero =>
    intro k g o4 o5 hk hk2 h1 h2 h3
    have hk : k = nn w := hk
    subst hk
    have e1 : g (t + 1) 0 = nI (nn w) := by rw [h1 _ (by omega)]; exact e0
    rw [b_de_measureBy_2]
    simp -implicitDefEqProofs (disch := first | assumption | omega) only [szS_0, szS_i, szS_r, szS_l, x_cons, x_goto, ob_some, kl_i, kl_r, kl_l, kl_n, push_n, push_s, pop_0, pop_i, pop_r, Int.reduceToNat, List.length_cons, List.length_nil, Nat.reduceAdd, Nat.reduceLeDiff, Nat.zero_add, true_and, nI_n0, nat_le, Nat.add_zero, i_1, rt_de_measureBy, x_al0, x_getf, x_goto, x_iadd, x_iaload, x_iastore, x_iceq, x_icge, x_il1, x_il2, x_il3, x_il4, x_il5, x_imul, x_inc3, x_is3, x_is4, x_is5, x_ldc, x_m1, x_vret, tf_1_0, tf_1_1, tf_1_2, tf_1_3, tf_1_4, ts_1_0, e1, nI_ltE, Nat.lt_irrefl, ↓reduceIte, b_de_measureBy_78]
    refine H g h1 h2 fun m hm => ?_
    rw [h3 m hm]
    by_cases e : m < nn w
    · rw [if_pos e]
    · rw [if_neg e, rwb_s (far_no hw ht.2 (Or.inr (by omega)))]
  | succ j ih =>
    intro k g o4 o5 hk hk2 h1 h2 h3
    have hk' : k < nn w := by omega
    have e1 : g (t + 1) 0 = nI (nn w) := by rw [h1 _ (by omega)]; exact e0
    have i1 : tg w n b * 16 + k < 256 := by omega
    have i2 : n * 16 + k < 256 := by omega
    have eF : g (t + 5) (tg w n b * 16 + k) = nN (far w (tg w n b) k) := by rw [h2 _ _ (by omega) (by omega), hx k (by omega)]
    have eK : g (t + 5) (n * 16 + k) = nN (rwb w n b k) := by rw [h3 k (by omega), if_neg (Nat.lt_irrefl _)]
    have lF := far_b hw (s := tg w n b) (m := k) (by omega)
    have l9 := far_99 hw (s := tg w n b) (m := k) (by omega)
    have lK := rwb_l w n b k
    have hz : (-1 : Int32) = nN 99 := rfl
    have skip : ∀ o4 o5, rwb w n (b + 1) k = rwb w n b k → wp (ev d) P de_measureBy 72 [some (.ref (t + 1)), some (.int (nI n)), some (.int (nI (tg w n b))), some (.int (nI k)), o4, o5] [] (E g q) := by
      intro o4 o5 he
      rw [b_de_measureBy_72]
      simp -implicitDefEqProofs (disch := first | assumption | omega) only [szS_0, szS_i, szS_r, szS_l, x_cons, x_goto, ob_some, kl_i, kl_r, kl_l, kl_n, push_n, push_s, pop_0, pop_i, pop_r, Int.reduceToNat, List.length_cons, List.length_nil, Nat.reduceAdd, Nat.reduceLeDiff, Nat.zero_add, true_and, nI_n0, nat_le, Nat.add_zero, i_1, rt_de_measureBy, x_al0, x_getf, x_goto, x_iadd, x_iaload, x_iastore, x_iceq, x_icge, x_il1, x_il2, x_il3, x_il4, x_il5, x_imul, x_inc3, x_is3, x_is4, x_is5, x_ldc, x_m1, x_vret, nI_add]
      refine ih (k + 1) g o4 o5 (by omega) (by omega) h1 h2 fun m hm => ?_
      rw [h3 m hm]
      by_cases e : m = k
      · rw [e, if_neg (Nat.lt_irrefl _), if_pos (Nat.lt_succ_self _), he]
      · by_cases e2 : m < k
        · rw [if_pos e2, if_pos (by omega)]
        · rw [if_neg e2, if_neg (by omega)]
    have eR : rwb w n (b + 1) k = if far w (tg w n b) k + 1 < rwb w n b k then far w (tg w n b) k + 1 else rwb w n b k := by
      have hne : ¬ n = k := by omega
      unfold rwb
      rw [if_neg hne, if_neg hne]
      rfl
    rw [b_de_measureBy_2]
    simp -implicitDefEqProofs (disch := first | assumption | omega) only [szS_0, szS_i, szS_r, szS_l, x_cons, x_goto, ob_some, kl_i, kl_r, kl_l, kl_n, push_n, push_s, pop_0, pop_i, pop_r, Int.reduceToNat, List.length_cons, List.length_nil, Nat.reduceAdd, Nat.reduceLeDiff, Nat.zero_add, true_and, nI_n0, nat_le, Nat.add_zero, i_1, rt_de_measureBy, x_al0, x_getf, x_goto, x_iadd, x_iaload, x_iastore, x_iceq, x_icge, x_il1, x_il2, x_il3, x_il4, x_il5, x_imul, x_inc3, x_is3, x_is4, x_is5, x_ldc, x_m1, x_vret, tf_1_0, tf_1_1, tf_1_2, tf_1_3, tf_1_4, ts_1_0, tl_5, td_5, e1, nI_ltE, hk', ↓reduceIte, nI_mul, nI_add, eF, eK, nN_1]
    by_cases c1 : far w (tg w n b) k = 99
    · rw [if_pos c1]
      exact skip _ _ (rwb_s c1)
    · have l15 : far w (tg w n b) k ≤ 15 := l9.resolve_left c1
      have eN : nN (far w (tg w n b) k) = nI (far w (tg w n b) k) := nN_n c1
      have wr : far w (tg w n b) k + 1 < rwb w n b k → ∀ o5, wp (ev d) P de_measureBy 57 [some (.ref (t + 1)), some (.int (nI n)), some (.int (nI (tg w n b))), some (.int (nI k)), some (.int (nI (far w (tg w n b) k))), o5] [] (E g q) := by
        intro hlt o5
        rw [if_pos hlt] at eR
        rw [b_de_measureBy_57]
        simp -implicitDefEqProofs (disch := first | assumption | omega) only [szS_0, szS_i, szS_r, szS_l, x_cons, x_goto, ob_some, kl_i, kl_r, kl_l, kl_n, push_n, push_s, pop_0, pop_i, pop_r, Int.reduceToNat, List.length_cons, List.length_nil, Nat.reduceAdd, Nat.reduceLeDiff, Nat.zero_add, true_and, nI_n0, nat_le, Nat.add_zero, i_1, rt_de_measureBy, x_al0, x_getf, x_goto, x_iadd, x_iaload, x_iastore, x_iceq, x_icge, x_il1, x_il2, x_il3, x_il4, x_il5, x_imul, x_inc3, x_is3, x_is4, x_is5, x_ldc, x_m1, x_vret, tf_1_0, tf_1_1, tf_1_2, tf_1_3, tf_1_4, ts_1_0, tl_5, td_5, nI_mul, nI_add, b_de_measureBy_72]
        refine ih (k + 1) _ _ _ (by omega) (by omega) (fun c hc => by rw [up2_o hc]; exact h1 c hc) (fun s m hs hm => by rw [up2_n (by omega)]; exact h2 s m hs hm) fun m hm => ?_
        by_cases e : m = k
        · rw [e, up2_s, if_pos (Nat.lt_succ_self _), eR, nN_n (by omega)]
        · rw [up2_n (by omega), h3 m hm]
          by_cases e2 : m < k
          · rw [if_pos e2, if_pos (by omega)]
          · rw [if_neg e2, if_neg (by omega)]
      rw [if_neg c1, eN]
      try simp -implicitDefEqProofs (disch := first | assumption | omega) only [szS_0, szS_i, szS_r, szS_l, x_cons, x_goto, ob_some, kl_i, kl_r, kl_l, kl_n, push_n, push_s, pop_0, pop_i, pop_r, Int.reduceToNat, List.length_cons, List.length_nil, Nat.reduceAdd, Nat.reduceLeDiff, Nat.zero_add, true_and, nI_n0, nat_le, Nat.add_zero, i_1, rt_de_measureBy, x_al0, x_getf, x_goto, x_iadd, x_iaload, x_iastore, x_iceq, x_icge, x_il1, x_il2, x_il3, x_il4, x_il5, x_imul, x_inc3, x_is3, x_is4, x_is5, x_ldc, x_m1, x_vret, nN_1]
      by_cases c2 : rwb w n b k = 99
      · rw [if_pos c2]
        exact wr (by omega) _
      · rw [if_neg c2, nN_n c2]
        simp -implicitDefEqProofs (disch := first | assumption | omega) only [szS_0, szS_i, szS_r, szS_l, x_cons, x_goto, ob_some, kl_i, kl_r, kl_l, kl_n, push_n, push_s, pop_0, pop_i, pop_r, Int.reduceToNat, List.length_cons, List.length_nil, Nat.reduceAdd, Nat.reduceLeDiff, Nat.zero_add, true_and, nI_n0, nat_le, Nat.add_zero, i_1, rt_de_measureBy, x_al0, x_getf, x_goto, x_iadd, x_iaload, x_iastore, x_iceq, x_icge, x_il1, x_il2, x_il3, x_il4, x_il5, x_imul, x_inc3, x_is3, x_is4, x_is5, x_ldc, x_m1, x_vret, nI_add, nI_ltE]
        by_cases c3 : far w (tg w n b) k + 1 < rwb w n b k
        · rw [if_pos c3]
          exact wr c3 _
        · rw [if_neg c3] at eR
          rw [if_neg c3]
          exact skip _ _ eR
theorem me_in (hT : t = 1 ∨ t = 31 ∨ t = 61) (hw : WI w) {n : Nat} (hn : n < nn w) {g0 : Nat → Nat → Int32} (hs : Ts t w g0) (hx : ∀ s m, n < s → s < nn w → m < 16 → g0 (t + 5) (s * 16 + m) = nN (far w s m))
    (H : ∀ g' o, (∀ c, c ≠ t + 5 → g' c = g0 c) → (∀ s m, s ≠ n → m < 16 → g' (t + 5) (s * 16 + m) = g0 (t + 5) (s * 16 + m)) → (∀ m, m < 16 → g' (t + 5) (n * 16 + m) = nN (far w n m)) → wp (ev (d + 1)) P de_measure 64 [some (.ref (t + 1)), some (.int (nI n)), o] [] (E g' q)) :
    ∀ (j b : Nat) (g : Nat → Nat → Int32), b + j = am w n → (∀ c, c ≠ t + 5 → g c = g0 c) → (∀ s m, s ≠ n → m < 16 → g (t + 5) (s * 16 + m) = g0 (t + 5) (s * 16 + m)) → (∀ m, m < 16 → g (t + 5) (n * 16 + m) = nN (rwb w n b m)) →
    wp (ev (d + 1)) P de_measure 33 [some (.ref (t + 1)), some (.int (nI n)), some (.int (nI b))] [] (E g q) := by
  have hN := wi_n hw
  have hn16 : n < 16 := by omega
  have ha := wi_1 hw hn16
  have ha3 := am_le hw hn16
  intro j
  induction j with
  | zero =>
    intro b g hb h1 h2 h3
    have hb : b = am w n := hb
    subst hb
    have e3 : g (t + 3) n = nI (am w n) := by rw [h1 _ (by omega), ts_am hs hn16]; exact ha.1
    rw [b_de_measure_33]
    simp -implicitDefEqProofs (disch := first | assumption | omega) only [szS_0, szS_i, szS_r, szS_l, x_cons, x_goto, ob_some, kl_i, kl_r, kl_l, kl_n, push_n, push_s, pop_0, pop_i, pop_r, Int.reduceToNat, List.length_cons, List.length_nil, Nat.reduceAdd, Nat.reduceLeDiff, Nat.zero_add, true_and, nI_n0, nat_le, Nat.add_zero, i_1, i_m1, rt_de_measure, x_al0, x_call, x_getf, x_goto, x_iadd, x_iaload, x_iastore, x_icge, x_iflt, x_il1, x_il2, x_imul, x_inc1, x_inc2, x_is1, x_is2, x_isub, x_ldc, x_m1, x_vret, tf_1_0, tf_1_1, tf_1_2, tf_1_3, tf_1_4, ts_1_0, tl_3, td_3, e3, nI_ltE, Nat.lt_irrefl, ↓reduceIte]
    exact H g _ h1 h2 fun m hm => by rw [h3 m hm, rwb_e hw hn16]
  | succ j ih =>
    intro b g hb h1 h2 h3
    have hb' : b < am w n := by omega
    have e3 : g (t + 3) n = nI (am w n) := by rw [h1 _ (by omega), ts_am hs hn16]; exact ha.1
    have et := wi_t hw hn16 (a := b) (by omega)
    have e4 : g (t + 4) (n * 3 + b) = nI (tg w n b) := by rw [h1 _ (by omega), ts_to hs hn16 (by omega)]; exact et.1
    have hlt := tg_lt hw hn16 hb'
    have e0 : g (t + 1) 0 = nI (nn w) := by rw [h1 _ (by omega), ts_n hs]; exact hN.1
    have hr : rcv de_measureBy [.ref (t + 1), .int (nI n), .int (nI (tg w n b))] (E g q) = true := by
      rcases hT with rfl | rfl | rfl <;> rfl
    rw [b_de_measure_33]
    simp -implicitDefEqProofs (disch := first | assumption | omega) only [szS_0, szS_i, szS_r, szS_l, x_cons, x_goto, ob_some, kl_i, kl_r, kl_l, kl_n, push_n, push_s, pop_0, pop_i, pop_r, Int.reduceToNat, List.length_cons, List.length_nil, Nat.reduceAdd, Nat.reduceLeDiff, Nat.zero_add, true_and, nI_n0, nat_le, Nat.add_zero, i_1, i_m1, rt_de_measure, x_al0, x_call, x_getf, x_goto, x_iadd, x_iaload, x_iastore, x_icge, x_iflt, x_il1, x_il2, x_imul, x_inc1, x_inc2, x_is1, x_is2, x_isub, x_ldc, x_m1, x_vret, tf_1_0, tf_1_1, tf_1_2, tf_1_3, tf_1_4, ts_1_0, tl_3, td_3, tl_4, td_4, e3, e4, nI_ltE, hb', ↓reduceIte, nI_mul, nI_add]
    refine in_de_measureBy hr ?_
    rw [b_de_measureBy_0]
    simp -implicitDefEqProofs (disch := first | assumption | omega) only [szS_0, szS_i, szS_r, szS_l, x_cons, x_goto, ob_some, kl_i, kl_r, kl_l, kl_n, push_n, push_s, pop_0, pop_i, pop_r, Int.reduceToNat, List.length_cons, List.length_nil, Nat.reduceAdd, Nat.reduceLeDiff, Nat.zero_add, true_and, nI_n0, nat_le, Nat.add_zero, i_1, rt_de_measureBy, x_al0, x_getf, x_goto, x_iadd, x_iaload, x_iastore, x_iceq, x_icge, x_il1, x_il2, x_il3, x_il4, x_il5, x_imul, x_inc3, x_is3, x_is4, x_is5, x_ldc, x_m1, x_vret]
    refine mb_lp hT hw hn hb' (g0 := g) e0 (fun m hm => by rw [h2 _ _ (by omega) hm]; exact hx _ m hlt.1 hlt.2 hm) (fun g1 f1 f2 f3 => ?_) (nn w - tg w n b) (tg w n b) g _ _ (by omega) (Nat.le_refl _) (fun _ _ => rfl) (fun _ _ _ _ => rfl) fun m hm => ?_
    · simp -implicitDefEqProofs (disch := first | assumption | omega) only [szS_0, szS_i, szS_r, szS_l, x_cons, x_goto, ob_some, kl_i, kl_r, kl_l, kl_n, push_n, push_s, pop_0, pop_i, pop_r, Int.reduceToNat, List.length_cons, List.length_nil, Nat.reduceAdd, Nat.reduceLeDiff, Nat.zero_add, true_and, nI_n0, nat_le, Nat.add_zero, i_1, i_m1, rt_de_measure, x_al0, x_call, x_getf, x_goto, x_iadd, x_iaload, x_iastore, x_icge, x_iflt, x_il1, x_il2, x_imul, x_inc1, x_inc2, x_is1, x_is2, x_isub, x_ldc, x_m1, x_vret, nI_add]
      exact ih (b + 1) g1 (by omega) (fun c hc => by rw [f1 c hc]; exact h1 c hc) (fun s m hs hm => by rw [f2 s m hs hm]; exact h2 s m hs hm) f3
    · rw [h3 m hm]
      by_cases e : m < tg w n b
      · rw [if_pos e, rwb_s (far_no hw hlt.2 (Or.inl e))]
      · rw [if_neg e]
theorem me_out (hT : t = 1 ∨ t = 31 ∨ t = 61) (hw : WI w) {g0 : Nat → Nat → Int32} (hs : Ts t w g0) (H : ∀ g', (∀ c, c ≠ t + 5 → g' c = g0 c) → (∀ s m, s < nn w → m < 16 → g' (t + 5) (s * 16 + m) = nN (far w s m)) → P none (E g' q)) :
    ∀ (i : Nat) (g : Nat → Nat → Int32) (o : Option Value), i ≤ nn w → (∀ c, c ≠ t + 5 → g c = g0 c) → (∀ s m, i ≤ s → s < nn w → m < 16 → g (t + 5) (s * 16 + m) = nN (far w s m)) → (∀ s m, s < i → m < 16 → g (t + 5) (s * 16 + m) = -1) →
    wp (ev (d + 1)) P de_measure 15 [some (.ref (t + 1)), some (.int (nI i - nI 1)), o] [] (E g q) := by
  have hN := wi_n hw
  intro i
  induction i with
  | zero =>
    intro g o hi h1 h2 h3
    rw [b_de_measure_15]
    simp -implicitDefEqProofs (disch := first | assumption | omega) only [szS_0, szS_i, szS_r, szS_l, x_cons, x_goto, ob_some, kl_i, kl_r, kl_l, kl_n, push_n, push_s, pop_0, pop_i, pop_r, Int.reduceToNat, List.length_cons, List.length_nil, Nat.reduceAdd, Nat.reduceLeDiff, Nat.zero_add, true_and, nI_n0, nat_le, Nat.add_zero, i_1, i_m1, rt_de_measure, x_al0, x_call, x_getf, x_goto, x_iadd, x_iaload, x_iastore, x_icge, x_iflt, x_il1, x_il2, x_imul, x_inc1, x_inc2, x_is1, x_is2, x_isub, x_ldc, x_m1, x_vret, nI_slt, Nat.zero_lt_one, ↓reduceIte, b_de_measure_70]
    exact H g h1 fun s m hs hm => h2 s m (Nat.zero_le _) hs hm
  | succ i ih =>
    intro g o hi h1 h2 h3
    have hl : ¬ i + 1 < 1 := by omega
    have hs' : Ts t w g := by
      unfold Ts
      rw [h1 (t + 1) (by omega), h1 (t + 2) (by omega), h1 (t + 3) (by omega), h1 (t + 4) (by omega)]
      exact hs
    rw [b_de_measure_15]
    simp -implicitDefEqProofs (disch := first | assumption | omega) only [szS_0, szS_i, szS_r, szS_l, x_cons, x_goto, ob_some, kl_i, kl_r, kl_l, kl_n, push_n, push_s, pop_0, pop_i, pop_r, Int.reduceToNat, List.length_cons, List.length_nil, Nat.reduceAdd, Nat.reduceLeDiff, Nat.zero_add, true_and, nI_n0, nat_le, Nat.add_zero, i_1, i_m1, rt_de_measure, x_al0, x_call, x_getf, x_goto, x_iadd, x_iaload, x_iastore, x_icge, x_iflt, x_il1, x_il2, x_imul, x_inc1, x_inc2, x_is1, x_is2, x_isub, x_ldc, x_m1, x_vret, nI_slt, hl, ↓reduceIte, nI_sub, Nat.add_sub_cancel, nI_ltE, Nat.not_lt_zero, tf_1_0, tf_1_1, tf_1_2, tf_1_3, tf_1_4, ts_1_0, tl_5, td_5, nI_mul, nI_add]
    have ts2 : Ts t w (up2 g (t + 5) (i * 16 + i) (nI 0)) := by
      unfold Ts
      rw [up2_o (by omega), up2_o (by omega), up2_o (by omega), up2_o (by omega)]
      exact hs'
    refine me_in hT hw (n := i) (by omega) ts2 (fun s m h4 h5 hm => by rw [up2_n (by omega)]; exact h2 s m h4 h5 hm) (fun g1 o1 f1 f2 f3 => ?_) (am w i) 0 _ (Nat.zero_add _) (fun _ _ => rfl) (fun _ _ _ _ => rfl) fun m hm => ?_
    · rw [b_de_measure_64]
      simp -implicitDefEqProofs (disch := first | assumption | omega) only [szS_0, szS_i, szS_r, szS_l, x_cons, x_goto, ob_some, kl_i, kl_r, kl_l, kl_n, push_n, push_s, pop_0, pop_i, pop_r, Int.reduceToNat, List.length_cons, List.length_nil, Nat.reduceAdd, Nat.reduceLeDiff, Nat.zero_add, true_and, nI_n0, nat_le, Nat.add_zero, i_1, i_m1, rt_de_measure, x_al0, x_call, x_getf, x_goto, x_iadd, x_iaload, x_iastore, x_icge, x_iflt, x_il1, x_il2, x_imul, x_inc1, x_inc2, x_is1, x_is2, x_isub, x_ldc, x_m1, x_vret, addm1]
      refine ih g1 o1 (by omega) (fun c hc => by rw [f1 c hc, up2_o hc]; exact h1 c hc) (fun s m h4 h5 hm => ?_) fun s m h4 hm => by rw [f2 s m (by omega) hm, up2_n (by omega)]; exact h3 s m (by omega) hm
      by_cases e : s = i
      · rw [e]
        exact f3 m hm
      · rw [f2 s m e hm, up2_n (by omega)]
        exact h2 s m (by omega) h5 hm
    · unfold rwb
      by_cases e : i = m
      · rw [if_pos e, ← e, up2_s]
        rfl
      · rw [if_neg e, up2_n (by omega), h3 i m (by omega) hm]
        rfl
theorem s_measure (hT : t = 1 ∨ t = 31 ∨ t = 61) (hw : WI w) (hs : Ts t w g) (H : ∀ g', (∀ c, c ≠ t + 5 → g' c = g c) → (∀ s m, s < nn w → m < 16 → g' (t + 5) (s * 16 + m) = nN (far w s m)) → P none (E g' q)) : callC (ev (d + 2)) de_measure [.ref (t + 1)] (E g q) P := by
  refine in_de_measure (by rcases hT with rfl | rfl | rfl <;> rfl) ?_
  have hN := wi_n hw
  have e0 : g (t + 1) 0 = nI (nn w) := by rw [ts_n hs]; exact hN.1
  rw [b_de_measure_0]
  simp -implicitDefEqProofs (disch := first | assumption | omega) only [szS_0, szS_i, szS_r, szS_l, x_cons, x_goto, ob_some, kl_i, kl_r, kl_l, kl_n, push_n, push_s, pop_0, pop_i, pop_r, Int.reduceToNat, List.length_cons, List.length_nil, Nat.reduceAdd, Nat.reduceLeDiff, Nat.zero_add, true_and, nI_n0, nat_le, Nat.add_zero, i_1, i_m1, rt_de_measure, x_al0, x_call, x_getf, x_goto, x_iadd, x_iaload, x_iastore, x_icge, x_iflt, x_il1, x_il2, x_imul, x_inc1, x_inc2, x_is1, x_is2, x_isub, x_ldc, x_m1, x_vret, tf_1_0, tf_1_1, tf_1_2, tf_1_3, tf_1_4, ts_1_0]
  refine s_fill (tk_5 hT) (by omega) (by decide) fun r hr => ?_
  simp -implicitDefEqProofs (disch := first | assumption | omega) only [szS_0, szS_i, szS_r, szS_l, x_cons, x_goto, ob_some, kl_i, kl_r, kl_l, kl_n, push_n, push_s, pop_0, pop_i, pop_r, Int.reduceToNat, List.length_cons, List.length_nil, Nat.reduceAdd, Nat.reduceLeDiff, Nat.zero_add, true_and, nI_n0, nat_le, Nat.add_zero, i_1, i_m1, rt_de_measure, x_al0, x_call, x_getf, x_goto, x_iadd, x_iaload, x_iastore, x_icge, x_iflt, x_il1, x_il2, x_imul, x_inc1, x_inc2, x_is1, x_is2, x_isub, x_ldc, x_m1, x_vret, tf_1_0, tf_1_1, tf_1_2, tf_1_3, tf_1_4, ts_1_0, upw_o, e0]
  refine me_out hT hw (g0 := g) hs H (nn w) _ none (Nat.le_refl _) (fun c hc => upw_o hc) (fun s m h1 h2 _ => absurd h1 (by omega)) fun s m hs hm => ?_
  rw [upw_s]
  exact hr _ (by omega)
end ME2
