/-! the class's evening: the whole -/
theorem vsum_g {V : LW} {w : Nat → Int32} {f a t : Nat} (hf : f < t) (hs : fd w t 0 = 1) : ∀ n, t < n → vt V w t f a ≤ vsum V w f a n
  | 0, h => absurd h (Nat.not_lt_zero t)
  | n + 1, h => by
    unfold vsum
    by_cases e : t = n
    · rw [e] at hf hs ⊢
      rw [if_pos ⟨hf, hs⟩]
      omega
    · have := vsum_g (V := V) (a := a) hf hs n (by omega)
      omega
theorem dfq_z {V : LW} {w : Nat → Int32} {f : Nat} (h : mst V w f = 0) {s t : Nat} (ht : t < nn w) : dfq V w f s t = false := by
  unfold dfq
  by_cases e : f < t ∧ fd w t 0 = 1
  · have hv : vtd V w f t = 0 := bset_f _ fun a ha => by
      have h1 := vsum_g (V := V) (a := a) e.1 e.2 (nn w) ht
      have h2 : tot V w f a ≤ mst V w f := mxT_le ha
      have h3 : vsum V w f a (nn w) ≤ tot V w f a := Nat.le_add_right _ _
      rw [decide_eq_false_iff_not]
      omega
    rw [hv]
    simp
  · rw [decide_eq_false e]
    rfl
theorem dfR_z {V : LW} {w : Nat → Int32} {f : Nat} (h : mst V w f = 0) {s : Nat} : ∀ n, n ≤ nn w → dfR V w f s n = w
  | 0, _ => rfl
  | n + 1, hn => by
    unfold dfR
    rw [dfq_z h (by omega), dfR_z h n (by omega), if_neg Bool.false_ne_true]
/-- the row behind the evening, but for its book -/
def evQ (V : LW) (w : Nat → Int32) (f : Nat) : Nat → Int32 := bz (opR V w f) f 3
theorem evQ_2 {V : LW} {w : Nat → Int32} {f : Nat} : evQ V w f 2 = w 2 := by
  unfold evQ
  rw [bz_o 3 fun a ha => by omega]
  unfold opR
  split
  · rfl
  · rw [pu_n (by omega), pu_n (by omega), dfR_o _ fun t ht => by omega]
theorem evR_q {V : LW} {w : Nat → Int32} (h : WI w) {f k : Nat} (hk : k ≠ 2) (hk2 : k < 600 ∨ 1200 ≤ k) : evR V w f k = evQ V w f k := by
  have h2 := (wi_2 h).2
  have e2 : vN (evQ V w f) 2 = vN w 2 := congrArg ix evQ_2
  show bkR (evQ V w f) f _ k = _
  unfold bkR
  split
  · rfl
  next hne =>
    rw [e2] at hne
    unfold bk1
    rw [e2, pu_n hk, pu_n (by omega), pu_n (by omega), pu_n (by omega), pu_n (by omega)]
theorem evQ_o {V : LW} {w : Nat → Int32} {f k : Nat} (h5 : ∀ a, a < 5 → k ≠ 10 + 20 * f + (5 + a)) : evQ V w f k = dfR V w f (wnO V w f) (nn w) k := by
  unfold evQ
  rw [bz_o 3 fun a ha => by have := h5 (2 + a) (by omega); omega]
  unfold opR wnO
  split
  next h =>
    rw [if_pos (wset_0.mp h), dfR_z (wset_0.mp h) _ (Nat.le_refl _)]
  next h => rw [if_neg fun e => h (wset_0.mpr e), pu_n (by have := h5 1 (by omega); omega), pu_n (by have := h5 0 (by omega); omega)]
theorem evQ_7 {V : LW} {w : Nat → Int32} {f a : Nat} (ha : a < 3) : evQ V w f (10 + 20 * f + (7 + a)) = nI 0 := by
  unfold evQ bz bz bz
  match a, ha with
  | 0, _ => rw [pu_n (by omega), pu_n (by omega)]; exact pu_s
  | 1, _ => rw [pu_n (by omega)]; exact pu_s
  | 2, _ => exact pu_s
theorem evQ_5 {V : LW} {w : Nat → Int32} (h : WI w) {f : Nat} (hf : f < 16) : evQ V w f (10 + 20 * f + 5) = nI (wnO V w f) := by
  unfold evQ
  rw [bz_o 3 fun a ha => by omega]
  unfold opR wnO
  split
  next hs => rw [if_pos (wset_0.mp hs)]; exact (wi_x h hf).1.1
  next hs => rw [if_neg fun e => hs (wset_0.mpr e), pu_n (by omega), pu_s]
theorem evQ_6 {V : LW} {w : Nat → Int32} {f : Nat} : evQ V w f (10 + 20 * f + 6) = if wset V w f = 0 then w (10 + 20 * f + 6) else nI (wonN V w f) := by
  unfold evQ
  rw [bz_o 3 fun a ha => by omega]
  unfold opR
  split
  · rfl
  · rw [pu_s]
/-- what an evening may change -/
def fE (t : Nat) (g g' : Nat → Nat → Int32) : Prop := (∀ b, b ≠ 179 → b ≠ 180 → b ≠ 181 → b ≠ t + 24 → b ≠ t + 6 → b ≠ t + 11 → b ≠ t + 15 → b ≠ t + 17 → b ≠ t + 18 → b ≠ t + 19 → b ≠ t + 29 → g' b = g b) ∧ g' (t + 6) 3 = g (t + 6) 3
section CH
variable {d : Nat} {g : Nat → Nat → Int32} {q : Nat → Nat → Int64} {P : QT} {t : Nat} {w : Nat → Int32}
theorem s_holdVote (hT : t = 1 ∨ t = 31 ∨ t = 61) (hw : WI w) (hc : Tc t w g) {V M : LW} (hL : CL t g V M) {bk : Bool} (hb : bkT bk t w g) {f : Nat} (hf : f < nn w) (h0 : fd w f 0 = 0)
    (H : ∀ g', fE t g g' → Tc t (evX V w f) g' → bkT bk t (evX V w f) g' → P none (E g' q)) : callC (ev (d + 5)) ri_holdVote [.ref 174, .ref t, .int (nI f)] (E g q) P := by
  refine in_ri_holdVote rfl ?_
  have hN := wi_n hw
  have hf16 : f < 16 := by omega
  have ham := am_le hw hf16
  have hp : 2 ^ am w f ≤ 2 ^ 3 := Nat.pow_le_pow_right (by decide) ham
  have hx := wi_x hw hf16
  have hcf := tc_f hc hf h0
  have hml : mst V w f ≤ 6000999 := mxT_b _ fun b hb => tot_l hw hf16 (by omega)
  have hsl := wset_lt V w f
  have hwo : wnO V w f < 8 := by
    unfold wnO
    split <;> omega
  obtain ⟨l, hl, hl4⟩ : ∃ l, l ≤ 150 ∧ g (t + 6) 4 = nI l := by
    cases bk
    · exact hb.2
    · have h2 := wi_2 hw
      have hb1 : g (t + 6) 4 = w 2 := hb.1
      exact ⟨vN w 2, h2.2, by rw [hb1]; exact h2.1⟩
  rw [b_ri_holdVote_0]
  simp -implicitDefEqProofs (disch := first | assumption | omega) only [szS_0, szS_i, szS_r, szS_l, x_cons, x_goto, ob_some, kl_i, kl_r, kl_l, kl_n, push_n, push_s, pop_0, pop_i, pop_r, Int.reduceToNat, List.length_cons, List.length_nil, Nat.reduceAdd, Nat.reduceLeDiff, Nat.zero_add, true_and, nI_n0, nat_le, Nat.add_zero, rt_ri_holdVote, x_al0, x_al1, x_call, x_getf, x_iadd, x_ifle, x_il2, x_il3, x_imul, x_is3, x_ldc, x_vret]
  refine s_countVotes hT hw hc hL hf h0 fun g1 f1 hcn => ?_
  have o1 : ∀ b, b ≠ 179 → b ≠ 180 → b ≠ 181 → b ≠ t + 24 → g1 b = g b := f1
  have a3 : g1 (t + 3) f = nI (am w f) := by rw [o1 _ (by omega) (by omega) (by omega) (by omega), tc_am hc hf16]; exact (wi_1 hw hf16).1
  have a1 : g1 (t + 1) 0 = nI (nn w) := by rw [o1 _ (by omega) (by omega) (by omega) (by omega), tc_n hc]; exact hN.1
  have v1 : ∀ a, a < am w f → g1 179 a = nI (vfor V w f a) := fun a ha => by rw [hcn.1 a (by omega), if_pos ha]
  have v2 : ∀ a, a < 3 → g1 (t + 19) (f * 3 + a) = nI (fd w f (7 + a)) := fun a ha => by rw [o1 _ (by omega) (by omega) (by omega) (by omega), hcf.2.2 a ha]; exact (wi_b hw hf16 ha).1
  have v5 : g1 (t + 17) f = nI (fd w f 5) := by rw [o1 _ (by omega) (by omega) (by omega) (by omega), hcf.1]; exact hx.1.1
  have v6 : g1 (t + 18) f = nI (fd w f 6) := by rw [o1 _ (by omega) (by omega) (by omega) (by omega), hcf.2.1]; exact hx.2.1.1
  simp -implicitDefEqProofs (disch := first | assumption | omega) only [szS_0, szS_i, szS_r, szS_l, x_cons, x_goto, ob_some, kl_i, kl_r, kl_l, kl_n, push_n, push_s, pop_0, pop_i, pop_r, Int.reduceToNat, List.length_cons, List.length_nil, Nat.reduceAdd, Nat.reduceLeDiff, Nat.zero_add, true_and, nI_n0, nat_le, Nat.add_zero, rt_ri_holdVote, x_al0, x_al1, x_call, x_getf, x_iadd, x_ifle, x_il2, x_il3, x_imul, x_is3, x_ldc, x_vret]
  rw [s_mostFor hT hw hf16 a3 v1 v2]
  simp -implicitDefEqProofs (disch := first | assumption | omega) only [szS_0, szS_i, szS_r, szS_l, x_cons, x_goto, ob_some, kl_i, kl_r, kl_l, kl_n, push_n, push_s, pop_0, pop_i, pop_r, Int.reduceToNat, List.length_cons, List.length_nil, Nat.reduceAdd, Nat.reduceLeDiff, Nat.zero_add, true_and, nI_n0, nat_le, Nat.add_zero, rt_ri_holdVote, x_al0, x_al1, x_call, x_getf, x_iadd, x_ifle, x_il2, x_il3, x_imul, x_is3, x_ldc, x_vret, nI_leE]
  -- behind the arms that are open then
  have rest : ∀ (g2 : Nat → Nat → Int32), (∀ b, b ≠ t + 6 → b ≠ t + 17 → b ≠ t + 18 → g2 b = g1 b) → (∀ k, k ≠ 1 → g2 (t + 6) k = g1 (t + 6) k) → g2 (t + 6) 1 = w 4 + nI (if flq V w f = true then 1 else 0) → g2 (t + 17) = pu (g1 (t + 17)) f (nI (wnO V w f)) → g2 (t + 18) = pu (g1 (t + 18)) f (evQ V w f (10 + 20 * f + 6)) →
      wp (ev (d + 4)) P ri_holdVote 32 [some (.ref 174), some (.ref t), some (.int (nI f)), some (.int (nI (mst V w f)))] [] (E g2 q) := by
    intro g2 f2 k2 k1 e17 e18
    have ht := fun m hm => tc_t hc (n := m) hm
    rw [b_ri_holdVote_32]
    simp -implicitDefEqProofs (disch := first | assumption | omega) only [szS_0, szS_i, szS_r, szS_l, x_cons, x_goto, ob_some, kl_i, kl_r, kl_l, kl_n, push_n, push_s, pop_0, pop_i, pop_r, Int.reduceToNat, List.length_cons, List.length_nil, Nat.reduceAdd, Nat.reduceLeDiff, Nat.zero_add, true_and, nI_n0, nat_le, Nat.add_zero, rt_ri_holdVote, x_al0, x_al1, x_call, x_getf, x_iadd, x_ifle, x_il2, x_il3, x_imul, x_is3, x_ldc, x_vret]
    refine s_countDefeats hT hw hf hwo (by rw [f2 _ (by omega) (by omega) (by omega)]; exact a1) (by rw [f2 _ (by omega) (by omega) (by omega)]; exact a3) (fun m b hm hb => by rw [f2 _ (by omega) (by omega) (by omega)]; exact hcn.2 m b hm hb) (s := wnO V w f) (by rw [e17, pu_s]) (fun m hm => by
      rw [f2 _ (by omega) (by omega) (by omega), f2 (t + 15) (by omega) (by omega) (by omega), o1 _ (by omega) (by omega) (by omega) (by omega), o1 (t + 15) (by omega) (by omega) (by omega) (by omega)]
      exact ⟨(ht m hm).2.2.1, (ht m hm).2.2.2.2.2.2.1⟩) fun g3 f3 hR3 => ?_
    simp -implicitDefEqProofs (disch := first | assumption | omega) only [szS_0, szS_i, szS_r, szS_l, x_cons, x_goto, ob_some, kl_i, kl_r, kl_l, kl_n, push_n, push_s, pop_0, pop_i, pop_r, Int.reduceToNat, List.length_cons, List.length_nil, Nat.reduceAdd, Nat.reduceLeDiff, Nat.zero_add, true_and, nI_n0, nat_le, Nat.add_zero, rt_ri_holdVote, x_al0, x_al1, x_call, x_getf, x_iadd, x_ifle, x_il2, x_il3, x_imul, x_is3, x_ldc, x_vret, tf_0_0, tf_0_1, tf_0_2, tf_0_3, tf_0_4, tf_6_0, tf_6_1, tf_6_2, tf_6_3, tf_6_4, tf_6_5, tf_6_6, tf_6_7, tf_6_8, tf_6_9, tf_6_10, ts_6_0, ts_6_1, ts_6_2, ts_6_3, ts_6_4, nI_mul, nI_add]
    refine s_fill4 (tk_19 hT) (by omega) (by decide) (by omega) (by omega) fun r4 hr4 => ?_
    obtain ⟨g4, hg4⟩ : ∃ g4, g4 = upw g3 (t + 19) r4 := ⟨_, rfl⟩
    rw [← hg4]
    have o4 : ∀ b, b ≠ 179 → b ≠ 180 → b ≠ 181 → b ≠ t + 24 → b ≠ t + 6 → b ≠ t + 11 → b ≠ t + 15 → b ≠ t + 17 → b ≠ t + 18 → b ≠ t + 19 → g4 b = g b := fun b x1 x2 x3 x4 x5 x6 x7 x8 x9 x10 => by
      rw [hg4, upw_o x10, f3 b x6 x7, f2 b x5 x8 x9, o1 b x1 x2 x3 x4]
    have k4 : ∀ k, k ≠ 1 → g4 (t + 6) k = g (t + 6) k := fun k hk => by rw [hg4, upw_o (by omega), f3 _ (by omega) (by omega), k2 k hk, o1 _ (by omega) (by omega) (by omega) (by omega)]
    have e41 : g4 (t + 6) 1 = w 4 + nI (if flq V w f = true then 1 else 0) := by rw [hg4, upw_o (by omega), f3 _ (by omega) (by omega), k1]
    have e4l : g4 (t + 6) 4 = nI l := by rw [k4 4 (by decide), hl4]
    have e417 : g4 (t + 17) = pu (g (t + 17)) f (nI (wnO V w f)) := by rw [hg4, upw_o (by omega), f3 _ (by omega) (by omega), e17, o1 _ (by omega) (by omega) (by omega) (by omega)]
    have e418 : g4 (t + 18) = pu (g (t + 18)) f (evQ V w f (10 + 20 * f + 6)) := by rw [hg4, upw_o (by omega), f3 _ (by omega) (by omega), e18, o1 _ (by omega) (by omega) (by omega) (by omega)]
    have e419 : ∀ k, g4 (t + 19) k = if f * 3 ≤ k ∧ k < f * 3 + 3 then nI 0 else g (t + 19) k := fun k => by
      rw [hg4, upw_s, hr4, f3 _ (by omega) (by omega), f2 _ (by omega) (by omega) (by omega), o1 _ (by omega) (by omega) (by omega) (by omega)]
    have R4 : dwR t (dfR V w f (wnO V w f) (nn w)) g4 := fun m hm => by
      rw [hg4, upw_o (by omega), upw_o (by omega)]
      exact hR3 m hm
    simp -implicitDefEqProofs (disch := first | assumption | omega) only [szS_0, szS_i, szS_r, szS_l, x_cons, x_goto, ob_some, kl_i, kl_r, kl_l, kl_n, push_n, push_s, pop_0, pop_i, pop_r, Int.reduceToNat, List.length_cons, List.length_nil, Nat.reduceAdd, Nat.reduceLeDiff, Nat.zero_add, true_and, nI_n0, nat_le, Nat.add_zero, rt_ri_holdVote, x_al0, x_al1, x_call, x_getf, x_iadd, x_ifle, x_il2, x_il3, x_imul, x_is3, x_ldc, x_vret]
    rw [s_writeLine hT hf16 hl e4l]
    simp -implicitDefEqProofs (disch := first | assumption | omega) only [szS_0, szS_i, szS_r, szS_l, x_cons, x_goto, ob_some, kl_i, kl_r, kl_l, kl_n, push_n, push_s, pop_0, pop_i, pop_r, Int.reduceToNat, List.length_cons, List.length_nil, Nat.reduceAdd, Nat.reduceLeDiff, Nat.zero_add, true_and, nI_n0, nat_le, Nat.add_zero, rt_ri_holdVote, x_al0, x_al1, x_call, x_getf, x_iadd, x_ifle, x_il2, x_il3, x_imul, x_is3, x_ldc, x_vret]
    -- the end
    obtain ⟨g5, hg5⟩ : ∃ g5, g5 = (if l = 150 then g4 else upw (upw g4 (t + 29) (pu (pu (pu (pu (g4 (t + 29)) (l * 4) (g4 (t + 6) 0)) (l * 4 + 1) (nI f)) (l * 4 + 2) (g4 (t + 17) f)) (l * 4 + 3) (nI (mst V w f)))) (t + 6) (pu (g4 (t + 6)) 4 (nI (l + 1)))) := ⟨_, rfl⟩
    rw [← hg5]
    have o5 : ∀ b, b ≠ t + 29 → b ≠ t + 6 → g5 b = g4 b := fun b x1 x2 => by
      rw [hg5]
      split
      · rfl
      · rw [upw_o x2, upw_o x1]
    have k5 : ∀ k, k ≠ 4 → g5 (t + 6) k = g4 (t + 6) k := fun k hk => by
      rw [hg5]
      split
      · rfl
      · rw [upw_s, pu_n hk]
    have oo : ∀ b, b ≠ 179 → b ≠ 180 → b ≠ 181 → b ≠ t + 24 → b ≠ t + 6 → b ≠ t + 11 → b ≠ t + 15 → b ≠ t + 17 → b ≠ t + 18 → b ≠ t + 19 → b ≠ t + 29 → g5 b = g b := fun b x1 x2 x3 x4 x5 x6 x7 x8 x9 x10 x11 => by rw [o5 b x11 x5, o4 b x1 x2 x3 x4 x5 x6 x7 x8 x9 x10]
    have hst := evX_stc hw (V := V) (f := f)
    have X : ∀ k, k ≠ 2 → k ≠ 4 → (k < 600 ∨ 1200 ≤ k) → evX V w f k = evQ V w f k := fun k h2 h4 hk => by
      unfold evX
      rw [pu_n h4, evR_q hw h2 hk]
    have Xd : ∀ k, k ≠ 2 → k ≠ 4 → (k < 600 ∨ 1200 ≤ k) → (∀ a, a < 5 → k ≠ 10 + 20 * f + (5 + a)) → evX V w f k = dfR V w f (wnO V w f) (nn w) k := fun k h2 h4 hk h5 => by rw [X k h2 h4 hk, evQ_o h5]
    have Xw : ∀ k, k ≠ 2 → k ≠ 4 → (k < 600 ∨ 1200 ≤ k) → (∀ a, a < 5 → k ≠ 10 + 20 * f + (5 + a)) → (∀ m, m < nn w → k ≠ 10 + 20 * m + 14 ∧ k ≠ 10 + 20 * m + 15) → evX V w f k = w k := fun k h2 h4 hk h5 h14 => by rw [Xd k h2 h4 hk h5, dfR_o _ h14]
    obtain ⟨c1, c2, c3, c4, c5, c6, c7⟩ := hc
    refine H g5 ⟨oo, by rw [k5 3 (by decide), k4 3 (by decide)]⟩ ⟨⟨?_, ?_, ?_, ?_, ?_, ?_⟩, fun n hn => ?_, fun n a hn ha => ?_, fun s m hs hm => ?_, fun n hn hs => ?_, fun n hn => ?_, fun k hk => ?_⟩ ?_
    · rw [oo _ (by omega) (by omega) (by omega) (by omega) (by omega) (by omega) (by omega) (by omega) (by omega) (by omega) (by omega), Xw 0 (by decide) (by decide) (by omega) (fun a ha => by omega) fun m hm => by omega]; exact c1.1
    · rw [k5 0 (by decide), k4 0 (by decide), Xw 1 (by decide) (by decide) (by omega) (fun a ha => by omega) fun m hm => by omega]; exact c1.2.1
    · rw [k5 1 (by decide), e41]; unfold evX; rw [pu_s]
    · rw [k5 2 (by decide), k4 2 (by decide), Xw 3 (by decide) (by decide) (by omega) (fun a ha => by omega) fun m hm => by omega]; exact c1.2.2.2.1
    · rw [oo _ (by omega) (by omega) (by omega) (by omega) (by omega) (by omega) (by omega) (by omega) (by omega) (by omega) (by omega), Xw 6 (by decide) (by decide) (by omega) (fun a ha => by omega) fun m hm => by omega]; exact c1.2.2.2.2.1
    · rw [oo _ (by omega) (by omega) (by omega) (by omega) (by omega) (by omega) (by omega) (by omega) (by omega) (by omega) (by omega), Xw 7 (by decide) (by decide) (by omega) (fun a ha => by omega) fun m hm => by omega]; exact c1.2.2.2.2.2
    · rw [oo _ (by omega) (by omega) (by omega) (by omega) (by omega) (by omega) (by omega) (by omega) (by omega) (by omega) (by omega), oo (t + 3) (by omega) (by omega) (by omega) (by omega) (by omega) (by omega) (by omega) (by omega) (by omega) (by omega) (by omega)]
      exact ⟨(c2 n hn).1.trans (hst.2 n 0 hn (by decide)).symm, (c2 n hn).2.trans (hst.2 n 1 hn (by decide)).symm⟩
    · rw [oo _ (by omega) (by omega) (by omega) (by omega) (by omega) (by omega) (by omega) (by omega) (by omega) (by omega) (by omega), hst.2 n (2 + a) hn (by omega)]; exact c3 n a hn ha
    · rw [stc_nn hst] at hs
      rw [oo _ (by omega) (by omega) (by omega) (by omega) (by omega) (by omega) (by omega) (by omega) (by omega) (by omega) (by omega), stc_far hw hst (by omega)]; exact c4 s m hs hm
    · rw [stc_nn hst] at hn
      rw [stc_fd hst (by omega) (by decide)] at hs
      rw [o5 (t + 17) (by omega) (by omega), o5 (t + 18) (by omega) (by omega), o5 (t + 19) (by omega) (by omega), e417, e418]
      by_cases e : n = f
      · subst e
        rw [pu_s, pu_s, X _ (by omega) (by omega) (by omega), X _ (by omega) (by omega) (by omega), evQ_5 hw hf16]
        exact ⟨rfl, rfl, fun a ha => by rw [e419, if_pos (by omega), X _ (by omega) (by omega) (by omega), evQ_7 ha]⟩
      · rw [pu_n e, pu_n e, Xw _ (by omega) (by omega) (by omega) (fun a ha => by omega) fun m hm => by omega, Xw _ (by omega) (by omega) (by omega) (fun a ha => by omega) fun m hm => by omega]
        exact ⟨(c5 n hn hs).1, (c5 n hn hs).2.1, fun a ha => by rw [e419, if_neg (by omega), Xw _ (by omega) (by omega) (by omega) (fun a ha => by omega) fun m hm => by omega]; exact (c5 n hn hs).2.2 a ha⟩
    · obtain ⟨b0, b1, b2, b3, b4, b5, b6, b7⟩ := c6 n hn
      have e : ∀ F, 10 ≤ F → F < 20 → F ≠ 14 → F ≠ 15 → evX V w f (10 + 20 * n + F) = w (10 + 20 * n + F) := fun F x1 x2 x3 x4 => Xw _ (by omega) (by omega) (by omega) (fun a ha => by omega) fun m hm => by omega
      have e' : ∀ F, 10 ≤ F → F < 20 → evX V w f (10 + 20 * n + F) = dfR V w f (wnO V w f) (nn w) (10 + 20 * n + F) := fun F x1 x2 => Xd _ (by omega) (by omega) (by omega) (fun a ha => by omega)
      rw [oo _ (by omega) (by omega) (by omega) (by omega) (by omega) (by omega) (by omega) (by omega) (by omega) (by omega) (by omega), oo (t + 10) (by omega) (by omega) (by omega) (by omega) (by omega) (by omega) (by omega) (by omega) (by omega) (by omega) (by omega), oo (t + 12) (by omega) (by omega) (by omega) (by omega) (by omega) (by omega) (by omega) (by omega) (by omega) (by omega) (by omega), oo (t + 13) (by omega) (by omega) (by omega) (by omega) (by omega) (by omega) (by omega) (by omega) (by omega) (by omega) (by omega), oo (t + 14) (by omega) (by omega) (by omega) (by omega) (by omega) (by omega) (by omega) (by omega) (by omega) (by omega) (by omega), oo (t + 16) (by omega) (by omega) (by omega) (by omega) (by omega) (by omega) (by omega) (by omega) (by omega) (by omega) (by omega), o5 (t + 11) (by omega) (by omega), o5 (t + 15) (by omega) (by omega), e 10 (by decide) (by decide) (by decide) (by decide), e 11 (by decide) (by decide) (by decide) (by decide), e 12 (by decide) (by decide) (by decide) (by decide), e 13 (by decide) (by decide) (by decide) (by decide), e 16 (by decide) (by decide) (by decide) (by decide), e 17 (by decide) (by decide) (by decide) (by decide), e' 14 (by decide) (by decide), e' 15 (by decide) (by decide)]
      exact ⟨b0, b1, (R4 n hn).1, b3, b4, b5, (R4 n hn).2, b7⟩
    · rw [oo _ (by omega) (by omega) (by omega) (by omega) (by omega) (by omega) (by omega) (by omega) (by omega) (by omega) (by omega), Xw _ (by omega) (by omega) (by omega) (fun a ha => by omega) fun m hm => by omega]; exact c7 k hk
    · have eQ2 : evQ V w f 2 = w 2 := evQ_2
      have eX : ∀ k, k ≠ 4 → evX V w f k = bkR (evQ V w f) f (mst V w f) k := fun k hk => pu_n hk
      have eQ1 : evQ V w f 1 = w 1 := by rw [← X 1 (by decide) (by decide) (by omega)]; exact Xw 1 (by decide) (by decide) (by omega) (fun a ha => by omega) fun m hm => by omega
      cases bk
      · obtain ⟨hb2, _⟩ := hb
        have e2 : vN (evQ V w f) 2 = 150 := by
          unfold vN
          rw [eQ2, hb2, ix_nI (by decide)]
        refine ⟨by rw [eX 2 (by decide), bkR_b e2, eQ2, hb2], ?_⟩
        by_cases h150 : l = 150
        · refine ⟨l, hl, ?_⟩
          rw [hg5, if_pos h150, e4l]
        · refine ⟨l + 1, by omega, ?_⟩
          rw [hg5, if_neg h150, upw_s, pu_s]
      · obtain ⟨hb1, hb2⟩ : g (t + 6) 4 = w 2 ∧ ∀ k, k < 600 → g (t + 29) k = w (600 + k) := hb
        have e2 : vN (evQ V w f) 2 = l := by
          unfold vN
          rw [eQ2, ← hb1, hl4, ix_nI (by omega)]
        have q6 : ∀ k, k < 600 → evQ V w f (600 + k) = w (600 + k) := fun k hk => by rw [evQ_o fun a ha => by omega, dfR_o _ fun t ht => by omega]
        have e29 : g4 (t + 29) = g (t + 29) := o4 _ (by omega) (by omega) (by omega) (by omega) (by omega) (by omega) (by omega) (by omega) (by omega) (by omega)
        by_cases h150 : l = 150
        · have eb : bkR (evQ V w f) f (mst V w f) = evQ V w f := bkR_b (by rw [e2, h150])
          refine ⟨by rw [hg5, if_pos h150, e4l, eX 2 (by decide), eb, eQ2, ← hb1, hl4], fun k hk => ?_⟩
          rw [hg5, if_pos h150, e29, eX _ (by omega), eb, q6 k hk]
          exact hb2 k hk
        · have eb : bkR (evQ V w f) f (mst V w f) = bk1 (evQ V w f) f (mst V w f) := if_neg (by rw [e2]; exact h150)
          have e40 : g4 (t + 6) 0 = w 1 := by rw [k4 0 (by decide)]; exact c1.2.1
          refine ⟨?_, fun k hk => ?_⟩
          · rw [hg5, if_neg h150, upw_s, pu_s, eX 2 (by decide), eb]
            unfold bk1
            rw [pu_s, e2]
          · rw [hg5, if_neg h150, upw_o (by omega), upw_s, e29, e40, e417, pu_s, eX _ (by omega), eb]
            unfold bk1
            rw [e2, eQ1, evQ_5 hw hf16, pu_n (show 600 + k ≠ 2 by omega)]
            unfold pu
            by_cases i3 : k = l * 4 + 3
            · rw [if_pos i3, if_pos (by omega)]
            · rw [if_neg i3, if_neg (show ¬ 600 + k = 600 + 4 * l + 3 by omega)]
              by_cases i2 : k = l * 4 + 2
              · rw [if_pos i2, if_pos (by omega)]
              · rw [if_neg i2, if_neg (show ¬ 600 + k = 600 + 4 * l + 2 by omega)]
                by_cases i1 : k = l * 4 + 1
                · rw [if_pos i1, if_pos (by omega)]
                · rw [if_neg i1, if_neg (show ¬ 600 + k = 600 + 4 * l + 1 by omega)]
                  by_cases i0 : k = l * 4
                  · rw [if_pos i0, if_pos (by omega)]
                  · rw [if_neg i0, if_neg (show ¬ 600 + k = 600 + 4 * l by omega), hb2 k hk, q6 k hk]
  by_cases hm : mst V w f ≤ 0
  · have hm0 : mst V w f = 0 := by omega
    have hs0 : wset V w f = 0 := wset_0.mpr hm0
    have hq : flq V w f = false := by
      unfold flq
      rw [hs0]
      rfl
    have ew : wnO V w f = fd w f 5 := if_pos hm0
    rw [if_pos hm]
    refine rest g1 (fun _ _ _ _ => rfl) (fun _ _ => rfl) ?_ ?_ ?_
    · rw [o1 _ (by omega) (by omega) (by omega) (by omega), hq]
      have : g (t + 6) 1 = w 4 := hc.1.2.2.1
      rw [this]
      show w 4 = w 4 + 0
      rw [Int32.add_zero]
    · rw [ew, ← v5]
      funext k
      unfold pu
      split
      next h => rw [h]
      next h => rfl
    · rw [evQ_6, if_pos hs0, hx.2.1.1, ← v6]
      funext k
      unfold pu
      split
      next h => rw [h]
      next h => rfl
  · have hs0 : wset V w f ≠ 0 := fun e => hm (by rw [wset_0.mp e]; exact Nat.le_refl 0)
    have ew : wnO V w f = wset V w f := if_neg fun e => hs0 (wset_0.mpr e)
    have hq : flq V w f = !one (wset V w f) := by
      unfold flq
      rw [decide_eq_true hs0]
      rfl
    rw [if_neg hm]
    simp -implicitDefEqProofs (disch := first | assumption | omega) only [szS_0, szS_i, szS_r, szS_l, x_cons, x_goto, ob_some, kl_i, kl_r, kl_l, kl_n, push_n, push_s, pop_0, pop_i, pop_r, Int.reduceToNat, List.length_cons, List.length_nil, Nat.reduceAdd, Nat.reduceLeDiff, Nat.zero_add, true_and, nI_n0, nat_le, Nat.add_zero, rt_ri_holdVote, x_al0, x_al1, x_call, x_getf, x_iadd, x_ifle, x_il2, x_il3, x_imul, x_is3, x_ldc, x_vret, tf_0_0, tf_0_1, tf_0_2, tf_0_3, tf_0_4]
    rw [s_winners hT hw hf16 a3 v1 v2 v5, ew]
    simp -implicitDefEqProofs (disch := first | assumption | omega) only [szS_0, szS_i, szS_r, szS_l, x_cons, x_goto, ob_some, kl_i, kl_r, kl_l, kl_n, push_n, push_s, pop_0, pop_i, pop_r, Int.reduceToNat, List.length_cons, List.length_nil, Nat.reduceAdd, Nat.reduceLeDiff, Nat.zero_add, true_and, nI_n0, nat_le, Nat.add_zero, rt_ri_holdVote, x_al0, x_al1, x_call, x_getf, x_iadd, x_ifle, x_il2, x_il3, x_imul, x_is3, x_ldc, x_vret]
    refine s_openArms hT hf16 (by omega) (by omega) (by omega : fd w f 5 < 8) hx.2.1.2 v5 v6 fun g2 W hW f2 k2 e1 e17 e18 => ?_
    simp -implicitDefEqProofs (disch := first | assumption | omega) only [szS_0, szS_i, szS_r, szS_l, x_cons, x_goto, ob_some, kl_i, kl_r, kl_l, kl_n, push_n, push_s, pop_0, pop_i, pop_r, Int.reduceToNat, List.length_cons, List.length_nil, Nat.reduceAdd, Nat.reduceLeDiff, Nat.zero_add, true_and, nI_n0, nat_le, Nat.add_zero, rt_ri_holdVote, x_al0, x_al1, x_call, x_getf, x_iadd, x_ifle, x_il2, x_il3, x_imul, x_is3, x_ldc, x_vret]
    refine rest g2 f2 k2 ?_ (by rw [e17, ew]) ?_
    · rw [e1, o1 _ (by omega) (by omega) (by omega) (by omega), hq]
      have : g (t + 6) 1 = w 4 := hc.1.2.2.1
      rw [this]
      cases one (wset V w f) <;> rfl
    · rw [e18, evQ_6, if_neg hs0]
      have : W = wonN V w f := by
        rw [hW]
        unfold wonN
        rw [hq]
        cases one (wset V w f) <;> rfl
      rw [this]
end CH
