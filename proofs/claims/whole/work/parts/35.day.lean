/-! the reference's day -/
section MK
variable {d : Nat} {g : Nat → Nat → Int32} {q : Nat → Nat → Int64} {P : QT}
theorem bz_lp {f : Nat} (hf : f < 16) {r : Nat → Int32} {v2 v3 : Int32} (H : wp (ev (d + 8)) P mo_isFlooded 113 [some (.ref 196), some (.int (nI f)), some (.int v2), some (.int v3), some (.int (nI 3))] [] (E (upw g 197 (bz r f 3)) q)) : ∀ (j n : Nat), n + j = 3 →
    wp (ev (d + 8)) P mo_isFlooded 90 [some (.ref 196), some (.int (nI f)), some (.int v2), some (.int v3), some (.int (nI n))] [] (E (upw g 197 (bz r f n)) q) := by
  intro j
  induction j with
  | zero =>
    intro n hn
    have hn : n = 3 := hn
    subst hn
    rw [b_mo_isFlooded_90]
    simp -implicitDefEqProofs (disch := first | assumption | omega) only [szS_0, szS_i, szS_r, szS_l, x_cons, x_goto, ob_some, kl_i, kl_r, kl_l, kl_n, push_n, push_s, pop_0, pop_i, pop_r, Int.reduceToNat, List.length_cons, List.length_nil, Nat.reduceAdd, Nat.reduceLeDiff, Nat.zero_add, true_and, nI_n0, nat_le, Nat.add_zero, i_1, rt_mo_isFlooded_0, rt_mo_isFlooded_1, rt_mo_isFlooded_b, x_al0, x_call, x_goto, x_iadd, x_icge, x_icne, x_ifeq, x_ifne, x_il1, x_il2, x_il3, x_il4, x_inc4, x_iret, x_is2, x_is3, x_is4, x_ldc, nI_ltE, Nat.lt_irrefl, ↓reduceIte]
    exact H
  | succ j ih =>
    intro n hn
    have hn' : n < 3 := by omega
    rw [b_mo_isFlooded_90]
    simp -implicitDefEqProofs (disch := first | assumption | omega) only [szS_0, szS_i, szS_r, szS_l, x_cons, x_goto, ob_some, kl_i, kl_r, kl_l, kl_n, push_n, push_s, pop_0, pop_i, pop_r, Int.reduceToNat, List.length_cons, List.length_nil, Nat.reduceAdd, Nat.reduceLeDiff, Nat.zero_add, true_and, nI_n0, nat_le, Nat.add_zero, i_1, rt_mo_isFlooded_0, rt_mo_isFlooded_1, rt_mo_isFlooded_b, x_al0, x_call, x_goto, x_iadd, x_icge, x_icne, x_ifeq, x_ifne, x_il1, x_il2, x_il3, x_il4, x_inc4, x_iret, x_is2, x_is3, x_is4, x_ldc, nI_ltE, hn', ↓reduceIte, nI_add, s_gives, pu_w]
    exact ih (n + 1) (by omega)
theorem s_isFlooded (hw : WI (g 197)) {V : LW} (hL : LK (g 197) 0 okV V) {f : Nat} (hf : f < nn (g 197)) (h0 : fd (g 197) f 0 = 0) (H : ∀ g', FR [205, 206, 207, 209, 197] [30] g g' → g' 197 = evR V (g 197) f → P (some (.int (bI (flq V (g 197) f)))) (E g' q)) :
    callC (ev (d + 9)) mo_isFlooded [.ref 196, .int (nI f)] (E g q) P := by
  refine in_mo_isFlooded rfl ?_
  have hn := wi_n hw
  have ham := am_le hw (n := f) (by omega)
  have hp : 2 ^ am (g 197) f ≤ 2 ^ 3 := Nat.pow_le_pow_right (by decide) ham
  have hsl := wset_lt V (g 197) f
  have hx := wi_x hw (n := f) (by omega)
  rw [b_mo_isFlooded_0]
  simp -implicitDefEqProofs (disch := first | assumption | omega) only [szS_0, szS_i, szS_r, szS_l, x_cons, x_goto, ob_some, kl_i, kl_r, kl_l, kl_n, push_n, push_s, pop_0, pop_i, pop_r, Int.reduceToNat, List.length_cons, List.length_nil, Nat.reduceAdd, Nat.reduceLeDiff, Nat.zero_add, true_and, nI_n0, nat_le, Nat.add_zero, i_1, rt_mo_isFlooded_0, rt_mo_isFlooded_1, rt_mo_isFlooded_b, x_al0, x_call, x_goto, x_iadd, x_icge, x_icne, x_ifeq, x_ifne, x_il1, x_il2, x_il3, x_il4, x_inc4, x_iret, x_is2, x_is3, x_is4, x_ldc]
  refine s_laysVotes hw hL hf fun g1 f1 em et => ?_
  have e197 : g1 197 = g 197 := FR_a f1 rfl
  -- the end: BOUGHT is 0, the book
  have last : ∀ g2 o4, FR [205, 206, 207, 209, 197] [30] g g2 → g2 197 = opR V (g 197) f → g2 196 30 = nI (mst V (g 197) f) → wp (ev (d + 8)) P mo_isFlooded 87 [some (.ref 196), some (.int (nI f)), some (.int (nI (wset V (g 197) f))), some (.int (bI (flq V (g 197) f))), o4] [] (E g2 q) := by
    intro g2 o4 f2 e2 em2
    rw [b_mo_isFlooded_87]
    simp -implicitDefEqProofs (disch := first | assumption | omega) only [szS_0, szS_i, szS_r, szS_l, x_cons, x_goto, ob_some, kl_i, kl_r, kl_l, kl_n, push_n, push_s, pop_0, pop_i, pop_r, Int.reduceToNat, List.length_cons, List.length_nil, Nat.reduceAdd, Nat.reduceLeDiff, Nat.zero_add, true_and, nI_n0, nat_le, Nat.add_zero, i_1, rt_mo_isFlooded_0, rt_mo_isFlooded_1, rt_mo_isFlooded_b, x_al0, x_call, x_goto, x_iadd, x_icge, x_icne, x_ifeq, x_ifne, x_il1, x_il2, x_il3, x_il4, x_inc4, x_iret, x_is2, x_is3, x_is4, x_ldc]
    have e0 : E g2 q = E (upw g2 197 (bz (opR V (g 197) f) f 0)) q := by
      show _ = E (upw g2 197 (opR V (g 197) f)) q
      rw [← e2, upw_g]
    rw [e0]
    refine bz_lp (by omega) ?_ 3 0 rfl
    rw [b_mo_isFlooded_113]
    have hwb : WI (upw g2 197 (bz (opR V (g 197) f) f 3) 197) := by
      rw [upw_s]
      exact bz_wi (opR_wi hw hf h0) (by omega) 3 (Nat.le_refl _)
    have em3 : upw g2 197 (bz (opR V (g 197) f) f 3) 196 30 = nI (mst V (g 197) f) := by
      rw [upw_o (by decide)]
      exact em2
    simp -implicitDefEqProofs (disch := first | assumption | omega) only [szS_0, szS_i, szS_r, szS_l, x_cons, x_goto, ob_some, kl_i, kl_r, kl_l, kl_n, push_n, push_s, pop_0, pop_i, pop_r, Int.reduceToNat, List.length_cons, List.length_nil, Nat.reduceAdd, Nat.reduceLeDiff, Nat.zero_add, true_and, nI_n0, nat_le, Nat.add_zero, i_1, rt_mo_isFlooded_0, rt_mo_isFlooded_1, rt_mo_isFlooded_b, x_al0, x_call, x_goto, x_iadd, x_icge, x_icne, x_ifeq, x_ifne, x_il1, x_il2, x_il3, x_il4, x_inc4, x_iret, x_is2, x_is3, x_is4, x_ldc]
    rw [s_writes hwb (by omega) em3]
    simp -implicitDefEqProofs (disch := first | assumption | omega) only [szS_0, szS_i, szS_r, szS_l, x_cons, x_goto, ob_some, kl_i, kl_r, kl_l, kl_n, push_n, push_s, pop_0, pop_i, pop_r, Int.reduceToNat, List.length_cons, List.length_nil, Nat.reduceAdd, Nat.reduceLeDiff, Nat.zero_add, true_and, nI_n0, nat_le, Nat.add_zero, i_1, rt_mo_isFlooded_0, rt_mo_isFlooded_1, rt_mo_isFlooded_b, x_al0, x_call, x_goto, x_iadd, x_icge, x_icne, x_ifeq, x_ifne, x_il1, x_il2, x_il3, x_il4, x_inc4, x_iret, x_is2, x_is3, x_is4, x_ldc, upw_s, upw_w]
    have e3 : bkR (bz (opR V (g 197) f) f 3) f (mst V (g 197) f) = evR V (g 197) f := rfl
    rw [e3]
    have := H (upw g2 197 (evR V (g 197) f)) (FR_w rfl f2) upw_s
    exact this
  have f1' : FR [205, 206, 207, 209, 197] [30] g g1 := FR_m rfl rfl f1
  by_cases hs0 : wset V (g 197) f = 0
  · have hq : flq V (g 197) f = false := by
      unfold flq
      rw [hs0]
      rfl
    have eo : opR V (g 197) f = g 197 := if_pos hs0
    simp -implicitDefEqProofs (disch := first | assumption | omega) only [szS_0, szS_i, szS_r, szS_l, x_cons, x_goto, ob_some, kl_i, kl_r, kl_l, kl_n, push_n, push_s, pop_0, pop_i, pop_r, Int.reduceToNat, List.length_cons, List.length_nil, Nat.reduceAdd, Nat.reduceLeDiff, Nat.zero_add, true_and, nI_n0, nat_le, Nat.add_zero, i_1, rt_mo_isFlooded_0, rt_mo_isFlooded_1, rt_mo_isFlooded_b, x_al0, x_call, x_goto, x_iadd, x_icge, x_icne, x_ifeq, x_ifne, x_il1, x_il2, x_il3, x_il4, x_inc4, x_iret, x_is2, x_is3, x_is4, x_ldc, hs0, ↓reduceIte, b_mo_isFlooded_21, b_mo_isFlooded_22]
    have := last g1 none f1' (by rw [eo, e197]) em
    rw [hs0, hq] at this
    exact this
  · have h1 : 1 ≤ wset V (g 197) f := by omega
    have h8 : wset V (g 197) f < 8 := by omega
    have h2b : wset V (g 197) f < 2147483648 := by omega
    have eq0 : flq V (g 197) f = !one (wset V (g 197) f) := by
      unfold flq
      rw [decide_eq_true hs0]
      rfl
    -- behind WON
    have won : wp (ev (d + 8)) P mo_isFlooded 63 [some (.ref 196), some (.int (nI f)), some (.int (nI (wset V (g 197) f))), some (.int (bI (flq V (g 197) f))), none] [.int (nI (wonN V (g 197) f))] (E g1 q) := by
      rw [b_mo_isFlooded_63]
      simp -implicitDefEqProofs (disch := first | assumption | omega) only [szS_0, szS_i, szS_r, szS_l, x_cons, x_goto, ob_some, kl_i, kl_r, kl_l, kl_n, push_n, push_s, pop_0, pop_i, pop_r, Int.reduceToNat, List.length_cons, List.length_nil, Nat.reduceAdd, Nat.reduceLeDiff, Nat.zero_add, true_and, nI_n0, nat_le, Nat.add_zero, i_1, rt_mo_isFlooded_0, rt_mo_isFlooded_1, rt_mo_isFlooded_b, x_al0, x_call, x_goto, x_iadd, x_icge, x_icne, x_ifeq, x_ifne, x_il1, x_il2, x_il3, x_il4, x_inc4, x_iret, x_is2, x_is3, x_is4, x_ldc]
      refine s_defeats (by rw [e197]; exact hw) (V := V) (by rw [e197]; exact hL) (by rw [e197]; exact hf) h8 fun g2 f2 e2 => ?_
      rw [e197] at e2
      have eo : opR V (g 197) f = pu (pu (dfR V (g 197) f (wset V (g 197) f) (nn (g 197))) (10 + 20 * f + 5) (nI (wset V (g 197) f))) (10 + 20 * f + 6) (nI (wonN V (g 197) f)) := if_neg hs0
      simp -implicitDefEqProofs (disch := first | assumption | omega) only [szS_0, szS_i, szS_r, szS_l, x_cons, x_goto, ob_some, kl_i, kl_r, kl_l, kl_n, push_n, push_s, pop_0, pop_i, pop_r, Int.reduceToNat, List.length_cons, List.length_nil, Nat.reduceAdd, Nat.reduceLeDiff, Nat.zero_add, true_and, nI_n0, nat_le, Nat.add_zero, i_1, rt_mo_isFlooded_0, rt_mo_isFlooded_1, rt_mo_isFlooded_b, x_al0, x_call, x_goto, x_iadd, x_icge, x_icne, x_ifeq, x_ifne, x_il1, x_il2, x_il3, x_il4, x_inc4, x_iret, x_is2, x_is3, x_is4, x_ldc, s_gives, pu_g, pu_w, upw_w, upw_s, e2]
      rw [← eo]
      refine last _ _ (FR_w rfl (FR_t f1' (FR_f rfl f2))) upw_s ?_
      rw [upw_o (by decide), fr_a f2 rfl]
      exact em
    simp -implicitDefEqProofs (disch := first | assumption | omega) only [szS_0, szS_i, szS_r, szS_l, x_cons, x_goto, ob_some, kl_i, kl_r, kl_l, kl_n, push_n, push_s, pop_0, pop_i, pop_r, Int.reduceToNat, List.length_cons, List.length_nil, Nat.reduceAdd, Nat.reduceLeDiff, Nat.zero_add, true_and, nI_n0, nat_le, Nat.add_zero, i_1, rt_mo_isFlooded_0, rt_mo_isFlooded_1, rt_mo_isFlooded_b, x_al0, x_call, x_goto, x_iadd, x_icge, x_icne, x_ifeq, x_ifne, x_il1, x_il2, x_il3, x_il4, x_inc4, x_iret, x_is2, x_is3, x_is4, x_ldc, nI_eqE, hs0, ↓reduceIte, s_isOne, bI_0]
    by_cases ho : one (wset V (g 197) f) = false
    · have hq : flq V (g 197) f = true := by rw [eq0, ho]; rfl
      have hwn : wonN V (g 197) f = 0 := if_pos hq
      rw [hq, hwn] at won
      simp -implicitDefEqProofs (disch := first | assumption | omega) only [szS_0, szS_i, szS_r, szS_l, x_cons, x_goto, ob_some, kl_i, kl_r, kl_l, kl_n, push_n, push_s, pop_0, pop_i, pop_r, Int.reduceToNat, List.length_cons, List.length_nil, Nat.reduceAdd, Nat.reduceLeDiff, Nat.zero_add, true_and, nI_n0, nat_le, Nat.add_zero, i_1, rt_mo_isFlooded_0, rt_mo_isFlooded_1, rt_mo_isFlooded_b, x_al0, x_call, x_goto, x_iadd, x_icge, x_icne, x_ifeq, x_ifne, x_il1, x_il2, x_il3, x_il4, x_inc4, x_iret, x_is2, x_is3, x_is4, x_ldc, ho, ↓reduceIte, b_mo_isFlooded_22, nI_eqE, hs0, Nat.one_ne_zero]
      exact won
    · have hq : flq V (g 197) f = false := by
        rw [eq0]
        cases h : one (wset V (g 197) f)
        · exact absurd h ho
        · rfl
      have hwn : wonN V (g 197) f = if wset V (g 197) f = fd (g 197) f 5 then (if 99 < fd (g 197) f 6 + 1 then 99 else fd (g 197) f 6 + 1) else 1 := by
        unfold wonN
        rw [if_neg (by rw [hq]; decide)]
      rw [hq] at won
      simp -implicitDefEqProofs (disch := first | assumption | omega) only [szS_0, szS_i, szS_r, szS_l, x_cons, x_goto, ob_some, kl_i, kl_r, kl_l, kl_n, push_n, push_s, pop_0, pop_i, pop_r, Int.reduceToNat, List.length_cons, List.length_nil, Nat.reduceAdd, Nat.reduceLeDiff, Nat.zero_add, true_and, nI_n0, nat_le, Nat.add_zero, i_1, rt_mo_isFlooded_0, rt_mo_isFlooded_1, rt_mo_isFlooded_b, x_al0, x_call, x_goto, x_iadd, x_icge, x_icne, x_ifeq, x_ifne, x_il1, x_il2, x_il3, x_il4, x_inc4, x_iret, x_is2, x_is3, x_is4, x_ldc, ho, ↓reduceIte, b_mo_isFlooded_21, b_mo_isFlooded_22, b_mo_isFlooded_35, nI_eqE, hs0, s_own, e197, hx.1.1]
      by_cases hso : wset V (g 197) f = fd (g 197) f 5
      · rw [if_pos hso] at hwn
        simp only [hso, ↓reduceIte]
        simp -implicitDefEqProofs (disch := first | assumption | omega) only [szS_0, szS_i, szS_r, szS_l, x_cons, x_goto, ob_some, kl_i, kl_r, kl_l, kl_n, push_n, push_s, pop_0, pop_i, pop_r, Int.reduceToNat, List.length_cons, List.length_nil, Nat.reduceAdd, Nat.reduceLeDiff, Nat.zero_add, true_and, nI_n0, nat_le, Nat.add_zero, i_1, rt_mo_isFlooded_0, rt_mo_isFlooded_1, rt_mo_isFlooded_b, x_al0, x_call, x_goto, x_iadd, x_icge, x_icne, x_ifeq, x_ifne, x_il1, x_il2, x_il3, x_il4, x_inc4, x_iret, x_is2, x_is3, x_is4, x_ldc, s_own, e197, hx.2.1.1, nI_add, s_lesser, nI_ltE, nI_ite]
        rw [← hwn, ← hso]
        exact won
      · rw [if_neg hso] at hwn
        simp only [hso, ↓reduceIte]
        simp -implicitDefEqProofs (disch := first | assumption | omega) only [szS_0, szS_i, szS_r, szS_l, x_cons, x_goto, ob_some, kl_i, kl_r, kl_l, kl_n, push_n, push_s, pop_0, pop_i, pop_r, Int.reduceToNat, List.length_cons, List.length_nil, Nat.reduceAdd, Nat.reduceLeDiff, Nat.zero_add, true_and, nI_n0, nat_le, Nat.add_zero, i_1, rt_mo_isFlooded_0, rt_mo_isFlooded_1, rt_mo_isFlooded_b, x_al0, x_call, x_goto, x_iadd, x_icge, x_icne, x_ifeq, x_ifne, x_il1, x_il2, x_il3, x_il4, x_inc4, x_iret, x_is2, x_is3, x_is4, x_ldc, b_mo_isFlooded_62]
        rw [hwn] at won
        exact won
end MK
/-- a number, 99 for none -/
def nN (b : Nat) : Int32 := if b = 99 then -1 else nI b
theorem nI_m1 {a : Nat} (h : a < 2147483648) : (nI a = -1) = False := eq_false fun e => by
  have := congrArg Int32.toInt e
  rw [nI_I h] at this
  have h2 : (-1 : Int32).toInt = -1 := by decide
  omega
theorem nN_1 {b : Nat} (h : b < 2147483648) : (nN b = -1) = (b = 99) := by
  unfold nN
  by_cases e : b = 99
  · rw [if_pos e]
    exact propext ⟨fun _ => e, fun _ => rfl⟩
  · rw [if_neg e, nI_m1 h]
    exact (eq_false e).symm
theorem nN_n {b : Nat} (h : b ≠ 99) : nN b = nI b := if_neg h
theorem nI_ss {a b c e : Nat} (ha : a < 2147483648) (hb : b < 2147483648) (hc : c < 2147483648) (he : e < 2147483648) : (nI a - nI b < nI c - nI e) = (a + e < c + b) := by
  rw [ltE, nI_sI ha hb, nI_sI hc he]
  exact propext ⟨fun h => by omega, fun h => by omega⟩
/-- the town that is WET with the most OVER, of those below n (99: none) -/
def wtt (w : Nat → Int32) : Nat → Nat
  | 0 => 99
  | t + 1 => if fd w t 0 = 1 ∧ fd w t 17 = 1 ∧ (wtt w t = 99 ∨ fd w (wtt w t) 12 + fd w t 11 < fd w t 12 + fd w (wtt w t) 11) then t else wtt w t
theorem wtt_l {w : Nat → Int32} : ∀ n, wtt w n = 99 ∨ (wtt w n < n ∧ fd w (wtt w n) 0 = 1 ∧ fd w (wtt w n) 17 = 1)
  | 0 => Or.inl rfl
  | n + 1 => by
    unfold wtt
    split
    next h => exact Or.inr ⟨by omega, h.1, h.2.1⟩
    next h =>
      rcases wtt_l (w := w) n with e | e
      · exact Or.inl e
      · exact Or.inr ⟨by omega, e.2⟩
def mv1 (M : LW) (r : Nat → Int32) (t to : Nat) : Nat → Int32 :=
  pu (pu r (10 + 20 * t + 10) (nI (fd r t 10 - mv M r t))) (10 + 20 * to + 10) (nI (fd (pu r (10 + 20 * t + 10) (nI (fd r t 10 - mv M r t))) to 10 + mv M r t))
/-- the row when the towns below n have moved to a town -/
def mvR (M : LW) (w : Nat → Int32) (to : Nat) : Nat → Nat → Int32
  | 0 => w
  | t + 1 => if fd w t 0 = 1 ∧ fd w t 17 ≠ 1 then mv1 M (mvR M w to t) t to else mvR M w to t
def alR (M : LW) (w : Nat → Int32) : Nat → Int32 := if wtt w (nn w) = 99 then w else mvR M w (wtt w (nn w)) (nn w)
/-- evenings at the forks below n; how many floods -/
def evS (V : LW) (w : Nat → Int32) : Nat → Nat → Int32
  | 0 => w
  | f + 1 => if fd w f 0 = 0 then evR V (evS V w f) f else evS V w f
def flc (V : LW) (w : Nat → Int32) : Nat → Nat
  | 0 => 0
  | f + 1 => flc V w f + (if fd w f 0 = 0 ∧ flq V (evS V w f) f = true then 1 else 0)
def ev4 (V : LW) (w : Nat → Int32) : Nat → Int32 := pu (evS V w (nn w)) 4 (evS V w (nn w) 4 + nI (flc V w (nn w)))
/-- a day's row -/
def dyR (V M : LW) (fl : Nat) (w : Nat → Int32) : Nat → Int32 := pu (alR M (ev4 V (flR w fl))) 1 (alR M (ev4 V (flR w fl)) 1 + nI 1)
theorem mv1_o {M : LW} {r : Nat → Int32} {t to k : Nat} (h : k ≠ 10 + 20 * t + 10) (h' : k ≠ 10 + 20 * to + 10) : mv1 M r t to k = r k := by
  unfold mv1
  rw [pu_n h', pu_n h]
theorem mvR_o {M : LW} {w : Nat → Int32} {to k : Nat} : ∀ n, (∀ t, t < n → k ≠ 10 + 20 * t + 10) → k ≠ 10 + 20 * to + 10 → mvR M w to n k = w k
  | 0, _, _ => rfl
  | n + 1, h, h' => by
    have h1 := mvR_o (M := M) (w := w) (to := to) n (fun t ht => h t (by omega)) h'
    unfold mvR
    split
    · rw [mv1_o (h n (by omega)) h', h1]
    · exact h1
theorem mvR_f {M : LW} {w : Nat → Int32} {to n m f : Nat} (hf : f < 20) (h : f ≠ 10) : mvR M w to n (10 + 20 * m + f) = w (10 + 20 * m + f) := mvR_o n (fun t ht => by omega) (by omega)
theorem sumH_g {w : Nat → Int32} : ∀ {n t : Nat}, t < n → fd w t 10 ≤ sumH w n
  | n + 1, t, h => by
    unfold sumH
    by_cases e : t = n
    · rw [e]
      omega
    · have := sumH_g (w := w) (n := n) (t := t) (by omega)
      omega
/-- the heads' sum stays -/
theorem mv1_s {M : LW} {r : Nat → Int32} (h : WI r) {t to : Nat} (ht : t < 16) (hto : to < 16) : sumH (mv1 M r t to) 16 = sumH r 16 ∧ fd (pu r (10 + 20 * t + 10) (nI (fd r t 10 - mv M r t))) to 10 + mv M r t ≤ sumH r 16 ∧ sumH (pu r (10 + 20 * t + 10) (nI (fd r t 10 - mv M r t))) 16 + mv M r t = sumH r 16 := by
  have h1 := (mv_I h (M := M) ht).1
  have h2 := (wi_y h ht).1.2
  have h3 := WI_s h
  have e1 := sumH_pu (w := r) (n := t) (v := fd r t 10 - mv M r t) (by omega) 16
  have e2 := sumH_g (w := r) (n := 16) (t := t) ht
  rw [if_pos ht, if_pos ht] at e1
  have e3 := sumH_g (w := pu r (10 + 20 * t + 10) (nI (fd r t 10 - mv M r t))) (n := 16) (t := to) hto
  have e4 := sumH_pu (w := pu r (10 + 20 * t + 10) (nI (fd r t 10 - mv M r t))) (n := to) (v := fd (pu r (10 + 20 * t + 10) (nI (fd r t 10 - mv M r t))) to 10 + mv M r t) (by omega) 16
  rw [if_pos hto, if_pos hto] at e4
  refine ⟨?_, by omega, by omega⟩
  unfold mv1
  omega
theorem mv1_wi {M : LW} {r : Nat → Int32} (h : WI r) {t to : Nat} (ht : t < nn r) (hto : to < nn r) (h0 : fd r t 0 = 1) (h0' : fd r to 0 = 1) : WI (mv1 M r t to) := by
  have hN := wi_n h
  have hs := mv1_s h (M := M) (t := t) (to := to) (by omega) (by omega)
  have h1 := (mv_I h (M := M) (t := t) (by omega)).1
  have h2 := (wi_y h (n := t) (by omega)).1.2
  have h3 := WI_s h
  have w1 := WI_t h (n := t) (f := 10) (v := fd r t 10 - mv M r t) ht h0 (by omega) (by omega)
  exact WI_t w1 (n := to) (f := 10) (by rw [nn_pu (by omega)]; exact hto) (by rw [fd_pu_n (by omega)]; exact h0') (by omega) (by omega)
theorem mvR_wi {M : LW} {w : Nat → Int32} (h : WI w) {to : Nat} (hto : to < nn w) (h0 : fd w to 0 = 1) : ∀ n, n ≤ nn w → WI (mvR M w to n) ∧ sumH (mvR M w to n) 16 = sumH w 16
  | 0, _ => ⟨h, rfl⟩
  | n + 1, hn => by
    have h1 := mvR_wi h hto h0 (M := M) n (by omega)
    have hN := wi_n h
    have e0 : nn (mvR M w to n) = nn w := nn_c (mvR_o n (fun t ht => by omega) (by omega))
    unfold mvR
    split
    next e => exact ⟨mv1_wi h1.1 (by omega) (by omega) (by rw [fd_c (mvR_f (by omega) (by omega))]; exact e.1) (by rw [fd_c (mvR_f (by omega) (by omega))]; exact h0), by rw [(mv1_s h1.1 (by omega) (by omega)).1, h1.2]⟩
    next => exact h1
theorem evR_o {V : LW} {w : Nat → Int32} (h : WI w) {f k : Nat} (hk : k ≠ 2) (hk2 : k < 600 ∨ 1200 ≤ k) (h5 : ∀ a, a < 5 → k ≠ 10 + 20 * f + (5 + a)) (h14 : ∀ t, t < nn w → k ≠ 10 + 20 * t + 14 ∧ k ≠ 10 + 20 * t + 15) : evR V w f k = w k := by
  have e1 : bz (opR V w f) f 3 k = w k := by
    rw [bz_o 3 fun a ha => by have := h5 (2 + a) (by omega); omega]
    unfold opR
    split
    · rfl
    · rw [pu_n (by have := h5 1 (by omega); omega), pu_n (by have := h5 0 (by omega); omega), dfR_o _ h14]
  have e2 : vN (bz (opR V w f) f 3) 2 = vN w 2 := by
    unfold vN
    rw [bz_o 3 fun a ha => by omega]
    unfold opR
    split
    · rfl
    · rw [pu_n (by omega), pu_n (by omega), dfR_o _ fun t ht => by omega]
  have h2 := (wi_2 h).2
  unfold evR bkR
  split
  · exact e1
  next hne =>
    unfold bk1
    rw [e2] at hne ⊢
    rw [pu_n hk, pu_n (by omega), pu_n (by omega), pu_n (by omega), pu_n (by omega), e1]
/-- nothing of the nodes changes in an evening -/
theorem evR_stc {V : LW} {w : Nat → Int32} (h : WI w) {f : Nat} : stc w (evR V w f) :=
  ⟨evR_o h (by decide) (by omega) (fun a ha => by omega) fun t ht => by omega, fun n f' hn hf => evR_o h (by omega) (by omega) (fun a ha => by omega) fun t ht => by omega⟩
theorem evS_wi {V : LW} {w : Nat → Int32} (h : WI w) : ∀ n, n ≤ nn w → WI (evS V w n) ∧ stc w (evS V w n)
  | 0, _ => ⟨h, stc_r⟩
  | n + 1, hn => by
    have h1 := evS_wi h (V := V) n (by omega)
    have hN := wi_n h
    unfold evS
    split
    next e => exact ⟨evR_wi h1.1 (by rw [stc_nn h1.2]; omega) (by rw [stc_fd h1.2 (by omega) (by decide)]; exact e), stc_t h1.2 (evR_stc h1.1)⟩
    next => exact h1
theorem evS_o {V : LW} {w : Nat → Int32} (h : WI w) {k : Nat} (hk : k ≠ 2) (hk2 : k < 600 ∨ 1200 ≤ k) (h5 : ∀ f, f < nn w → (∀ a, a < 5 → k ≠ 10 + 20 * f + (5 + a)) ∧ k ≠ 10 + 20 * f + 14 ∧ k ≠ 10 + 20 * f + 15) : ∀ n, n ≤ nn w → evS V w n k = w k
  | 0, _ => rfl
  | n + 1, hn => by
    have h1 := evS_wi h (V := V) n (by omega)
    have h2 := evS_o h (V := V) hk hk2 h5 n (by omega)
    unfold evS
    split
    · rw [evR_o h1.1 hk hk2 (h5 n (by omega)).1 fun t ht => by
        rw [stc_nn h1.2] at ht
        exact (h5 t ht).2, h2]
    · exact h2
theorem ev4_wi {V : LW} {w : Nat → Int32} (h : WI w) : WI (ev4 V w) := WI_pu_o (evS_wi h _ (Nat.le_refl _)).1 (by omega)
theorem ev4_stc {V : LW} {w : Nat → Int32} (h : WI w) : stc w (ev4 V w) := by
  have h1 := (evS_wi h (V := V) _ (Nat.le_refl _)).2
  exact ⟨by unfold ev4; rw [pu_n (by decide)]; exact h1.1, fun n f hn hf => by unfold ev4; rw [pu_n (by omega)]; exact h1.2 n f hn hf⟩
theorem alR_wi {M : LW} {w : Nat → Int32} (h : WI w) : WI (alR M w) ∧ sumH (alR M w) 16 = sumH w 16 := by
  unfold alR
  split
  · exact ⟨h, rfl⟩
  next e =>
    have := (wtt_l (w := w) (nn w)).resolve_left e
    exact mvR_wi h this.1 this.2.1 _ (Nat.le_refl _)
theorem dyR_wi {V M : LW} {w : Nat → Int32} (h : WI w) {fl : Nat} (hfl : fl ≤ 1998) : WI (dyR V M fl w) := WI_pu_o (alR_wi (ev4_wi (flR_wi h hfl))).1 (by omega)
