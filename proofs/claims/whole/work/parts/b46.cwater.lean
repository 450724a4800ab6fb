/-! the class's water -/
def wtS (w : Nat → Int32) (op : Nat → Nat) (fl : Nat) : Nat → Nat := bset fun m => decide (fd w m 0 = 1) && wetP w (cmA w op fl m) m
def seS (w : Nat → Int32) (op : Nat → Nat) (fl : Nat) : Nat → Nat
  | 0 => 0
  | n + 1 => seS w op fl n + (if fd w n 0 = 2 then cmA w op fl n else 0)
theorem min_s {a b : Nat} : (if b < a then b else a) = (if a < b then a else b) := by
  split <;> split <;> omega
theorem nI_sl0 {a b : Nat} (ha : a < 2147483648) (hb : b < 2147483648) : (nI 0 < nI a - nI b) = (b < a) := by
  rw [ltE, nI_sI ha hb, nI_I (by decide)]
  exact propext ⟨fun h => by omega, fun h => by omega⟩
theorem nI_sneg {a b c : Nat} (ha : a < 1000000000) (hb : b < 1000000000) (hc : c < 1000000000) : (nI a - nI b < -nI c) = (a + c < b) := by
  have e : (-nI c : Int32) = nI 0 - nI c := by
    show _ = (0 : Int32) - nI c
    rw [Int32.zero_sub]
  rw [e, nI_ss (by omega) (by omega) (by decide) (by omega)]
  exact propext ⟨fun h => by omega, fun h => by omega⟩
section CW
variable {d : Nat} {g : Nat → Nat → Int32} {q : Nat → Nat → Int64} {P : QT} {t x : Nat} {w : Nat → Int32}
theorem s_send (hT : t = 1 ∨ t = 31 ∨ t = 61) (hX : x = 175 ∨ x = 185) {s m : Nat} {v : Int32} (hs : s < 48) (hm : m < 16) (he : g (t + 4) s = nI m) :
    callC (ev (d + 1)) wa_send [.ref x, .ref (t + 1), .int (nI s), .int v] (E g q) P = P none (E (upw (upw g (x + 3) (pu (g (x + 3)) s v)) (x + 1) (pu (g (x + 1)) m (g (x + 1) m + v))) q) := by
  refine call_eq (in_wa_send (by rcases hX with rfl | rfl <;> rfl) ?_)
  rw [b_wa_send_0]
  simp -implicitDefEqProofs (disch := first | assumption | omega) only [szS_0, szS_i, szS_r, szS_l, x_cons, x_goto, ob_some, kl_i, kl_r, kl_l, kl_n, push_n, push_s, pop_0, pop_i, pop_r, Int.reduceToNat, List.length_cons, List.length_nil, Nat.reduceAdd, Nat.reduceLeDiff, Nat.zero_add, true_and, nI_n0, nat_le, Nat.add_zero, rt_wa_send, x_al0, x_al1, x_dup2, x_getf, x_iadd, x_iaload, x_iastore, x_il2, x_il3, x_vret, xf_0, xf_1, xf_2, xf_3, xf_4, xs_3, xs_4, xl_1, xd_1, xl_3, xd_3, tf_1_0, tf_1_1, tf_1_2, tf_1_3, tf_1_4, ts_1_0, tl_4, td_4, pu_g, upw_o, he]
  all_goals first | rfl | exact ⟨rfl, rfl⟩ | exact ⟨rfl, trivial⟩ | exact ⟨trivial, rfl⟩ | trivial
/-- what a fork has sent by its first arms -/
def SP (w : Nat → Int32) (o c n m a : Nat) : Nat := sm (fun a' => if tg w n a' = m then snF w o c n a' else 0) a
theorem cp_lp (hT : t = 1 ∨ t = 31 ∨ t = 61) (hX : x = 175 ∨ x = 185) (hw : WI w) {n c o : Nat} (hn : n < 16) (hc : c ≤ 1998) (ho : o ≤ 7) (hk1 : 1 ≤ cnt o.testBit (am w n)) {g0 : Nat → Nat → Int32} {R : Nat → Nat} {v4 : Int32} (hto : ∀ a, a < am w n → g0 (t + 4) (n * 3 + a) = nI (tg w n a))
    (H : ∀ g', (∀ b, b ≠ x + 1 → b ≠ x + 3 → g' b = g0 b) → (∀ m, m < 16 → g' (x + 1) m = nI (R m + SP w o c n m (am w n))) → (∀ a, a < am w n → g' (x + 3) (n * 3 + a) = nI (snF w o c n a)) → (∀ k, (∀ a, a < 3 → k ≠ n * 3 + a) → g' (x + 3) k = g0 (x + 3) k) → P none (E g' q)) :
    ∀ (j a : Nat) (y : Int32) (g : Nat → Nat → Int32), a + j = am w n → y = nI (rst0 w o c n % cnt o.testBit (am w n)) - nI (cnt o.testBit a) → (∀ b, b ≠ x + 1 → b ≠ x + 3 → g b = g0 b) → (∀ m, m < 16 → g (x + 1) m = nI (R m + SP w o c n m a)) → (∀ a', a' < a → g (x + 3) (n * 3 + a') = nI (snF w o c n a')) → (∀ k, (∀ a, a < 3 → k ≠ n * 3 + a) → g (x + 3) k = g0 (x + 3) k) →
    wp (ev (d + 1)) P wa_part 74 [some (.ref x), some (.ref (t + 1)), some (.int (nI n)), some (.int (nI o)), some (.int v4), some (.int (nI (am w n))), some (.int (nI (cnt o.testBit (am w n)))), some (.int (nI (c * vN w 7 / 100))), some (.int (nI (rst0 w o c n))), some (.int (nI (rst0 w o c n / cnt o.testBit (am w n)))), some (.int y), some (.int (nI a))] [] (E g q) := by
  have ham := am_le hw hn
  have hkl := cnt_le (p := o.testBit) (am w n)
  have hml : rst0 w o c n % cnt o.testBit (am w n) < cnt o.testBit (am w n) := Nat.mod_lt _ hk1
  intro j
  induction j with
  | zero =>
    intro a y g ha hy hr hR hS hO
    have ha : a = am w n := ha
    rw [ha, b_wa_part_74]
    simp -implicitDefEqProofs (disch := first | assumption | omega) only [szS_0, szS_i, szS_r, szS_l, x_cons, x_goto, ob_some, kl_i, kl_r, kl_l, kl_n, push_n, push_s, pop_0, pop_i, pop_r, Int.reduceToNat, List.length_cons, List.length_nil, Nat.reduceAdd, Nat.reduceLeDiff, Nat.zero_add, true_and, nI_n0, nat_le, Nat.add_zero, i_1, i_m1, rt_wa_part, x_al0, x_al1, x_call, x_getf, x_goto, x_iadd, x_iaload, x_icge, x_idiv, x_ifle, x_ifne, x_il10, x_il11, x_il2, x_il3, x_il4, x_il5, x_il6, x_il7, x_il8, x_il9, x_imul, x_inc10, x_inc11, x_is10, x_is11, x_is5, x_is6, x_is7, x_is8, x_is9, x_isub, x_ldc, x_vret, nI_ltE, Nat.lt_irrefl, ↓reduceIte, b_wa_part_140]
    rw [ha] at hR hS
    exact H g hr hR hS hO
  | succ j ih =>
    intro a y g ha hy hr hR hS hO
    have ha' : a < am w n := by omega
    have htl := tg_lt hw hn ha'
    have h0 := wi_n hw
    have hal := cnt_le (p := o.testBit) a
    have hs48 : n * 3 + a < 48 := by omega
    have hm16 : tg w n a < 16 := by omega
    have het : g (t + 4) (n * 3 + a) = nI (tg w n a) := by rw [hr _ (by omega) (by omega)]; exact hto a ha'
    have eSP : ∀ m, SP w o c n m (a + 1) = SP w o c n m a + (if tg w n a = m then snF w o c n a else 0) := fun m => rfl
    have next : ∀ y', y' = nI (rst0 w o c n % cnt o.testBit (am w n)) - nI (cnt o.testBit (a + 1)) → wp (ev (d + 1)) P wa_part 134 [some (.ref x), some (.ref (t + 1)), some (.int (nI n)), some (.int (nI o)), some (.int v4), some (.int (nI (am w n))), some (.int (nI (cnt o.testBit (am w n)))), some (.int (nI (c * vN w 7 / 100))), some (.int (nI (rst0 w o c n))), some (.int (nI (rst0 w o c n / cnt o.testBit (am w n)))), some (.int y'), some (.int (nI a))] [] (E (upw (upw g (x + 3) (pu (g (x + 3)) (n * 3 + a) (nI (snF w o c n a)))) (x + 1) (pu (g (x + 1)) (tg w n a) (g (x + 1) (tg w n a) + nI (snF w o c n a)))) q) := by
      intro y' hy'
      rw [b_wa_part_134]
      simp -implicitDefEqProofs (disch := first | assumption | omega) only [szS_0, szS_i, szS_r, szS_l, x_cons, x_goto, ob_some, kl_i, kl_r, kl_l, kl_n, push_n, push_s, pop_0, pop_i, pop_r, Int.reduceToNat, List.length_cons, List.length_nil, Nat.reduceAdd, Nat.reduceLeDiff, Nat.zero_add, true_and, nI_n0, nat_le, Nat.add_zero, i_1, i_m1, rt_wa_part, x_al0, x_al1, x_call, x_getf, x_goto, x_iadd, x_iaload, x_icge, x_idiv, x_ifle, x_ifne, x_il10, x_il11, x_il2, x_il3, x_il4, x_il5, x_il6, x_il7, x_il8, x_il9, x_imul, x_inc10, x_inc11, x_is10, x_is11, x_is5, x_is6, x_is7, x_is8, x_is9, x_isub, x_ldc, x_vret, nI_add]
      refine ih (a + 1) y' _ (by omega) hy' (fun b h1 h3 => by rw [upw_o h1, upw_o h3, hr b h1 h3]) (fun m hm => ?_) (fun a' ha2 => ?_) fun k hk => ?_
      · rw [upw_s, eSP]
        unfold pu
        by_cases e : m = tg w n a
        · rw [if_pos e, hR _ hm16, nI_add, if_pos e.symm, e, Nat.add_assoc]
        · rw [if_neg e, hR m hm, if_neg fun h => e h.symm]
          rfl
      · rw [upw_o (by omega), upw_s]
        unfold pu
        by_cases e : a' = a
        · rw [if_pos (by omega), e]
        · rw [if_neg (by omega)]
          exact hS a' (by omega)
      · rw [upw_o (by omega), upw_s, pu_n (hk a (by omega))]
        exact hO k hk
    rw [b_wa_part_74]
    simp -implicitDefEqProofs (disch := first | assumption | omega) only [szS_0, szS_i, szS_r, szS_l, x_cons, x_goto, ob_some, kl_i, kl_r, kl_l, kl_n, push_n, push_s, pop_0, pop_i, pop_r, Int.reduceToNat, List.length_cons, List.length_nil, Nat.reduceAdd, Nat.reduceLeDiff, Nat.zero_add, true_and, nI_n0, nat_le, Nat.add_zero, i_1, i_m1, rt_wa_part, x_al0, x_al1, x_call, x_getf, x_goto, x_iadd, x_iaload, x_icge, x_idiv, x_ifle, x_ifne, x_il10, x_il11, x_il2, x_il3, x_il4, x_il5, x_il6, x_il7, x_il8, x_il9, x_imul, x_inc10, x_inc11, x_is10, x_is11, x_is5, x_is6, x_is7, x_is8, x_is9, x_isub, x_ldc, x_vret, nI_ltE, ha', ↓reduceIte, s_holds, bI_0]
    by_cases hb : o.testBit a = true
    · have ec : cnt o.testBit (a + 1) = cnt o.testBit a + 1 := by rw [cnt_s, if_pos hb]
      have fin : ∀ z : Nat, z = snF w o c n a → wp (ev (d + 1)) P wa_part 128 [some (.ref x), some (.ref (t + 1)), some (.int (nI n)), some (.int (nI o)), some (.int v4), some (.int (nI (am w n))), some (.int (nI (cnt o.testBit (am w n)))), some (.int (nI (c * vN w 7 / 100))), some (.int (nI (rst0 w o c n))), some (.int (nI (rst0 w o c n / cnt o.testBit (am w n)))), some (.int y), some (.int (nI a))] [.int (nI z), .int (nI (n * 3 + a)), .ref (t + 1), .ref x] (E g q) := by
        intro z hz
        rw [hz, b_wa_part_128]
        simp -implicitDefEqProofs (disch := first | assumption | omega) only [szS_0, szS_i, szS_r, szS_l, x_cons, x_goto, ob_some, kl_i, kl_r, kl_l, kl_n, push_n, push_s, pop_0, pop_i, pop_r, Int.reduceToNat, List.length_cons, List.length_nil, Nat.reduceAdd, Nat.reduceLeDiff, Nat.zero_add, true_and, nI_n0, nat_le, Nat.add_zero, i_1, i_m1, rt_wa_part, x_al0, x_al1, x_call, x_getf, x_goto, x_iadd, x_iaload, x_icge, x_idiv, x_ifle, x_ifne, x_il10, x_il11, x_il2, x_il3, x_il4, x_il5, x_il6, x_il7, x_il8, x_il9, x_imul, x_inc10, x_inc11, x_is10, x_is11, x_is5, x_is6, x_is7, x_is8, x_is9, x_isub, x_ldc, x_vret]
        rw [s_send hT hX hs48 hm16 het]
        simp -implicitDefEqProofs (disch := first | assumption | omega) only [szS_0, szS_i, szS_r, szS_l, x_cons, x_goto, ob_some, kl_i, kl_r, kl_l, kl_n, push_n, push_s, pop_0, pop_i, pop_r, Int.reduceToNat, List.length_cons, List.length_nil, Nat.reduceAdd, Nat.reduceLeDiff, Nat.zero_add, true_and, nI_n0, nat_le, Nat.add_zero, i_1, i_m1, rt_wa_part, x_al0, x_al1, x_call, x_getf, x_goto, x_iadd, x_iaload, x_icge, x_idiv, x_ifle, x_ifne, x_il10, x_il11, x_il2, x_il3, x_il4, x_il5, x_il6, x_il7, x_il8, x_il9, x_imul, x_inc10, x_inc11, x_is10, x_is11, x_is5, x_is6, x_is7, x_is8, x_is9, x_isub, x_ldc, x_vret]
        exact next _ (by rw [hy, ec, ← nI_add, ← Int32.sub_sub, Int32.sub_eq_add_neg _ (nI 1)]; rfl)
      have esn : snF w o c n a = rst0 w o c n / cnt o.testBit (am w n) + (if cnt o.testBit a < rst0 w o c n % cnt o.testBit (am w n) then 1 else 0) := if_pos hb
      simp -implicitDefEqProofs (disch := first | assumption | omega) only [hb, Bool.true_eq_false, ↓reduceIte, b_wa_part_106, szS_0, szS_i, szS_r, szS_l, x_cons, x_goto, ob_some, kl_i, kl_r, kl_l, kl_n, push_n, push_s, pop_0, pop_i, pop_r, Int.reduceToNat, List.length_cons, List.length_nil, Nat.reduceAdd, Nat.reduceLeDiff, Nat.zero_add, true_and, nI_n0, nat_le, Nat.add_zero, i_1, i_m1, rt_wa_part, x_al0, x_al1, x_call, x_getf, x_goto, x_iadd, x_iaload, x_icge, x_idiv, x_ifle, x_ifne, x_il10, x_il11, x_il2, x_il3, x_il4, x_il5, x_il6, x_il7, x_il8, x_il9, x_imul, x_inc10, x_inc11, x_is10, x_is11, x_is5, x_is6, x_is7, x_is8, x_is9, x_isub, x_ldc, x_vret, nI_mul, nI_add, hy, nI_sle]
      rw [← hy]
      by_cases hm : rst0 w o c n % cnt o.testBit (am w n) ≤ cnt o.testBit a
      · rw [if_neg (by omega)] at esn
        rw [if_pos hm]
        simp -implicitDefEqProofs (disch := first | assumption | omega) only [b_wa_part_126, szS_0, szS_i, szS_r, szS_l, x_cons, x_goto, ob_some, kl_i, kl_r, kl_l, kl_n, push_n, push_s, pop_0, pop_i, pop_r, Int.reduceToNat, List.length_cons, List.length_nil, Nat.reduceAdd, Nat.reduceLeDiff, Nat.zero_add, true_and, nI_n0, nat_le, Nat.add_zero, i_1, i_m1, rt_wa_part, x_al0, x_al1, x_call, x_getf, x_goto, x_iadd, x_iaload, x_icge, x_idiv, x_ifle, x_ifne, x_il10, x_il11, x_il2, x_il3, x_il4, x_il5, x_il6, x_il7, x_il8, x_il9, x_imul, x_inc10, x_inc11, x_is10, x_is11, x_is5, x_is6, x_is7, x_is8, x_is9, x_isub, x_ldc, x_vret]
        exact fin _ esn.symm
      · rw [if_pos (by omega)] at esn
        rw [if_neg hm]
        exact fin _ esn.symm
    · have hb := bne_f hb
      have ec : cnt o.testBit (a + 1) = cnt o.testBit a := by rw [cnt_s, hb]; rfl
      have esn : snF w o c n a = c * vN w 7 / 100 := if_neg (by rw [hb]; exact Bool.false_ne_true)
      simp -implicitDefEqProofs (disch := first | assumption | omega) only [hb, ↓reduceIte, szS_0, szS_i, szS_r, szS_l, x_cons, x_goto, ob_some, kl_i, kl_r, kl_l, kl_n, push_n, push_s, pop_0, pop_i, pop_r, Int.reduceToNat, List.length_cons, List.length_nil, Nat.reduceAdd, Nat.reduceLeDiff, Nat.zero_add, true_and, nI_n0, nat_le, Nat.add_zero, i_1, i_m1, rt_wa_part, x_al0, x_al1, x_call, x_getf, x_goto, x_iadd, x_iaload, x_icge, x_idiv, x_ifle, x_ifne, x_il10, x_il11, x_il2, x_il3, x_il4, x_il5, x_il6, x_il7, x_il8, x_il9, x_imul, x_inc10, x_inc11, x_is10, x_is11, x_is5, x_is6, x_is7, x_is8, x_is9, x_isub, x_ldc, x_vret, nI_mul, nI_add]
      rw [s_send hT hX hs48 hm16 het]
      simp -implicitDefEqProofs (disch := first | assumption | omega) only [szS_0, szS_i, szS_r, szS_l, x_cons, x_goto, ob_some, kl_i, kl_r, kl_l, kl_n, push_n, push_s, pop_0, pop_i, pop_r, Int.reduceToNat, List.length_cons, List.length_nil, Nat.reduceAdd, Nat.reduceLeDiff, Nat.zero_add, true_and, nI_n0, nat_le, Nat.add_zero, i_1, i_m1, rt_wa_part, x_al0, x_al1, x_call, x_getf, x_goto, x_iadd, x_iaload, x_icge, x_idiv, x_ifle, x_ifne, x_il10, x_il11, x_il2, x_il3, x_il4, x_il5, x_il6, x_il7, x_il8, x_il9, x_imul, x_inc10, x_inc11, x_is10, x_is11, x_is5, x_is6, x_is7, x_is8, x_is9, x_isub, x_ldc, x_vret]
      rw [← esn]
      have := next y (by rw [hy, ec])
      rw [esn] at this ⊢
      exact this
theorem s_part (hT : t = 1 ∨ t = 31 ∨ t = 61) (hX : x = 175 ∨ x = 185) (hw : WI w) {n c o : Nat} (hn : n < 16) (hc : c ≤ 1998) (ho1 : 1 ≤ o) (ho : o < 2 ^ am w n) {R : Nat → Nat} (hR : ∀ m, m < 16 → g (x + 1) m = nI (R m)) (hRn : R n = c) (ham3 : g (t + 3) n = nI (am w n)) (hto : ∀ a, a < am w n → g (t + 4) (n * 3 + a) = nI (tg w n a))
    (H : ∀ g', (∀ b, b ≠ x + 1 → b ≠ x + 3 → g' b = g b) → (∀ m, m < 16 → g' (x + 1) m = nI (R m + SF w o c n m)) → (∀ a, a < am w n → g' (x + 3) (n * 3 + a) = nI (snF w o c n a)) → (∀ k, (∀ a, a < 3 → k ≠ n * 3 + a) → g' (x + 3) k = g (x + 3) k) → P none (E g' q)) :
    callC (ev (d + 2)) wa_part [.ref x, .ref (t + 1), .int (nI n), .int (nI o), .int (nI (vN w 7))] (E g q) P := by
  refine in_wa_part (by rcases hX with rfl | rfl <;> rfl) ?_
  have ham := am_le hw hn
  have hp : 2 ^ am w n ≤ 2 ^ 3 := Nat.pow_le_pow_right (by decide) ham
  have hk1 := cnt_ex ho1 ho
  have hkl := cnt_le (p := o.testBit) (am w n)
  have hv7 := (wi_7 hw).2
  have hct : c * vN w 7 ≤ 1998 * 33 := Nat.mul_le_mul hc hv7
  have z100 := nI_ne (a := 100) (by decide) (by decide)
  have hk0 := nI_ne hk1 (by omega)
  have htr := trk hw (c := c) (k := am w n - cnt o.testBit (am w n)) (by omega)
  have hc3 := cnt_hi ham ho
  have hrl : rst0 w o c n ≤ 1998 := Nat.le_trans (Nat.sub_le _ _) hc
  have hdm := Nat.div_mul_le_self (rst0 w o c n) (cnt o.testBit (am w n))
  have hkp : ¬ cnt o.testBit (am w n) ≤ 0 := by omega
  have hcn : g (x + 1) n = nI c := by rw [hR n hn, hRn]
  have er : c - c * vN w 7 / 100 * (am w n - cnt o.testBit (am w n)) = rst0 w o c n := rfl
  have emod : rst0 w o c n - rst0 w o c n / cnt o.testBit (am w n) * cnt o.testBit (am w n) = rst0 w o c n % cnt o.testBit (am w n) := by
    have h := Nat.div_add_mod (rst0 w o c n) (cnt o.testBit (am w n))
    rw [Nat.mul_comm] at h
    omega
  rw [b_wa_part_0]
  simp -implicitDefEqProofs (disch := first | assumption | omega) only [szS_0, szS_i, szS_r, szS_l, x_cons, x_goto, ob_some, kl_i, kl_r, kl_l, kl_n, push_n, push_s, pop_0, pop_i, pop_r, Int.reduceToNat, List.length_cons, List.length_nil, Nat.reduceAdd, Nat.reduceLeDiff, Nat.zero_add, true_and, nI_n0, nat_le, Nat.add_zero, i_1, i_m1, rt_wa_part, x_al0, x_al1, x_call, x_getf, x_goto, x_iadd, x_iaload, x_icge, x_idiv, x_ifle, x_ifne, x_il10, x_il11, x_il2, x_il3, x_il4, x_il5, x_il6, x_il7, x_il8, x_il9, x_imul, x_inc10, x_inc11, x_is10, x_is11, x_is5, x_is6, x_is7, x_is8, x_is9, x_isub, x_ldc, x_vret, tf_1_0, tf_1_1, tf_1_2, tf_1_3, tf_1_4, ts_1_0, tl_3, td_3, xf_0, xf_1, xf_2, xf_3, xf_4, xs_3, xs_4, xl_1, xd_1, ham3, hcn, s_bitCount, hc3, nI_mul, nI_div, nI_sub, er, nI_leE, hkp, ↓reduceIte, b_wa_part_59, emod]
  refine cp_lp hT hX hw hn hc (by omega) hk1 hto (R := R) (fun g' h1 h2 h3 h4 => H g' h1 h2 h3 h4) (am w n) 0 _ g (Nat.zero_add _) ?_ (fun _ _ _ => rfl) (fun m hm => ?_) (fun a' ha => absurd ha (Nat.not_lt_zero a')) fun _ _ => rfl
  · show _ = nI _ - 0
    rw [Int32.sub_zero]
  · rw [hR m hm]
    rfl
theorem s_serve (hT : t = 1 ∨ t = 31 ∨ t = 61) (hX : x = 175 ∨ x = 185) (hw : WI w) {n c W : Nat} (hn : n < nn w) (hs : fd w n 0 = 1) (hc : c ≤ 1998) (hW : W < 65536) (hct : g (t + 10) n = w (10 + 20 * n + 11) ∧ g (t + 11) n = w (10 + 20 * n + 15) ∧ g (t + 12) n = w (10 + 20 * n + 16)) (hto : g (t + 4) (n * 3) = nI (tg w n 0)) (hcn : g (x + 1) n = nI c) (hx3 : g x 3 = nI W) :
    callC (ev (d + 2)) wa_serve [.ref x, .ref (t + 1), .ref (t + 6), .int (nI n)] (E g q) P = P none (E (upw (upw (upw (upw g (x + 2) (pu (g (x + 2)) n (nI (sto w c n)))) x (pu (g x) 3 (nI (W ||| (if wetP w c n = true then 2 ^ n else 0))))) (x + 3) (pu (g (x + 3)) (n * 3) (nI (snT w c n)))) (x + 1) (pu (g (x + 1)) (tg w n 0) (g (x + 1) (tg w n 0) + nI (snT w c n)))) q) := by
  refine call_eq (in_wa_serve (by rcases hX with rfl | rfl <;> rfl) ?_)
  generalize hzz : (W ||| (if wetP w c n = true then 2 ^ n else 0)) = zz
  have h0 := wi_n hw
  have hn16 : n < 16 := by omega
  have hy := wi_y hw hn16
  have u11 := hy.2.1
  have u15 := hy.2.2.2.2.2.1
  have u16 := hy.2.2.2.2.2.2.1
  have htw := wi_T hw hn hs
  have htl := tg_lt hw hn16 (a := 0) (by omega)
  have hm16 : tg w n 0 < 16 := by omega
  have hs48 : n * 3 < 48 := by omega
  obtain ⟨c11, c15, c16⟩ := hct
  rw [u11.1] at c11
  rw [u15.1] at c15
  rw [u16.1] at c16
  have l11 := u11.2
  have l15 := u15.2
  have l16 := u16.2
  -- behind what the store takes
  have fin : ∀ o y : Int32, o = nI c - nI (fd w n 11) → nI (fd w n 16) + y = nI (sto w c n) → (o - y < nI 0) = (wetP w c n = false) → (if nI 0 < o - y then o - y else nI 0) = nI (snT w c n) → ∀ v5 : Int32,
      wp (ev (d + 1)) (fun r1 h1 => r1 = none ∧ h1 = E (upw (upw (upw (upw g (x + 2) (pu (g (x + 2)) n (nI (sto w c n)))) x (pu (g x) 3 (nI zz))) (x + 3) (pu (g (x + 3)) (n * 3) (nI (snT w c n)))) (x + 1) (pu (g (x + 1)) (tg w n 0) (g (x + 1) (tg w n 0) + nI (snT w c n)))) q) wa_serve 66 [some (.ref x), some (.ref (t + 1)), some (.ref (t + 6)), some (.int (nI n)), some (.int (nI (fd w n 16))), some (.int v5), some (.int o), none] [.int y] (E g q) := by
    intro o y ho h1 h2 h3 v5
    have last : ∀ z : Nat, z = zz →
        wp (ev (d + 1)) (fun r1 h1 => r1 = none ∧ h1 = E (upw (upw (upw (upw g (x + 2) (pu (g (x + 2)) n (nI (sto w c n)))) x (pu (g x) 3 (nI zz))) (x + 3) (pu (g (x + 3)) (n * 3) (nI (snT w c n)))) (x + 1) (pu (g (x + 1)) (tg w n 0) (g (x + 1) (tg w n 0) + nI (snT w c n)))) q) wa_serve 99 [some (.ref x), some (.ref (t + 1)), some (.ref (t + 6)), some (.int (nI n)), some (.int (nI (fd w n 16))), some (.int v5), some (.int o), some (.int y)] [] (E (upw (upw g (x + 2) (pu (g (x + 2)) n (nI (sto w c n)))) x (pu (g x) 3 (nI z))) q) := by
      intro z hz
      rw [b_wa_serve_99, hz]
      simp -implicitDefEqProofs (disch := first | assumption | omega) only [szS_0, szS_i, szS_r, szS_l, x_cons, x_goto, ob_some, kl_i, kl_r, kl_l, kl_n, push_n, push_s, pop_0, pop_i, pop_r, Int.reduceToNat, List.length_cons, List.length_nil, Nat.reduceAdd, Nat.reduceLeDiff, Nat.zero_add, true_and, nI_n0, nat_le, Nat.add_zero, rt_wa_serve, x_aaload, x_al0, x_al1, x_al2, x_call, x_dupi, x_dupr, x_getf, x_goto, x_iadd, x_iaload, x_iastore, x_ifle, x_iflt, x_il3, x_il4, x_il5, x_il6, x_il7, x_imul, x_ineg, x_ior, x_is4, x_is5, x_is6, x_is7, x_ishl, x_isub, x_ldc, x_putf, x_vret, nI_mul, s_jmax, h3]
      rw [s_send hT hX hs48 hm16 (by rw [upw_o (by omega), upw_o (by omega)]; exact hto)]
      rw [upw_o (show x + 3 ≠ x by omega), upw_o (show x + 3 ≠ x + 2 by omega), upw_o (show x + 1 ≠ x by omega), upw_o (show x + 1 ≠ x + 2 by omega)]
      simp -implicitDefEqProofs (disch := first | assumption | omega) only [szS_0, szS_i, szS_r, szS_l, x_cons, x_goto, ob_some, kl_i, kl_r, kl_l, kl_n, push_n, push_s, pop_0, pop_i, pop_r, Int.reduceToNat, List.length_cons, List.length_nil, Nat.reduceAdd, Nat.reduceLeDiff, Nat.zero_add, true_and, nI_n0, nat_le, Nat.add_zero, rt_wa_serve, x_aaload, x_al0, x_al1, x_al2, x_call, x_dupi, x_dupr, x_getf, x_goto, x_iadd, x_iaload, x_iastore, x_ifle, x_iflt, x_il3, x_il4, x_il5, x_il6, x_il7, x_imul, x_ineg, x_ior, x_is4, x_is5, x_is6, x_is7, x_ishl, x_isub, x_ldc, x_putf, x_vret]
      all_goals first | rfl | exact ⟨rfl, rfl⟩ | exact ⟨rfl, trivial⟩ | exact ⟨trivial, rfl⟩ | trivial
    rw [b_wa_serve_66]
    simp -implicitDefEqProofs (disch := first | assumption | omega) only [szS_0, szS_i, szS_r, szS_l, x_cons, x_goto, ob_some, kl_i, kl_r, kl_l, kl_n, push_n, push_s, pop_0, pop_i, pop_r, Int.reduceToNat, List.length_cons, List.length_nil, Nat.reduceAdd, Nat.reduceLeDiff, Nat.zero_add, true_and, nI_n0, nat_le, Nat.add_zero, rt_wa_serve, x_aaload, x_al0, x_al1, x_al2, x_call, x_dupi, x_dupr, x_getf, x_goto, x_iadd, x_iaload, x_iastore, x_ifle, x_iflt, x_il3, x_il4, x_il5, x_il6, x_il7, x_imul, x_ineg, x_ior, x_is4, x_is5, x_is6, x_is7, x_ishl, x_isub, x_ldc, x_putf, x_vret, xf_0, xf_1, xf_2, xf_3, xf_4, xs_3, xs_4, xl_2, xd_2, h1, pu_g, h2]
    by_cases hb : wetP w c n = false
    · have e : zz = W := by rw [← hzz, hb, if_neg Bool.false_ne_true, Nat.or_zero]
      simp only [hb, ↓reduceIte]
      have := last W e.symm
      rw [← hx3] at this
      rw [show pu (g x) 3 (g x 3) = g x from by
        funext k
        unfold pu
        split
        next h => rw [h]
        next h => rfl] at this
      rw [show upw (upw g (x + 2) (pu (g (x + 2)) n (nI (sto w c n)))) x (g x) = upw g (x + 2) (pu (g (x + 2)) n (nI (sto w c n))) from by
        have e2 : g x = upw g (x + 2) (pu (g (x + 2)) n (nI (sto w c n))) x := (upw_o (by omega)).symm
        rw [e2, upw_g]] at this
      exact this
    · have hb := bne_t hb
      simp only [hb, Bool.true_eq_false, ↓reduceIte]
      simp -implicitDefEqProofs (disch := first | assumption | omega) only [szS_0, szS_i, szS_r, szS_l, x_cons, x_goto, ob_some, kl_i, kl_r, kl_l, kl_n, push_n, push_s, pop_0, pop_i, pop_r, Int.reduceToNat, List.length_cons, List.length_nil, Nat.reduceAdd, Nat.reduceLeDiff, Nat.zero_add, true_and, nI_n0, nat_le, Nat.add_zero, rt_wa_serve, x_aaload, x_al0, x_al1, x_al2, x_call, x_dupi, x_dupr, x_getf, x_goto, x_iadd, x_iaload, x_iastore, x_ifle, x_iflt, x_il3, x_il4, x_il5, x_il6, x_il7, x_imul, x_ineg, x_ior, x_is4, x_is5, x_is6, x_is7, x_ishl, x_isub, x_ldc, x_putf, x_vret, xf_0, xf_1, xf_2, xf_3, xf_4, xs_3, xs_4, xl_2, xd_2, upw_o, hx3, nI_shl1, nI_or, pu_g]
      exact last _ (by rw [← hzz, hb, if_pos rfl])
  rw [b_wa_serve_0]
  simp -implicitDefEqProofs (disch := first | assumption | omega) only [szS_0, szS_i, szS_r, szS_l, x_cons, x_goto, ob_some, kl_i, kl_r, kl_l, kl_n, push_n, push_s, pop_0, pop_i, pop_r, Int.reduceToNat, List.length_cons, List.length_nil, Nat.reduceAdd, Nat.reduceLeDiff, Nat.zero_add, true_and, nI_n0, nat_le, Nat.add_zero, rt_wa_serve, x_aaload, x_al0, x_al1, x_al2, x_call, x_dupi, x_dupr, x_getf, x_goto, x_iadd, x_iaload, x_iastore, x_ifle, x_iflt, x_il3, x_il4, x_il5, x_il6, x_il7, x_imul, x_ineg, x_ior, x_is4, x_is5, x_is6, x_is7, x_ishl, x_isub, x_ldc, x_putf, x_vret, tf_6_0, tf_6_1, tf_6_2, tf_6_3, tf_6_4, tf_6_5, tf_6_6, tf_6_7, tf_6_8, tf_6_9, tf_6_10, ts_6_0, ts_6_1, ts_6_2, ts_6_3, ts_6_4, tr_0, tr_1, tr_2, tr_3, tr_4, tr_5, tr_6, tr_7, tl_10, td_10, tl_11, td_11, tl_12, td_12, xf_0, xf_1, xf_2, xf_3, xf_4, xs_3, xs_4, xl_1, xd_1, c11, c15, c16, hcn, nI_mul, nI_sub]
  have e0 := nI_sle (a := c) (b := fd w n 11) (by omega) (by omega)
  by_cases hl : c ≤ fd w n 11
  · have hg : giv w c n = (if fd w n 11 - c < fd w n 16 then fd w n 11 - c else fd w n 16) := rfl
    have hgl : giv w c n ≤ fd w n 16 ∧ giv w c n ≤ fd w n 11 - c := by
      rw [hg]
      split <;> omega
    have et : (if nI c - nI (fd w n 11) < -nI (fd w n 16) then -nI (fd w n 16) else nI c - nI (fd w n 11)) = -nI (giv w c n) := by
      by_cases h : c + fd w n 16 < fd w n 11
      · rw [if_pos (by rw [nI_sneg (by omega) (by omega) (by omega)]; exact h), hg, if_neg (by omega)]
      · rw [if_neg (by rw [nI_sneg (by omega) (by omega) (by omega)]; exact h)]
        have : giv w c n = fd w n 11 - c := by
          rw [hg]
          split <;> omega
        rw [this, ← nI_sub hl, Int32.neg_sub]
    have esn : snT w c n = 0 := if_neg (by omega)
    simp -implicitDefEqProofs (disch := first | assumption | omega) only [e0, hl, ↓reduceIte, b_wa_serve_58, szS_0, szS_i, szS_r, szS_l, x_cons, x_goto, ob_some, kl_i, kl_r, kl_l, kl_n, push_n, push_s, pop_0, pop_i, pop_r, Int.reduceToNat, List.length_cons, List.length_nil, Nat.reduceAdd, Nat.reduceLeDiff, Nat.zero_add, true_and, nI_n0, nat_le, Nat.add_zero, rt_wa_serve, x_aaload, x_al0, x_al1, x_al2, x_call, x_dupi, x_dupr, x_getf, x_goto, x_iadd, x_iaload, x_iastore, x_ifle, x_iflt, x_il3, x_il4, x_il5, x_il6, x_il7, x_imul, x_ineg, x_ior, x_is4, x_is5, x_is6, x_is7, x_ishl, x_isub, x_ldc, x_putf, x_vret, s_jmax, et]
    refine fin _ _ rfl ?_ ?_ ?_ _
    · rw [nI_addn hgl.1]
      unfold sto
      rw [if_neg (by omega)]
    · rw [nI_subn, nI_slt (by omega) (by omega)]
      unfold wetP
      rw [decide_eq_false_iff_not, hg]
      refine propext ?_
      split <;> omega
    · rw [nI_subn, esn, if_neg]
      rw [nI_sl0 (by omega) (by omega)]
      omega
  · have hl' : fd w n 11 < c := by omega
    have hg : tak w c n = (if c - fd w n 11 < 50 * fd w n 15 - fd w n 16 then c - fd w n 11 else 50 * fd w n 15 - fd w n 16) := rfl
    have hgl : tak w c n ≤ c - fd w n 11 := by
      rw [hg]
      split <;> omega
    have e3 := nI_sub (a := c) (b := fd w n 11) (by omega)
    rw [e3] at e0
    have esn : snT w c n = c - fd w n 11 - tak w c n := if_pos hl'
    simp -implicitDefEqProofs (disch := first | assumption | omega) only [e3, e0, hl, ↓reduceIte, szS_0, szS_i, szS_r, szS_l, x_cons, x_goto, ob_some, kl_i, kl_r, kl_l, kl_n, push_n, push_s, pop_0, pop_i, pop_r, Int.reduceToNat, List.length_cons, List.length_nil, Nat.reduceAdd, Nat.reduceLeDiff, Nat.zero_add, true_and, nI_n0, nat_le, Nat.add_zero, rt_wa_serve, x_aaload, x_al0, x_al1, x_al2, x_call, x_dupi, x_dupr, x_getf, x_goto, x_iadd, x_iaload, x_iastore, x_ifle, x_iflt, x_il3, x_il4, x_il5, x_il6, x_il7, x_imul, x_ineg, x_ior, x_is4, x_is5, x_is6, x_is7, x_ishl, x_isub, x_ldc, x_putf, x_vret, s_jmin, nI_ltE, nI_ite, min_s]
    rw [← hg]
    refine fin _ _ e3.symm ?_ ?_ ?_ _
    · rw [nI_add]
      unfold sto
      rw [if_pos hl']
    · rw [nI_sub hgl, nI_ltE (by omega) (by decide)]
      unfold wetP
      rw [decide_eq_false_iff_not]
      exact propext ⟨fun h => by omega, fun h => by omega⟩
    · have hd : (nI 0 < nI (c - fd w n 11 - tak w c n)) = (0 < c - fd w n 11 - tak w c n) := nI_ltE (by decide) (by omega)
      rw [nI_sub hgl, esn]
      by_cases h : 0 < c - fd w n 11 - tak w c n
      · rw [if_pos (by rw [hd]; exact h)]
      · rw [if_neg (by rw [hd]; exact h), show c - fd w n 11 - tak w c n = 0 by omega]
end CW
