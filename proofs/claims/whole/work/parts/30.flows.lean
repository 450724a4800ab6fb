/-! the reference's water -/
theorem nI_ite {c : Prop} [Decidable c] {a b : Nat} : (if c then nI a else nI b) = nI (if c then a else b) := by split <;> rfl
theorem nI_sI {a b : Nat} (ha : a < 2147483648) (hb : b < 2147483648) : (nI a - nI b).toInt = (a : Int) - b := by
  rw [Int32.toInt_sub, nI_I ha, nI_I hb, Int.bmod_def]
  by_cases e : b ≤ a
  · have e1 : ((a : Int) - b) % (2 ^ 32 : Nat) = (a : Int) - b := Int.emod_eq_of_lt (by omega) (by omega)
    rw [e1, if_pos (by omega)]
  · have e1 : ((a : Int) - b) % (2 ^ 32 : Nat) = (a : Int) - b + (2 ^ 32 : Nat) := by
      rw [← Int.add_emod_right]
      exact Int.emod_eq_of_lt (by omega) (by omega)
    rw [e1, if_neg (by omega)]
    omega
theorem nI_sle {a b : Nat} (ha : a < 2147483648) (hb : b < 2147483648) : (nI a - nI b ≤ nI 0) = (a ≤ b) := by
  rw [leE, nI_sI ha hb, nI_I (by decide)]
  exact propext ⟨fun h => by omega, fun h => by omega⟩
theorem nI_slt {a b : Nat} (ha : a < 2147483648) (hb : b < 2147483648) : (nI a - nI b < nI 0) = (a < b) := by
  rw [ltE, nI_sI ha hb, nI_I (by decide)]
  exact propext ⟨fun h => by omega, fun h => by omega⟩
theorem nI_nsub {a b : Nat} (h : a ≤ b) : -(nI a - nI b) = nI (b - a) := by rw [Int32.neg_sub, nI_sub h]
theorem nI_addn {a b : Nat} (h : b ≤ a) : nI a + -nI b = nI (a - b) := by rw [← Int32.sub_eq_add_neg, nI_sub h]
theorem nI_subn {a b c : Nat} : nI a - nI b - -nI c = nI (a + c) - nI b := by
  rw [← nI_add, Int32.sub_neg, Int32.sub_eq_add_neg, Int32.sub_eq_add_neg, Int32.add_assoc, Int32.add_assoc, Int32.add_comm (-nI b)]
theorem nI_mod {a b : Nat} (ha : a < 2147483648) (hb : b < 2147483648) : nI a - nI a / nI b * nI b = nI (a % b) := by
  have h := Nat.div_add_mod a b
  rw [Nat.mul_comm] at h
  have h2 : a / b * b ≤ a := Nat.div_mul_le_self a b
  rw [nI_div ha hb, nI_mul, nI_sub h2]
  congr 1
  omega
theorem tbI_1 {B n : Nat} : (nI (bt B n) = nI 1) = (B.testBit n = true) := by
  have := bt_l (B := B) (n := n)
  rw [nI_eqE (by omega) (by decide), tb_1]
theorem tbI_0 {B n : Nat} : (nI (bt B n) = nI 0) = (B.testBit n = false) := by
  have := bt_l (B := B) (n := n)
  rw [nI_eqE (by omega) (by decide), tb_0]
def S1 (w : Nat → Int32) (o c n m a : Nat) : Nat := sm (fun a' => if tg w n a' = m then (if o.testBit a' = true then 0 else c * vN w 7 / 100) else 0) a
def S2 (w : Nat → Int32) (o c n m a : Nat) : Nat := sm (fun a' => if tg w n a' = m then (if o.testBit a' = true then snF w o c n a' else 0) else 0) a
def SF (w : Nat → Int32) (o c n m : Nat) : Nat := sm (fun a => if tg w n a = m then snF w o c n a else 0) (am w n)
theorem S12 {w : Nat → Int32} {o c n m : Nat} : S1 w o c n m (am w n) + S2 w o c n m (am w n) = SF w o c n m := by
  unfold S1 S2 SF
  rw [← sm_add]
  refine sm_c _ fun a _ => ?_
  show (if tg w n a = m then _ else _) + (if tg w n a = m then _ else _) = _
  unfold snF
  repeat' split
  all_goals simp_all
theorem S1_s {w : Nat → Int32} {o c n m a : Nat} : S1 w o c n m (a + 1) = S1 w o c n m a + (if tg w n a = m then (if o.testBit a = true then 0 else c * vN w 7 / 100) else 0) := rfl
theorem S2_s {w : Nat → Int32} {o c n m a : Nat} : S2 w o c n m (a + 1) = S2 w o c n m a + (if tg w n a = m then (if o.testBit a = true then snF w o c n a else 0) else 0) := rfl
theorem cnt_s {p : Nat → Bool} {n : Nat} : cnt p (n + 1) = cnt p n + (if p n = true then 1 else 0) := rfl
section MH
variable {d : Nat} {g : Nat → Nat → Int32} {q : Nat → Nat → Int64} {P : QT}
theorem s_goes {f t : Nat} {x : Int32} (hf : f < 16) (ht : t < 16) : callC (ev (d + 1)) mo_goes [.ref 196, .int (nI f), .int (nI t), .int x] (E g q) P = P none (E (upw (upw g 208 (pu (g 208) t (g 208 t + x))) 197 (pu (g 197) (340 + 16 * f + t) (g 197 (340 + 16 * f + t) + x))) q) := by
  refine call_eq (in_mo_goes rfl ?_)
  simp -implicitDefEqProofs (disch := first | assumption | omega) only [szS_0, szS_i, szS_r, szS_l, x_cons, x_goto, ob_some, kl_i, kl_r, kl_l, kl_n, push_n, push_s, pop_0, pop_i, pop_r, Int.reduceToNat, List.length_cons, List.length_nil, Nat.reduceAdd, Nat.reduceLeDiff, Nat.zero_add, true_and, nI_n0, nat_le, Nat.add_zero, rt_mo_goes, x_al0, x_dup2, x_getf, x_iadd, x_iaload, x_iastore, x_il1, x_il2, x_il3, x_imul, x_ldc, x_vret, b_mo_goes_0, fd_196_0, fd_196_1, fd_196_2, fd_196_3, fd_196_4, sf_196_4, fd_196_5, sf_196_5, fd_196_6, fd_196_7, fd_196_8, fd_196_9, fd_196_10, fd_196_11, fd_196_12, sf_196_12, fd_196_13, sf_196_13, fd_196_14, sf_196_14, fd_196_15, sf_196_15, fd_196_16, sf_196_16, fd_196_17, sf_196_17, fd_196_18, sf_196_18, fd_196_19, sf_196_19, fd_196_20, sf_196_20, fd_196_21, sf_196_21, fd_196_22, sf_196_22, fd_196_23, sf_196_23, fd_196_24, sf_196_24, fd_196_25, sf_196_25, fd_196_26, sf_196_26, fd_196_27, fd_196_28, fd_196_29, fd_196_30, sf_196_30, fd_196_31, fd_196_32, fd_196_33, fd_196_34, fd_196_35, fd_196_36, fd_196_37, sf_196_37, fd_196_38, fd_196_39, sf_196_39, fd_196_40, sf_196_40, fd_196_41, sf_196_41, fd_196_42, fd_196_43, fd_196_44, ld_197, sd_197, ln_197, ld_208, sd_208, ln_208, nI_mul, nI_add, pu_g, upw_w, upw_s, upw_o]
  all_goals first | rfl | exact ⟨rfl, rfl⟩ | exact ⟨rfl, trivial⟩ | exact ⟨trivial, rfl⟩ | trivial
theorem pa_1 {w u : Nat → Int32} (hw : WI w) {n c o : Nat} (hn : n < 16) (hc : c ≤ 1998) (ho : o ≤ 7) (h1 : u (10 + 20 * n + 1) = nI (am w n)) (h5 : u (10 + 20 * n + 5) = nI o) (h7 : u 7 = nI (vN w 7)) (ht : ∀ a, a < am w n → u (10 + 20 * n + (2 + a)) = nI (tg w n a)) {R : Nat → Nat} {c0 : Nat → Nat → Nat} (hc0 : ∀ j, j < 16 → c0 n j = 0)
    (H : ∀ r cc x o6, x = rst0 w o c n → (∀ m, m < 16 → r m = nI (R m + S1 w o c n m (am w n))) → (∀ i j, i < 16 → j < 16 → cc i j = if i = n then S1 w o c n j (am w n) else c0 i j) → wp (ev (d + 2)) P mo_parts 87 [some (.ref 196), some (.int (nI n)), some (.int (nI c)), some (.int (nI (cnt o.testBit (am w n)))), some (.int (nI x)), some (.int (nI (am w n))), o6] [] (E (upw (upw g 208 r) 197 (cmw u cc)) q)) :
    ∀ (j a k s : Nat) (r : Nat → Int32) (cc : Nat → Nat → Nat) (o6 : Option Value), a + j = am w n → k = cnt o.testBit a → s = c - c * vN w 7 / 100 * (a - k) → (∀ m, m < 16 → r m = nI (R m + S1 w o c n m a)) → (∀ i j, i < 16 → j < 16 → cc i j = if i = n then S1 w o c n j a else c0 i j) →
    wp (ev (d + 2)) P mo_parts 8 [some (.ref 196), some (.int (nI n)), some (.int (nI c)), some (.int (nI k)), some (.int (nI s)), some (.int (nI a)), o6] [] (E (upw (upw g 208 r) 197 (cmw u cc)) q) := by
  have ham := am_le hw hn
  have hv7 := (wi_7 hw).2
  have hct : c * vN w 7 ≤ 1998 * 33 := Nat.mul_le_mul hc hv7
  have z100 := nI_ne (a := 100) (by decide) (by decide)
  intro j
  induction j with
  | zero =>
    intro a k s r cc o6 ha hk hs hr hcc
    have ha : a = am w n := ha
    subst ha hk
    rw [b_mo_parts_8]
    simp -implicitDefEqProofs (disch := first | assumption | omega) only [szS_0, szS_i, szS_r, szS_l, x_cons, x_goto, ob_some, kl_i, kl_r, kl_l, kl_n, push_n, push_s, pop_0, pop_i, pop_r, Int.reduceToNat, List.length_cons, List.length_nil, Nat.reduceAdd, Nat.reduceLeDiff, Nat.zero_add, true_and, nI_n0, nat_le, Nat.add_zero, i_1, i_m1, rt_mo_parts, x_al0, x_call, x_getf, x_goto, x_iadd, x_iaload, x_iand, x_icge, x_icne, x_idiv, x_ifle, x_ifne, x_il1, x_il2, x_il3, x_il4, x_il5, x_il6, x_imul, x_inc3, x_inc5, x_inc6, x_irem, x_is3, x_is4, x_is5, x_is6, x_ishr, x_isub, x_ldc, x_vret, s_own, upw_s, cmw_o, h1, nI_ltE, Nat.lt_irrefl, ↓reduceIte]
    exact H r cc s o6 hs hr hcc
  | succ j ih =>
    intro a k s r cc o6 ha hk hs hr hcc
    have ha' : a < am w n := by omega
    have hta := ht a ha'
    have htl := tg_lt hw hn ha'
    have h0 := wi_n hw
    have hkl := cnt_le (p := o.testBit) a
    have htr := trk hw (c := c) (k := a - k + 1) (by omega)
    rw [b_mo_parts_8]
    simp -implicitDefEqProofs (disch := first | assumption | omega) only [szS_0, szS_i, szS_r, szS_l, x_cons, x_goto, ob_some, kl_i, kl_r, kl_l, kl_n, push_n, push_s, pop_0, pop_i, pop_r, Int.reduceToNat, List.length_cons, List.length_nil, Nat.reduceAdd, Nat.reduceLeDiff, Nat.zero_add, true_and, nI_n0, nat_le, Nat.add_zero, i_1, i_m1, rt_mo_parts, x_al0, x_call, x_getf, x_goto, x_iadd, x_iaload, x_iand, x_icge, x_icne, x_idiv, x_ifle, x_ifne, x_il1, x_il2, x_il3, x_il4, x_il5, x_il6, x_imul, x_inc3, x_inc5, x_inc6, x_irem, x_is3, x_is4, x_is5, x_is6, x_ishr, x_isub, x_ldc, x_vret, s_own, upw_s, cmw_o, h1, h5, nI_ltE, ha', ↓reduceIte, nI_bt, tbI_1]
    by_cases hb : o.testBit a = true
    · simp -implicitDefEqProofs (disch := first | assumption | omega) only [hb, ↓reduceIte, b_mo_parts_81, szS_0, szS_i, szS_r, szS_l, x_cons, x_goto, ob_some, kl_i, kl_r, kl_l, kl_n, push_n, push_s, pop_0, pop_i, pop_r, Int.reduceToNat, List.length_cons, List.length_nil, Nat.reduceAdd, Nat.reduceLeDiff, Nat.zero_add, true_and, nI_n0, nat_le, Nat.add_zero, i_1, i_m1, rt_mo_parts, x_al0, x_call, x_getf, x_goto, x_iadd, x_iaload, x_iand, x_icge, x_icne, x_idiv, x_ifle, x_ifne, x_il1, x_il2, x_il3, x_il4, x_il5, x_il6, x_imul, x_inc3, x_inc5, x_inc6, x_irem, x_is3, x_is4, x_is5, x_is6, x_ishr, x_isub, x_ldc, x_vret, nI_add]
      refine ih (a + 1) (k + 1) s r cc o6 (by omega) (by rw [cnt_s, if_pos hb, hk]) (by rw [hs, show a + 1 - (k + 1) = a - k by omega]) (fun m hm => ?_) fun i j hi hj => ?_
      · rw [hr m hm, S1_s, if_pos hb]
        split <;> rfl
      · rw [hcc i j hi hj, S1_s, if_pos hb]
        repeat' split
        all_goals rfl
    · have hsub : c * vN w 7 / 100 ≤ s := by
        rw [Nat.mul_add, Nat.mul_one] at htr
        omega
      simp only [hb, ↓reduceIte, Bool.false_eq_true]
      simp -implicitDefEqProofs (disch := first | assumption | omega) only [b_mo_parts_40, b_mo_parts_81, szS_0, szS_i, szS_r, szS_l, x_cons, x_goto, ob_some, kl_i, kl_r, kl_l, kl_n, push_n, push_s, pop_0, pop_i, pop_r, Int.reduceToNat, List.length_cons, List.length_nil, Nat.reduceAdd, Nat.reduceLeDiff, Nat.zero_add, true_and, nI_n0, nat_le, Nat.add_zero, i_1, i_m1, rt_mo_parts, x_al0, x_call, x_getf, x_goto, x_iadd, x_iaload, x_iand, x_icge, x_icne, x_idiv, x_ifle, x_ifne, x_il1, x_il2, x_il3, x_il4, x_il5, x_il6, x_imul, x_inc3, x_inc5, x_inc6, x_irem, x_is3, x_is4, x_is5, x_is6, x_ishr, x_isub, x_ldc, x_vret, fd_196_0, fd_196_1, fd_196_2, fd_196_3, fd_196_4, sf_196_4, fd_196_5, sf_196_5, fd_196_6, fd_196_7, fd_196_8, fd_196_9, fd_196_10, fd_196_11, fd_196_12, sf_196_12, fd_196_13, sf_196_13, fd_196_14, sf_196_14, fd_196_15, sf_196_15, fd_196_16, sf_196_16, fd_196_17, sf_196_17, fd_196_18, sf_196_18, fd_196_19, sf_196_19, fd_196_20, sf_196_20, fd_196_21, sf_196_21, fd_196_22, sf_196_22, fd_196_23, sf_196_23, fd_196_24, sf_196_24, fd_196_25, sf_196_25, fd_196_26, sf_196_26, fd_196_27, fd_196_28, fd_196_29, fd_196_30, sf_196_30, fd_196_31, fd_196_32, fd_196_33, fd_196_34, fd_196_35, fd_196_36, fd_196_37, sf_196_37, fd_196_38, fd_196_39, sf_196_39, fd_196_40, sf_196_40, fd_196_41, sf_196_41, fd_196_42, fd_196_43, fd_196_44, ld_197, sd_197, ln_197, s_goesTo, upw_s, upw_o, cmw_o, hta, h7, nI_mul, nI_div, s_goes, upw_w, nI_sub, nI_add]
      rw [upw_c (show (197 : Nat) ≠ 208 by decide)]
      simp only [upw_w]
      rw [hr _ (by omega), nI_add, cmw_i hn (by omega), hcc _ _ hn (by omega), if_pos rfl, nI_add, cmw_u hn (by omega)]
      simp -implicitDefEqProofs (disch := first | assumption | omega) only [cmw_o, h7, nI_mul, nI_div, nI_sub]
      refine ih (a + 1) k _ _ _ o6 (by omega) (by rw [cnt_s, if_neg hb, hk]; rfl) ?_ (fun m hm => ?_) fun i j hi hj => ?_
      · rw [hs, show a + 1 - k = a - k + 1 by omega, Nat.mul_add, Nat.mul_one]
        omega
      · unfold pu
        rw [S1_s]
        by_cases e : m = tg w n a
        · rw [if_pos e, if_pos e.symm, if_neg hb, e, Nat.add_assoc]
        · rw [if_neg e, if_neg fun h => e h.symm, hr m hm]
          rfl
      · show (if i = n ∧ j = tg w n a then _ else cc i j) = _
        rw [S1_s]
        by_cases e : i = n
        · subst e
          by_cases e2 : j = tg w i a
          · rw [if_pos ⟨rfl, e2⟩, if_pos rfl, if_pos e2.symm, if_neg hb, e2]
          · rw [if_neg fun h => e2 h.2, if_pos rfl, if_neg fun h => e2 h.symm, hcc i j hi hj, if_pos rfl]
            rfl
        · rw [if_neg fun h => e h.1, if_neg e, hcc i j hi hj, if_neg e]
theorem pa_2 {w u : Nat → Int32} (hw : WI w) {n c o : Nat} (hn : n < 16) (hc : c ≤ 1998) (ho : o ≤ 7) (h1 : u (10 + 20 * n + 1) = nI (am w n)) (h5 : u (10 + 20 * n + 5) = nI o) (ht : ∀ a, a < am w n → u (10 + 20 * n + (2 + a)) = nI (tg w n a)) {R : Nat → Nat} {c0 : Nat → Nat → Nat} (hk1 : 1 ≤ cnt o.testBit (am w n))
    (H : ∀ r cc, (∀ m, m < 16 → r m = nI (R m + SF w o c n m)) → (∀ i j, i < 16 → j < 16 → cc i j = if i = n then SF w o c n j else c0 i j) → P none (E (upw (upw g 208 r) 197 (cmw u cc)) q)) :
    ∀ (j a : Nat) (x : Int32) (r : Nat → Int32) (cc : Nat → Nat → Nat), a + j = am w n → x = nI (rst0 w o c n % cnt o.testBit (am w n)) - nI (cnt o.testBit a) → (∀ m, m < 16 → r m = nI (R m + S1 w o c n m (am w n) + S2 w o c n m a)) → (∀ i j, i < 16 → j < 16 → cc i j = if i = n then S1 w o c n j (am w n) + S2 w o c n j a else c0 i j) →
    wp (ev (d + 2)) P mo_parts 96 [some (.ref 196), some (.int (nI n)), some (.int (nI c)), some (.int (nI (cnt o.testBit (am w n)))), some (.int (nI (rst0 w o c n))), some (.int x), some (.int (nI a))] [] (E (upw (upw g 208 r) 197 (cmw u cc)) q) := by
  have ham := am_le hw hn
  have hkl := cnt_le (p := o.testBit) (am w n)
  have hrl : rst0 w o c n ≤ 1998 := Nat.le_trans (Nat.sub_le _ _) hc
  have hml : rst0 w o c n % cnt o.testBit (am w n) < cnt o.testBit (am w n) := Nat.mod_lt _ hk1
  have hk0 := nI_ne hk1 (by omega)
  intro j
  induction j with
  | zero =>
    intro a x r cc ha hx hr hcc
    have ha : a = am w n := ha
    subst ha
    rw [b_mo_parts_96]
    simp -implicitDefEqProofs (disch := first | assumption | omega) only [szS_0, szS_i, szS_r, szS_l, x_cons, x_goto, ob_some, kl_i, kl_r, kl_l, kl_n, push_n, push_s, pop_0, pop_i, pop_r, Int.reduceToNat, List.length_cons, List.length_nil, Nat.reduceAdd, Nat.reduceLeDiff, Nat.zero_add, true_and, nI_n0, nat_le, Nat.add_zero, i_1, i_m1, rt_mo_parts, x_al0, x_call, x_getf, x_goto, x_iadd, x_iaload, x_iand, x_icge, x_icne, x_idiv, x_ifle, x_ifne, x_il1, x_il2, x_il3, x_il4, x_il5, x_il6, x_imul, x_inc3, x_inc5, x_inc6, x_irem, x_is3, x_is4, x_is5, x_is6, x_ishr, x_isub, x_ldc, x_vret, b_mo_parts_160, s_own, upw_s, cmw_o, h1, nI_ltE, Nat.lt_irrefl, ↓reduceIte]
    refine H r cc (fun m hm => ?_) fun i j hi hj => ?_
    · rw [hr m hm, Nat.add_assoc, S12]
    · rw [hcc i j hi hj, S12]
  | succ j ih =>
    intro a x r cc ha hx hr hcc
    have ha' : a < am w n := by omega
    have hta := ht a ha'
    have htl := tg_lt hw hn ha'
    have h0 := wi_n hw
    have hal := cnt_le (p := o.testBit) a
    rw [b_mo_parts_96]
    simp -implicitDefEqProofs (disch := first | assumption | omega) only [szS_0, szS_i, szS_r, szS_l, x_cons, x_goto, ob_some, kl_i, kl_r, kl_l, kl_n, push_n, push_s, pop_0, pop_i, pop_r, Int.reduceToNat, List.length_cons, List.length_nil, Nat.reduceAdd, Nat.reduceLeDiff, Nat.zero_add, true_and, nI_n0, nat_le, Nat.add_zero, i_1, i_m1, rt_mo_parts, x_al0, x_call, x_getf, x_goto, x_iadd, x_iaload, x_iand, x_icge, x_icne, x_idiv, x_ifle, x_ifne, x_il1, x_il2, x_il3, x_il4, x_il5, x_il6, x_imul, x_inc3, x_inc5, x_inc6, x_irem, x_is3, x_is4, x_is5, x_is6, x_ishr, x_isub, x_ldc, x_vret, s_own, upw_s, cmw_o, h1, h5, nI_ltE, ha', ↓reduceIte, nI_bt, tbI_0]
    by_cases hb : o.testBit a = true
    · simp only [hb, Bool.true_eq_false, ↓reduceIte]
      have fin : ∀ y : Nat, y = (if cnt o.testBit a < rst0 w o c n % cnt o.testBit (am w n) then 1 else 0) → wp (ev (d + 2)) P mo_parts 147 [some (.ref 196), some (.int (nI n)), some (.int (nI c)), some (.int (nI (cnt o.testBit (am w n)))), some (.int (nI (rst0 w o c n))), some (.int x), some (.int (nI a))] [.int (nI y), .int (nI (rst0 w o c n / cnt o.testBit (am w n))), .int (nI (tg w n a)), .int (nI n), .ref 196] (E (upw (upw g 208 r) 197 (cmw u cc)) q) := by
        intro y hy
        rw [b_mo_parts_147]
        simp -implicitDefEqProofs (disch := first | assumption | omega) only [szS_0, szS_i, szS_r, szS_l, x_cons, x_goto, ob_some, kl_i, kl_r, kl_l, kl_n, push_n, push_s, pop_0, pop_i, pop_r, Int.reduceToNat, List.length_cons, List.length_nil, Nat.reduceAdd, Nat.reduceLeDiff, Nat.zero_add, true_and, nI_n0, nat_le, Nat.add_zero, i_1, i_m1, rt_mo_parts, x_al0, x_call, x_getf, x_goto, x_iadd, x_iaload, x_iand, x_icge, x_icne, x_idiv, x_ifle, x_ifne, x_il1, x_il2, x_il3, x_il4, x_il5, x_il6, x_imul, x_inc3, x_inc5, x_inc6, x_irem, x_is3, x_is4, x_is5, x_is6, x_ishr, x_isub, x_ldc, x_vret, b_mo_parts_154, nI_add, s_goes, upw_s, upw_o, upw_w]
        rw [upw_c (show (197 : Nat) ≠ 208 by decide)]
        simp only [upw_w]
        rw [hr _ (by omega), nI_add, cmw_i hn (by omega), hcc _ _ hn (by omega), if_pos rfl, nI_add, cmw_u hn (by omega)]
        have hsn : snF w o c n a = rst0 w o c n / cnt o.testBit (am w n) + y := by
          unfold snF
          rw [if_pos hb, hy]
        rw [← hsn]
        refine ih (a + 1) _ _ _ (by omega) ?_ (fun m hm => ?_) fun i j hi hj => ?_
        · rw [hx, cnt_s, if_pos hb, ← nI_add, ← Int32.sub_sub, Int32.sub_eq_add_neg _ (nI 1)]
          rfl
        · unfold pu
          rw [S2_s]
          by_cases e : m = tg w n a
          · rw [if_pos e, if_pos e.symm, if_pos hb, e, Nat.add_assoc]
          · rw [if_neg e, if_neg fun h => e h.symm, hr m hm]
            rfl
        · show (if i = n ∧ j = tg w n a then _ else cc i j) = _
          rw [S2_s]
          by_cases e : i = n
          · subst e
            by_cases e2 : j = tg w i a
            · rw [if_pos ⟨rfl, e2⟩, if_pos rfl, if_pos e2.symm, if_pos hb, e2, Nat.add_assoc]
            · rw [if_neg fun h => e2 h.2, if_pos rfl, if_neg fun h => e2 h.symm, hcc i j hi hj, if_pos rfl]
              rfl
          · rw [if_neg fun h => e h.1, if_neg e, hcc i j hi hj, if_neg e]
      simp -implicitDefEqProofs (disch := first | assumption | omega) only [b_mo_parts_124, szS_0, szS_i, szS_r, szS_l, x_cons, x_goto, ob_some, kl_i, kl_r, kl_l, kl_n, push_n, push_s, pop_0, pop_i, pop_r, Int.reduceToNat, List.length_cons, List.length_nil, Nat.reduceAdd, Nat.reduceLeDiff, Nat.zero_add, true_and, nI_n0, nat_le, Nat.add_zero, i_1, i_m1, rt_mo_parts, x_al0, x_call, x_getf, x_goto, x_iadd, x_iaload, x_iand, x_icge, x_icne, x_idiv, x_ifle, x_ifne, x_il1, x_il2, x_il3, x_il4, x_il5, x_il6, x_imul, x_inc3, x_inc5, x_inc6, x_irem, x_is3, x_is4, x_is5, x_is6, x_ishr, x_isub, x_ldc, x_vret, s_goesTo, upw_s, cmw_o, hta, nI_div, hx, nI_sle]
      rw [← hx]
      by_cases hm : rst0 w o c n % cnt o.testBit (am w n) ≤ cnt o.testBit a
      · simp only [hm, ↓reduceIte]
        simp -implicitDefEqProofs (disch := first | assumption | omega) only [b_mo_parts_146, szS_0, szS_i, szS_r, szS_l, x_cons, x_goto, ob_some, kl_i, kl_r, kl_l, kl_n, push_n, push_s, pop_0, pop_i, pop_r, Int.reduceToNat, List.length_cons, List.length_nil, Nat.reduceAdd, Nat.reduceLeDiff, Nat.zero_add, true_and, nI_n0, nat_le, Nat.add_zero, i_1, i_m1, rt_mo_parts, x_al0, x_call, x_getf, x_goto, x_iadd, x_iaload, x_iand, x_icge, x_icne, x_idiv, x_ifle, x_ifne, x_il1, x_il2, x_il3, x_il4, x_il5, x_il6, x_imul, x_inc3, x_inc5, x_inc6, x_irem, x_is3, x_is4, x_is5, x_is6, x_ishr, x_isub, x_ldc, x_vret]
        exact fin 0 (by rw [if_neg (by omega)])
      · simp only [hm, ↓reduceIte]
        exact fin 1 (by rw [if_pos (by omega)])
    · rw [Bool.not_eq_true] at hb
      simp only [hb, ↓reduceIte]
      simp -implicitDefEqProofs (disch := first | assumption | omega) only [b_mo_parts_154, szS_0, szS_i, szS_r, szS_l, x_cons, x_goto, ob_some, kl_i, kl_r, kl_l, kl_n, push_n, push_s, pop_0, pop_i, pop_r, Int.reduceToNat, List.length_cons, List.length_nil, Nat.reduceAdd, Nat.reduceLeDiff, Nat.zero_add, true_and, nI_n0, nat_le, Nat.add_zero, i_1, i_m1, rt_mo_parts, x_al0, x_call, x_getf, x_goto, x_iadd, x_iaload, x_iand, x_icge, x_icne, x_idiv, x_ifle, x_ifne, x_il1, x_il2, x_il3, x_il4, x_il5, x_il6, x_imul, x_inc3, x_inc5, x_inc6, x_irem, x_is3, x_is4, x_is5, x_is6, x_ishr, x_isub, x_ldc, x_vret, nI_add]
      refine ih (a + 1) x r cc (by omega) (by rw [cnt_s, if_neg (by rw [hb]; decide), hx]; rfl) (fun m hm => ?_) fun i j hi hj => ?_
      · rw [hr m hm, S2_s, if_neg (show ¬ o.testBit a = true by rw [hb]; decide)]
        split <;> rfl
      · rw [hcc i j hi hj, S2_s, if_neg (show ¬ o.testBit a = true by rw [hb]; decide)]
        repeat' split
        all_goals rfl
theorem s_parts {w u : Nat → Int32} (hw : WI w) {n c o : Nat} (hn : n < 16) (hc : c ≤ 1998) (ho : o ≤ 7) (h1 : u (10 + 20 * n + 1) = nI (am w n)) (h5 : u (10 + 20 * n + 5) = nI o) (h7 : u 7 = nI (vN w 7)) (ht : ∀ a, a < am w n → u (10 + 20 * n + (2 + a)) = nI (tg w n a)) {R : Nat → Nat} {c0 : Nat → Nat → Nat} (hk1 : 1 ≤ cnt o.testBit (am w n)) (hc0 : ∀ j, j < 16 → c0 n j = 0) {r : Nat → Int32} (hr : ∀ m, m < 16 → r m = nI (R m))
    (H : ∀ r cc, (∀ m, m < 16 → r m = nI (R m + SF w o c n m)) → (∀ i j, i < 16 → j < 16 → cc i j = if i = n then SF w o c n j else c0 i j) → P none (E (upw (upw g 208 r) 197 (cmw u cc)) q)) :
    callC (ev (d + 3)) mo_parts [.ref 196, .int (nI n), .int (nI c)] (E (upw (upw g 208 r) 197 (cmw u c0)) q) P := by
  refine in_mo_parts rfl ?_
  have ham := am_le hw hn
  have hkl := cnt_le (p := o.testBit) (am w n)
  have hrl : rst0 w o c n ≤ 1998 := Nat.le_trans (Nat.sub_le _ _) hc
  have hk0 := nI_ne hk1 (by omega)
  rw [b_mo_parts_0]
  simp -implicitDefEqProofs (disch := first | assumption | omega) only [szS_0, szS_i, szS_r, szS_l, x_cons, x_goto, ob_some, kl_i, kl_r, kl_l, kl_n, push_n, push_s, pop_0, pop_i, pop_r, Int.reduceToNat, List.length_cons, List.length_nil, Nat.reduceAdd, Nat.reduceLeDiff, Nat.zero_add, true_and, nI_n0, nat_le, Nat.add_zero, i_1, i_m1, rt_mo_parts, x_al0, x_call, x_getf, x_goto, x_iadd, x_iaload, x_iand, x_icge, x_icne, x_idiv, x_ifle, x_ifne, x_il1, x_il2, x_il3, x_il4, x_il5, x_il6, x_imul, x_inc3, x_inc5, x_inc6, x_irem, x_is3, x_is4, x_is5, x_is6, x_ishr, x_isub, x_ldc, x_vret]
  refine pa_1 hw hn hc ho h1 h5 h7 ht hc0 (R := R) (fun r cc x o6 hx hr hcc => ?_) (am w n) 0 0 c r c0 none (Nat.zero_add _) rfl ?_ (fun m hm => hr m hm) fun i j hi hj => ?_
  · subst hx
    rw [b_mo_parts_87]
    simp -implicitDefEqProofs (disch := first | assumption | omega) only [szS_0, szS_i, szS_r, szS_l, x_cons, x_goto, ob_some, kl_i, kl_r, kl_l, kl_n, push_n, push_s, pop_0, pop_i, pop_r, Int.reduceToNat, List.length_cons, List.length_nil, Nat.reduceAdd, Nat.reduceLeDiff, Nat.zero_add, true_and, nI_n0, nat_le, Nat.add_zero, i_1, i_m1, rt_mo_parts, x_al0, x_call, x_getf, x_goto, x_iadd, x_iaload, x_iand, x_icge, x_icne, x_idiv, x_ifle, x_ifne, x_il1, x_il2, x_il3, x_il4, x_il5, x_il6, x_imul, x_inc3, x_inc5, x_inc6, x_irem, x_is3, x_is4, x_is5, x_is6, x_ishr, x_isub, x_ldc, x_vret, nI_mod]
    refine pa_2 hw hn hc ho h1 h5 ht (R := R) (c0 := c0) hk1 H (am w n) 0 _ r cc (Nat.zero_add _) ?_ (fun m hm => hr m hm) fun i j hi hj => hcc i j hi hj
    show _ = nI _ - 0
    rw [Int32.sub_zero]
  · rw [Nat.sub_zero, Nat.mul_zero, Nat.sub_zero]
  · show _ = if i = n then 0 else _
    split
    next e =>
      rw [e]
      exact hc0 j hj
    next => rfl
end MH
