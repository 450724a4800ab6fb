/-! the reference's evening -/
/-- but the cells of l, and the fields fs of the reference's object, nothing has changed -/
def FR (l fs : List Nat) (g g' : Nat → Nat → Int32) : Prop := (∀ a, a ≠ 196 → a ∉ l → g' a = g a) ∧ ∀ k, k ∉ fs → g' 196 k = g 196 k
theorem FR_r {l fs : List Nat} {g : Nat → Nat → Int32} : FR l fs g g := ⟨fun _ _ _ => rfl, fun _ _ => rfl⟩
theorem FR_t {l fs : List Nat} {g g' g2 : Nat → Nat → Int32} (h : FR l fs g g') (h' : FR l fs g' g2) : FR l fs g g2 := ⟨fun a h1 h2 => (h'.1 a h1 h2).trans (h.1 a h1 h2), fun k hk => (h'.2 k hk).trans (h.2 k hk)⟩
theorem FR_f {l l' fs : List Nat} {g g' : Nat → Nat → Int32} (hl : (l'.all fun x => l.contains x && x != 196) = true) (h : fr l' g g') : FR l fs g g' :=
  ⟨fun a _ h2 => h a fun hm => h2 (by
    have := List.all_eq_true.mp hl a hm
    rw [Bool.and_eq_true] at this
    exact List.contains_iff_mem.mp this.1), fun k _ => by
    rw [h 196 fun hm => by
      have := List.all_eq_true.mp hl 196 hm
      simp at this]⟩
theorem FR_m {l l' fs fs' : List Nat} {g g' : Nat → Nat → Int32} (hl : (l'.all fun x => l.contains x) = true) (hf : (fs'.all fun x => fs.contains x) = true) (h : FR l' fs' g g') : FR l fs g g' :=
  ⟨fun a h1 h2 => h.1 a h1 fun hm => h2 (List.contains_iff_mem.mp (List.all_eq_true.mp hl a hm)), fun k hk => h.2 k fun hm => hk (List.contains_iff_mem.mp (List.all_eq_true.mp hf k hm))⟩
theorem FR_w {l fs : List Nat} {g g' : Nat → Nat → Int32} {a : Nat} {r : Nat → Int32} (ha : (l.contains a && a != 196) = true) (h : FR l fs g g') : FR l fs g (upw g' a r) := by
  rw [Bool.and_eq_true] at ha
  have ha2 : a ≠ 196 := by
    have := ha.2
    simpa using this
  exact ⟨fun b h1 h2 => by
    rw [upw_o fun e => h2 (by rw [e]; exact List.contains_iff_mem.mp ha.1)]
    exact h.1 b h1 h2, fun k hk => by
    rw [upw_o fun e => ha2 e.symm]
    exact h.2 k hk⟩
theorem FR_p {l fs : List Nat} {g g1 g' : Nat → Nat → Int32} {k : Nat} {v : Int32} (hk : fs.contains k = true) (h1 : FR l fs g g1) (h : FR l fs g g') : FR l fs g (upw g' 196 (pu (g1 196) k v)) :=
  ⟨fun b h1 h2 => by
    rw [upw_o h1]
    exact h.1 b h1 h2, fun j hj => by
    rw [upw_s, pu_n fun e => hj (by rw [e]; exact List.contains_iff_mem.mp hk)]
    exact h1.2 j hj⟩
theorem FR_a {l fs : List Nat} {g g' : Nat → Nat → Int32} (h : FR l fs g g') {a : Nat} (ha : (l.contains a || a == 196) = false) : g' a = g a := by
  rw [Bool.or_eq_false_iff] at ha
  refine h.1 a (by simpa using ha.2) fun hm => ?_
  rw [List.contains_iff_mem.mpr hm] at ha
  cases ha.1
theorem pu_pu {w : Nat → Int32} {k : Nat} {u v : Int32} : pu (pu w k u) k v = pu w k v := by
  funext j
  unfold pu
  split <;> rfl
section MJ
variable {d : Nat} {g : Nat → Nat → Int32} {q : Nat → Nat → Int64} {P : QT}
theorem lv_lp {w : Nat → Int32} (hw : WI w) {V : LW} (hL : LK w 0 okV V) {f : Nat} (hf : f < nn w) {g0 : Nat → Nat → Int32} (H : ∀ g', FR [205, 206, 207, 209] [30] g0 g' → g' 196 30 = nI (mst V w f) → (∀ a, a < am w f → g' 209 a = nI (tot V w f a)) → P (some (.int (nI (wset V w f)))) (E g' q)) :
    ∀ (j a : Nat) (g : Nat → Nat → Int32), a + j = am w f → g 197 = w → FR [205, 206, 207, 209] [30] g0 g → g 196 30 = nI (mxT (tot V w f) a) → (∀ b, b < a → g 209 b = nI (tot V w f b)) →
    wp (ev (d + 7)) P mo_laysVotes 9 [some (.ref 196), some (.int (nI f)), some (.int (nI (winS (tot V w f) a))), some (.int (nI a))] [] (E g q) := by
  have h0 := wi_n hw
  have h1 := wi_1 hw (n := f) (by omega)
  have ham := am_le hw (n := f) (by omega)
  intro j
  induction j with
  | zero =>
    intro a g ha hg hr hm ht
    have ha : a = fd w f 1 := ha
    subst hg
    have hml : mxT (tot V (g 197) f) (am (g 197) f) ≤ 6000999 := mxT_b _ fun a ha => tot_l hw (by omega) (by omega)
    rw [ha] at hm ht ⊢
    have e : mst V (g 197) f = mxT (tot V (g 197) f) (fd (g 197) f 1) := rfl
    have hml : mst V (g 197) f ≤ 6000999 := hml
    rw [← e] at hm
    rw [b_mo_laysVotes_9]
    simp -implicitDefEqProofs (disch := first | assumption | omega) only [szS_0, szS_i, szS_r, szS_l, x_cons, x_goto, ob_some, kl_i, kl_r, kl_l, kl_n, push_n, push_s, pop_0, pop_i, pop_r, Int.reduceToNat, List.length_cons, List.length_nil, Nat.reduceAdd, Nat.reduceLeDiff, Nat.zero_add, true_and, nI_n0, nat_le, Nat.add_zero, i_1, rt_mo_laysVotes, x_al0, x_call, x_getf, x_goto, x_iadd, x_iaload, x_iastore, x_icge, x_icle, x_icne, x_ifne, x_il1, x_il2, x_il3, x_inc3, x_ior, x_iret, x_is2, x_is3, x_ishl, x_ldc, x_putf, s_own, h1.1, nI_ltE, Nat.lt_irrefl, ↓reduceIte, b_mo_laysVotes_98, fd_196_0, fd_196_1, fd_196_2, fd_196_3, fd_196_4, sf_196_4, fd_196_5, sf_196_5, fd_196_6, fd_196_7, fd_196_8, fd_196_9, fd_196_10, fd_196_11, fd_196_12, sf_196_12, fd_196_13, sf_196_13, fd_196_14, sf_196_14, fd_196_15, sf_196_15, fd_196_16, sf_196_16, fd_196_17, sf_196_17, fd_196_18, sf_196_18, fd_196_19, sf_196_19, fd_196_20, sf_196_20, fd_196_21, sf_196_21, fd_196_22, sf_196_22, fd_196_23, sf_196_23, fd_196_24, sf_196_24, fd_196_25, sf_196_25, fd_196_26, sf_196_26, fd_196_27, fd_196_28, fd_196_29, fd_196_30, sf_196_30, fd_196_31, fd_196_32, fd_196_33, fd_196_34, fd_196_35, fd_196_36, fd_196_37, sf_196_37, fd_196_38, fd_196_39, sf_196_39, fd_196_40, sf_196_40, fd_196_41, sf_196_41, fd_196_42, fd_196_43, fd_196_44, hm, nI_eqE]
    by_cases h : mst V (g 197) f = 0
    · simp only [h, ↓reduceIte]
      simp -implicitDefEqProofs (disch := first | assumption | omega) only [szS_0, szS_i, szS_r, szS_l, x_cons, x_goto, ob_some, kl_i, kl_r, kl_l, kl_n, push_n, push_s, pop_0, pop_i, pop_r, Int.reduceToNat, List.length_cons, List.length_nil, Nat.reduceAdd, Nat.reduceLeDiff, Nat.zero_add, true_and, nI_n0, nat_le, Nat.add_zero, i_1, rt_mo_laysVotes, x_al0, x_call, x_getf, x_goto, x_iadd, x_iaload, x_iastore, x_icge, x_icle, x_icne, x_ifne, x_il1, x_il2, x_il3, x_inc3, x_ior, x_iret, x_is2, x_is3, x_ishl, x_ldc, x_putf, b_mo_laysVotes_110]
      have := H g hr hm ht
      rw [wset_0.mpr h] at this
      exact this
    · simp only [h, ↓reduceIte]
      simp -implicitDefEqProofs (disch := first | assumption | omega) only [szS_0, szS_i, szS_r, szS_l, x_cons, x_goto, ob_some, kl_i, kl_r, kl_l, kl_n, push_n, push_s, pop_0, pop_i, pop_r, Int.reduceToNat, List.length_cons, List.length_nil, Nat.reduceAdd, Nat.reduceLeDiff, Nat.zero_add, true_and, nI_n0, nat_le, Nat.add_zero, i_1, rt_mo_laysVotes, x_al0, x_call, x_getf, x_goto, x_iadd, x_iaload, x_iastore, x_icge, x_icle, x_icne, x_ifne, x_il1, x_il2, x_il3, x_inc3, x_ior, x_iret, x_is2, x_is3, x_ishl, x_ldc, x_putf, b_mo_laysVotes_109, b_mo_laysVotes_110]
      have := H g hr hm ht
      rw [show wset V (g 197) f = winS (tot V (g 197) f) (fd (g 197) f 1) from if_neg h] at this
      exact this
  | succ j ih =>
    intro a g ha hg hr hm ht
    have ha' : a < am w f := by omega
    have ha2 : a < fd w f 1 := ha'
    have hb := wi_b hw (n := f) (a := a) (by omega) (by omega)
    have hi := ih (a + 1)
    subst hg
    rw [b_mo_laysVotes_9]
    simp -implicitDefEqProofs (disch := first | assumption | omega) only [szS_0, szS_i, szS_r, szS_l, x_cons, x_goto, ob_some, kl_i, kl_r, kl_l, kl_n, push_n, push_s, pop_0, pop_i, pop_r, Int.reduceToNat, List.length_cons, List.length_nil, Nat.reduceAdd, Nat.reduceLeDiff, Nat.zero_add, true_and, nI_n0, nat_le, Nat.add_zero, i_1, rt_mo_laysVotes, x_al0, x_call, x_getf, x_goto, x_iadd, x_iaload, x_iastore, x_icge, x_icle, x_icne, x_ifne, x_il1, x_il2, x_il3, x_inc3, x_ior, x_iret, x_is2, x_is3, x_ishl, x_ldc, x_putf, fd_196_0, fd_196_1, fd_196_2, fd_196_3, fd_196_4, sf_196_4, fd_196_5, sf_196_5, fd_196_6, fd_196_7, fd_196_8, fd_196_9, fd_196_10, fd_196_11, fd_196_12, sf_196_12, fd_196_13, sf_196_13, fd_196_14, sf_196_14, fd_196_15, sf_196_15, fd_196_16, sf_196_16, fd_196_17, sf_196_17, fd_196_18, sf_196_18, fd_196_19, sf_196_19, fd_196_20, sf_196_20, fd_196_21, sf_196_21, fd_196_22, sf_196_22, fd_196_23, sf_196_23, fd_196_24, sf_196_24, fd_196_25, sf_196_25, fd_196_26, sf_196_26, fd_196_27, fd_196_28, fd_196_29, fd_196_30, sf_196_30, fd_196_31, fd_196_32, fd_196_33, fd_196_34, fd_196_35, fd_196_36, fd_196_37, sf_196_37, fd_196_38, fd_196_39, sf_196_39, fd_196_40, sf_196_40, fd_196_41, sf_196_41, fd_196_42, fd_196_43, fd_196_44, s_own, h1.1, nI_ltE, ha2, ↓reduceIte]
    refine s_votesFor hw hL hf ha' fun g1 f1 => ?_
    have e197 : g1 197 = g 197 := fr_a f1 rfl
    have e196 : g1 196 30 = nI (mxT (tot V (g 197) f) a) := by rw [fr_a f1 rfl]; exact hm
    have e209 : g1 209 = g 209 := fr_a f1 rfl
    have et : vfor V (g 197) f a + fd (g 197) f (7 + a) = tot V (g 197) f a := rfl
    have hl1 := tot_l hw (V := V) (f := f) (a := a) (by omega) (by omega)
    have hl2 : mxT (tot V (g 197) f) a ≤ 6000999 := mxT_b _ fun b hb => tot_l hw (by omega) (by omega)
    have e1 : mxT (tot V (g 197) f) (a + 1) = if tot V (g 197) f a < mxT (tot V (g 197) f) a then mxT (tot V (g 197) f) a else tot V (g 197) f a := rfl
    have f2 : FR [205, 206, 207, 209] [30] g0 g1 := FR_t hr (FR_f rfl f1)
    have hws := winS_s (t := tot V (g 197) f) (n := a)
    -- behind the first test, with the set so far
    have fin : ∀ S : Nat, S = (if mxT (tot V (g 197) f) a < tot V (g 197) f a then 0 else winS (tot V (g 197) f) a) → wp (ev (d + 7)) P mo_laysVotes 56 [some (.ref 196), some (.int (nI f)), some (.int (nI S)), some (.int (nI a))] [] (E (upw g1 209 (pu (g 209) a (nI (tot V (g 197) f a)))) q) := by
      intro S hS
      have f3 : FR [205, 206, 207, 209] [30] g0 (upw (upw g1 209 (pu (g 209) a (nI (tot V (g 197) f a)))) 196 (pu (g1 196) 30 (nI (mxT (tot V (g 197) f) (a + 1))))) := FR_p rfl f2 (FR_w rfl f2)
      have hi := hi _ (by omega) (by rw [upw_o (by decide), upw_o (by decide), e197]) f3 (by rw [upw_s, pu_s]) (fun b hb => by
        rw [upw_o (by decide), upw_s]
        unfold pu
        split
        next e => rw [e]
        next e => exact ht b (by omega))
      rw [b_mo_laysVotes_56]
      simp -implicitDefEqProofs (disch := first | assumption | omega) only [szS_0, szS_i, szS_r, szS_l, x_cons, x_goto, ob_some, kl_i, kl_r, kl_l, kl_n, push_n, push_s, pop_0, pop_i, pop_r, Int.reduceToNat, List.length_cons, List.length_nil, Nat.reduceAdd, Nat.reduceLeDiff, Nat.zero_add, true_and, nI_n0, nat_le, Nat.add_zero, i_1, rt_mo_laysVotes, x_al0, x_call, x_getf, x_goto, x_iadd, x_iaload, x_iastore, x_icge, x_icle, x_icne, x_ifne, x_il1, x_il2, x_il3, x_inc3, x_ior, x_iret, x_is2, x_is3, x_ishl, x_ldc, x_putf, fd_196_0, fd_196_1, fd_196_2, fd_196_3, fd_196_4, sf_196_4, fd_196_5, sf_196_5, fd_196_6, fd_196_7, fd_196_8, fd_196_9, fd_196_10, fd_196_11, fd_196_12, sf_196_12, fd_196_13, sf_196_13, fd_196_14, sf_196_14, fd_196_15, sf_196_15, fd_196_16, sf_196_16, fd_196_17, sf_196_17, fd_196_18, sf_196_18, fd_196_19, sf_196_19, fd_196_20, sf_196_20, fd_196_21, sf_196_21, fd_196_22, sf_196_22, fd_196_23, sf_196_23, fd_196_24, sf_196_24, fd_196_25, sf_196_25, fd_196_26, sf_196_26, fd_196_27, fd_196_28, fd_196_29, fd_196_30, sf_196_30, fd_196_31, fd_196_32, fd_196_33, fd_196_34, fd_196_35, fd_196_36, fd_196_37, sf_196_37, fd_196_38, fd_196_39, sf_196_39, fd_196_40, sf_196_40, fd_196_41, sf_196_41, fd_196_42, fd_196_43, fd_196_44, ld_209, sd_209, ln_209, upw_o, upw_s, e196, pu_s, s_greater, nI_ltE, nI_ite, pu_g]
      rw [← e1]
      have hl3 : mxT (tot V (g 197) f) (a + 1) ≤ 6000999 := mxT_b _ fun b hb => tot_l hw (by omega) (by omega)
      simp -implicitDefEqProofs (disch := first | assumption | omega) only [szS_0, szS_i, szS_r, szS_l, x_cons, x_goto, ob_some, kl_i, kl_r, kl_l, kl_n, push_n, push_s, pop_0, pop_i, pop_r, Int.reduceToNat, List.length_cons, List.length_nil, Nat.reduceAdd, Nat.reduceLeDiff, Nat.zero_add, true_and, nI_n0, nat_le, Nat.add_zero, i_1, rt_mo_laysVotes, x_al0, x_call, x_getf, x_goto, x_iadd, x_iaload, x_iastore, x_icge, x_icle, x_icne, x_ifne, x_il1, x_il2, x_il3, x_inc3, x_ior, x_iret, x_is2, x_is3, x_ishl, x_ldc, x_putf, fd_196_0, fd_196_1, fd_196_2, fd_196_3, fd_196_4, sf_196_4, fd_196_5, sf_196_5, fd_196_6, fd_196_7, fd_196_8, fd_196_9, fd_196_10, fd_196_11, fd_196_12, sf_196_12, fd_196_13, sf_196_13, fd_196_14, sf_196_14, fd_196_15, sf_196_15, fd_196_16, sf_196_16, fd_196_17, sf_196_17, fd_196_18, sf_196_18, fd_196_19, sf_196_19, fd_196_20, sf_196_20, fd_196_21, sf_196_21, fd_196_22, sf_196_22, fd_196_23, sf_196_23, fd_196_24, sf_196_24, fd_196_25, sf_196_25, fd_196_26, sf_196_26, fd_196_27, fd_196_28, fd_196_29, fd_196_30, sf_196_30, fd_196_31, fd_196_32, fd_196_33, fd_196_34, fd_196_35, fd_196_36, fd_196_37, sf_196_37, fd_196_38, fd_196_39, sf_196_39, fd_196_40, sf_196_40, fd_196_41, sf_196_41, fd_196_42, fd_196_43, fd_196_44, ld_209, sd_209, ln_209, upw_o, upw_s, pu_s, nI_eqE]
      by_cases h : tot V (g 197) f a = mxT (tot V (g 197) f) (a + 1)
      · rw [if_pos h, ← hS] at hws
        simp only [h, ↓reduceIte]
        simp -implicitDefEqProofs (disch := first | assumption | omega) only [szS_0, szS_i, szS_r, szS_l, x_cons, x_goto, ob_some, kl_i, kl_r, kl_l, kl_n, push_n, push_s, pop_0, pop_i, pop_r, Int.reduceToNat, List.length_cons, List.length_nil, Nat.reduceAdd, Nat.reduceLeDiff, Nat.zero_add, true_and, nI_n0, nat_le, Nat.add_zero, i_1, rt_mo_laysVotes, x_al0, x_call, x_getf, x_goto, x_iadd, x_iaload, x_iastore, x_icge, x_icle, x_icne, x_ifne, x_il1, x_il2, x_il3, x_inc3, x_ior, x_iret, x_is2, x_is3, x_ishl, x_ldc, x_putf, b_mo_laysVotes_92, nI_shl1, nI_or, nI_add]
        rw [← hws, ← h]
        rw [← h] at hi
        exact hi
      · rw [if_neg h, ← hS, Nat.or_zero] at hws
        simp only [h, ↓reduceIte]
        simp -implicitDefEqProofs (disch := first | assumption | omega) only [szS_0, szS_i, szS_r, szS_l, x_cons, x_goto, ob_some, kl_i, kl_r, kl_l, kl_n, push_n, push_s, pop_0, pop_i, pop_r, Int.reduceToNat, List.length_cons, List.length_nil, Nat.reduceAdd, Nat.reduceLeDiff, Nat.zero_add, true_and, nI_n0, nat_le, Nat.add_zero, i_1, rt_mo_laysVotes, x_al0, x_call, x_getf, x_goto, x_iadd, x_iaload, x_iastore, x_icge, x_icle, x_icne, x_ifne, x_il1, x_il2, x_il3, x_inc3, x_ior, x_iret, x_is2, x_is3, x_ishl, x_ldc, x_putf, b_mo_laysVotes_92, nI_add]
        rw [← hws]
        exact hi
    simp -implicitDefEqProofs (disch := first | assumption | omega) only [szS_0, szS_i, szS_r, szS_l, x_cons, x_goto, ob_some, kl_i, kl_r, kl_l, kl_n, push_n, push_s, pop_0, pop_i, pop_r, Int.reduceToNat, List.length_cons, List.length_nil, Nat.reduceAdd, Nat.reduceLeDiff, Nat.zero_add, true_and, nI_n0, nat_le, Nat.add_zero, i_1, rt_mo_laysVotes, x_al0, x_call, x_getf, x_goto, x_iadd, x_iaload, x_iastore, x_icge, x_icle, x_icne, x_ifne, x_il1, x_il2, x_il3, x_inc3, x_ior, x_iret, x_is2, x_is3, x_ishl, x_ldc, x_putf, nI_add, s_own, e197, hb.1, et, ld_209, sd_209, ln_209, pu_g, e209, upw_o, upw_s, pu_s, fd_196_0, fd_196_1, fd_196_2, fd_196_3, fd_196_4, sf_196_4, fd_196_5, sf_196_5, fd_196_6, fd_196_7, fd_196_8, fd_196_9, fd_196_10, fd_196_11, fd_196_12, sf_196_12, fd_196_13, sf_196_13, fd_196_14, sf_196_14, fd_196_15, sf_196_15, fd_196_16, sf_196_16, fd_196_17, sf_196_17, fd_196_18, sf_196_18, fd_196_19, sf_196_19, fd_196_20, sf_196_20, fd_196_21, sf_196_21, fd_196_22, sf_196_22, fd_196_23, sf_196_23, fd_196_24, sf_196_24, fd_196_25, sf_196_25, fd_196_26, sf_196_26, fd_196_27, fd_196_28, fd_196_29, fd_196_30, sf_196_30, fd_196_31, fd_196_32, fd_196_33, fd_196_34, fd_196_35, fd_196_36, fd_196_37, sf_196_37, fd_196_38, fd_196_39, sf_196_39, fd_196_40, sf_196_40, fd_196_41, sf_196_41, fd_196_42, fd_196_43, fd_196_44, e196, nI_ltE]
    by_cases h : mxT (tot V (g 197) f) a < tot V (g 197) f a
    · simp only [h, ↓reduceIte]
      exact fin 0 (if_pos h).symm
    · simp only [h, ↓reduceIte]
      exact fin _ (if_neg h).symm
theorem s_laysVotes (hw : WI (g 197)) {V : LW} (hL : LK (g 197) 0 okV V) {f : Nat} (hf : f < nn (g 197)) (H : ∀ g', FR [205, 206, 207, 209] [30] g g' → g' 196 30 = nI (mst V (g 197) f) → (∀ a, a < am (g 197) f → g' 209 a = nI (tot V (g 197) f a)) → P (some (.int (nI (wset V (g 197) f)))) (E g' q)) :
    callC (ev (d + 8)) mo_laysVotes [.ref 196, .int (nI f)] (E g q) P := by
  refine in_mo_laysVotes rfl ?_
  rw [b_mo_laysVotes_0]
  simp -implicitDefEqProofs (disch := first | assumption | omega) only [szS_0, szS_i, szS_r, szS_l, x_cons, x_goto, ob_some, kl_i, kl_r, kl_l, kl_n, push_n, push_s, pop_0, pop_i, pop_r, Int.reduceToNat, List.length_cons, List.length_nil, Nat.reduceAdd, Nat.reduceLeDiff, Nat.zero_add, true_and, nI_n0, nat_le, Nat.add_zero, i_1, rt_mo_laysVotes, x_al0, x_call, x_getf, x_goto, x_iadd, x_iaload, x_iastore, x_icge, x_icle, x_icne, x_ifne, x_il1, x_il2, x_il3, x_inc3, x_ior, x_iret, x_is2, x_is3, x_ishl, x_ldc, x_putf, fd_196_0, fd_196_1, fd_196_2, fd_196_3, fd_196_4, sf_196_4, fd_196_5, sf_196_5, fd_196_6, fd_196_7, fd_196_8, fd_196_9, fd_196_10, fd_196_11, fd_196_12, sf_196_12, fd_196_13, sf_196_13, fd_196_14, sf_196_14, fd_196_15, sf_196_15, fd_196_16, sf_196_16, fd_196_17, sf_196_17, fd_196_18, sf_196_18, fd_196_19, sf_196_19, fd_196_20, sf_196_20, fd_196_21, sf_196_21, fd_196_22, sf_196_22, fd_196_23, sf_196_23, fd_196_24, sf_196_24, fd_196_25, sf_196_25, fd_196_26, sf_196_26, fd_196_27, fd_196_28, fd_196_29, fd_196_30, sf_196_30, fd_196_31, fd_196_32, fd_196_33, fd_196_34, fd_196_35, fd_196_36, fd_196_37, sf_196_37, fd_196_38, fd_196_39, sf_196_39, fd_196_40, sf_196_40, fd_196_41, sf_196_41, fd_196_42, fd_196_43, fd_196_44, pu_g]
  refine lv_lp hw hL hf H (am (g 197) f) 0 _ (Nat.zero_add _) (upw_o (by decide)) (FR_p rfl FR_r FR_r) ?_ fun b hb => absurd hb (Nat.not_lt_zero b)
  rw [upw_s, pu_s]
  rfl
theorem s_isOne {s : Nat} (h1 : 1 ≤ s) (h8 : s < 8) : callC (ev (d + 1)) mo_isOne [.int (nI s)] (E g q) P = P (some (.int (bI (one s)))) (E g q) := by
  refine call_eq (in_mo_isOne rfl ?_)
  have hl : s &&& (s - 1) ≤ s := Nat.and_le_left
  simp -implicitDefEqProofs (disch := first | assumption | omega) only [szS_0, szS_i, szS_r, szS_l, x_cons, x_goto, ob_some, kl_i, kl_r, kl_l, kl_n, push_n, push_s, pop_0, pop_i, pop_r, Int.reduceToNat, List.length_cons, List.length_nil, Nat.reduceAdd, Nat.reduceLeDiff, Nat.zero_add, true_and, nI_n0, nat_le, Nat.add_zero, rt_mo_isOne_0, rt_mo_isOne_1, rt_mo_isOne_b, x_goto, x_iand, x_ifne, x_il0, x_iret, x_isub, x_ldc, b_mo_isOne_0, b_mo_isOne_12, b_mo_isOne_13, nI_sub, nI_and, nI_eqE]
  unfold one
  by_cases h : s &&& (s - 1) = 0
  · simp only [h, ↓reduceIte, decide_true, bI, rt_mo_isOne_1, and_self]
  · simp only [h, ↓reduceIte, decide_false, bI, rt_mo_isOne_0, and_self, Bool.false_eq_true]
theorem df_in {w : Nat → Int32} (hw : WI w) {V : LW} {f s t : Nat} (hf : f < nn w) (ht : t < nn w) {g0 : Nat → Nat → Int32} (hs : s < 8)
    (H : ∀ g', fr [205, 206, 207] g0 g' → wp (ev (d + 6)) P mo_defeats 72 [some (.ref 196), some (.int (nI f)), some (.int (nI s)), some (.int (nI t)), some (.int (nI (vtd V w f t))), some (.int (nI (am w f)))] [] (E g' q)) :
    ∀ (j a : Nat) (g : Nat → Nat → Int32), a + j = am w f → WI (g 197) → LK (g 197) 0 okV V → agv w (g 197) → fr [205, 206, 207] g0 g →
    wp (ev (d + 6)) P mo_defeats 31 [some (.ref 196), some (.int (nI f)), some (.int (nI s)), some (.int (nI t)), some (.int (nI (bset (fun a => decide (0 < vt V w t f a)) a))), some (.int (nI a))] [] (E g q) := by
  have h0 := wi_n hw
  have ham := am_le hw (n := f) (by omega)
  intro j
  induction j with
  | zero =>
    intro a g ha hg hL hag hr
    have ha : a = am w f := ha
    have h1 := wi_1 hg (n := f) (by omega)
    have e1 : fd (g 197) f 1 = am w f := stc_am hag.1 (by omega)
    rw [ha, b_mo_defeats_31]
    simp -implicitDefEqProofs (disch := first | assumption | omega) only [szS_0, szS_i, szS_r, szS_l, x_cons, x_goto, ob_some, kl_i, kl_r, kl_l, kl_n, push_n, push_s, pop_0, pop_i, pop_r, Int.reduceToNat, List.length_cons, List.length_nil, Nat.reduceAdd, Nat.reduceLeDiff, Nat.zero_add, true_and, nI_n0, nat_le, Nat.add_zero, i_1, rt_mo_defeats, x_al0, x_call, x_getf, x_goto, x_iadd, x_iaload, x_iand, x_icge, x_ifeq, x_ifle, x_ifne, x_il1, x_il2, x_il3, x_il4, x_il5, x_inc3, x_inc5, x_ior, x_is3, x_is4, x_is5, x_ishl, x_ldc, x_vret, s_own, h1.1, e1, nI_ltE, Nat.lt_irrefl, ↓reduceIte]
    exact H g hr
  | succ j ih =>
    intro a g ha hg hL hag hr
    have ha' : a < am w f := by omega
    have h1 := wi_1 hg (n := f) (by omega)
    have e1 : fd (g 197) f 1 = am w f := stc_am hag.1 (by omega)
    have ev1 := vt_c (V := V) hw hag (t := t) (f := f) (a := a) (by omega) (by omega) ha'
    have hvl := (vt_I hw (V := V) (t := t) (f := f) (a := a) (by omega)).1
    have hyl := (wi_y hw (n := t) (by omega)).1.2
    have hbs : bset (fun a => decide (0 < vt V w t f a)) (a + 1) = bset (fun a => decide (0 < vt V w t f a)) a ||| (if decide (0 < vt V w t f a) = true then 2 ^ a else 0) := rfl
    rw [b_mo_defeats_31]
    simp -implicitDefEqProofs (disch := first | assumption | omega) only [szS_0, szS_i, szS_r, szS_l, x_cons, x_goto, ob_some, kl_i, kl_r, kl_l, kl_n, push_n, push_s, pop_0, pop_i, pop_r, Int.reduceToNat, List.length_cons, List.length_nil, Nat.reduceAdd, Nat.reduceLeDiff, Nat.zero_add, true_and, nI_n0, nat_le, Nat.add_zero, i_1, rt_mo_defeats, x_al0, x_call, x_getf, x_goto, x_iadd, x_iaload, x_iand, x_icge, x_ifeq, x_ifle, x_ifne, x_il1, x_il2, x_il3, x_il4, x_il5, x_inc3, x_inc5, x_ior, x_is3, x_is4, x_is5, x_ishl, x_ldc, x_vret, s_own, h1.1, e1, nI_ltE, ha', ↓reduceIte]
    refine s_votesOf hg hL (by omega) (by omega) (by rw [stc_am hag.1 (by omega)]; exact ha') fun g1 f1 => ?_
    have e197 : g1 197 = g 197 := fr_a f1 rfl
    rw [ev1]
    have hi := ih (a + 1) g1 (by omega) (by rw [e197]; exact hg) (by rw [e197]; exact hL) (by rw [e197]; exact hag) (fr_t hr f1)
    simp -implicitDefEqProofs (disch := first | assumption | omega) only [szS_0, szS_i, szS_r, szS_l, x_cons, x_goto, ob_some, kl_i, kl_r, kl_l, kl_n, push_n, push_s, pop_0, pop_i, pop_r, Int.reduceToNat, List.length_cons, List.length_nil, Nat.reduceAdd, Nat.reduceLeDiff, Nat.zero_add, true_and, nI_n0, nat_le, Nat.add_zero, i_1, rt_mo_defeats, x_al0, x_call, x_getf, x_goto, x_iadd, x_iaload, x_iand, x_icge, x_ifeq, x_ifle, x_ifne, x_il1, x_il2, x_il3, x_il4, x_il5, x_inc3, x_inc5, x_ior, x_is3, x_is4, x_is5, x_ishl, x_ldc, x_vret, nI_leE]
    by_cases h : vt V w t f a ≤ 0
    · rw [if_neg (by rw [decide_eq_true_eq]; omega), Nat.or_zero] at hbs
      rw [hbs] at hi
      simp only [h, ↓reduceIte]
      simp -implicitDefEqProofs (disch := first | assumption | omega) only [szS_0, szS_i, szS_r, szS_l, x_cons, x_goto, ob_some, kl_i, kl_r, kl_l, kl_n, push_n, push_s, pop_0, pop_i, pop_r, Int.reduceToNat, List.length_cons, List.length_nil, Nat.reduceAdd, Nat.reduceLeDiff, Nat.zero_add, true_and, nI_n0, nat_le, Nat.add_zero, i_1, rt_mo_defeats, x_al0, x_call, x_getf, x_goto, x_iadd, x_iaload, x_iand, x_icge, x_ifeq, x_ifle, x_ifne, x_il1, x_il2, x_il3, x_il4, x_il5, x_inc3, x_inc5, x_ior, x_is3, x_is4, x_is5, x_ishl, x_ldc, x_vret, b_mo_defeats_62, b_mo_defeats_63, nI_or, Nat.or_zero, nI_add]
      exact hi
    · rw [if_pos (by rw [decide_eq_true_eq]; omega)] at hbs
      rw [hbs] at hi
      simp only [h, ↓reduceIte]
      simp -implicitDefEqProofs (disch := first | assumption | omega) only [szS_0, szS_i, szS_r, szS_l, x_cons, x_goto, ob_some, kl_i, kl_r, kl_l, kl_n, push_n, push_s, pop_0, pop_i, pop_r, Int.reduceToNat, List.length_cons, List.length_nil, Nat.reduceAdd, Nat.reduceLeDiff, Nat.zero_add, true_and, nI_n0, nat_le, Nat.add_zero, i_1, rt_mo_defeats, x_al0, x_call, x_getf, x_goto, x_iadd, x_iaload, x_iand, x_icge, x_ifeq, x_ifle, x_ifne, x_il1, x_il2, x_il3, x_il4, x_il5, x_inc3, x_inc5, x_ior, x_is3, x_is4, x_is5, x_ishl, x_ldc, x_vret, b_mo_defeats_63, nI_shl1, nI_or, nI_add]
      exact hi
theorem LK_c {w w' : Nat → Int32} {k : Nat} {ok : Nat → Bool} {ls : LW} (e : ∀ j, 1205 ≤ j → w' j = w j) (h : LK w k ok ls) : LK w' k ok ls := by
  have stp : ∀ (l : List (Nat × Nat)) (i : Nat), stpR w k i l → stpR w' k i l := by
    intro l
    induction l with
    | nil => intro i _; trivial
    | cons o l ih =>
      intro i hh
      obtain ⟨h1, h2, h3⟩ := hh
      refine ⟨by rw [e _ (by omega)]; exact h1, fun h => by rw [e _ (by omega)]; exact h2 h, ih _ h3⟩
  have lin : ∀ (l : LW) (j : Nat), lnR w k j l → lnR w' k j l := by
    intro l
    induction l with
    | nil => intro j _; trivial
    | cons p l ih =>
      intro j hh
      obtain ⟨⟨f, h1, h2, h3, h4, h5, h6, h7, h8⟩, h9⟩ := hh
      exact ⟨⟨f, by rw [e _ (by omega)]; exact h1, by rw [e _ (by omega)]; exact h2, by rw [e _ (by omega)]; exact h3, h4, stp _ _ h5, stp _ _ h6, h7, h8⟩, ih _ h9⟩
  exact ⟨⟨by rw [e _ (by omega)]; exact h.1.1, h.1.2.1, lin _ _ h.1.2.2⟩, h.2⟩
theorem vtd_lt (V : LW) (w : Nat → Int32) (f t : Nat) : vtd V w f t < 2 ^ am w f := bset_lt _
theorem df_out {w : Nat → Int32} (hw : WI w) {V : LW} (hL : LK w 0 okV V) {f s : Nat} (hf : f < nn w) (hs : s < 8) {g0 : Nat → Nat → Int32} (H : ∀ g', fr [205, 206, 207, 197] g0 g' → g' 197 = dfR V w f s (nn w) → P none (E g' q)) :
    ∀ (j t : Nat) (g : Nat → Nat → Int32) (o4 o5 : Option Value), t + j = nn w → f < t → g 197 = dfR V w f s t → fr [205, 206, 207, 197] g0 g →
    wp (ev (d + 6)) P mo_defeats 4 [some (.ref 196), some (.int (nI f)), some (.int (nI s)), some (.int (nI t)), o4, o5] [] (E g q) := by
  have h0 := wi_n hw
  have ham := am_le hw (n := f) (by omega)
  have hp : 2 ^ am w f ≤ 2 ^ 3 := Nat.pow_le_pow_right (by decide) ham
  intro j
  induction j with
  | zero =>
    intro t g o4 o5 ht hft hg hr
    have ht : t = nn w := ht
    have hwg : WI (g 197) := by rw [hg]; exact dfR_wi hw _ (by omega)
    have hn := wi_n hwg
    have e0 : nn (g 197) = nn w := by rw [hg]; exact stc_nn dfR_agv.1
    rw [e0] at hn
    rw [b_mo_defeats_4]
    simp -implicitDefEqProofs (disch := first | assumption | omega) only [szS_0, szS_i, szS_r, szS_l, x_cons, x_goto, ob_some, kl_i, kl_r, kl_l, kl_n, push_n, push_s, pop_0, pop_i, pop_r, Int.reduceToNat, List.length_cons, List.length_nil, Nat.reduceAdd, Nat.reduceLeDiff, Nat.zero_add, true_and, nI_n0, nat_le, Nat.add_zero, i_1, rt_mo_defeats, x_al0, x_call, x_getf, x_goto, x_iadd, x_iaload, x_iand, x_icge, x_ifeq, x_ifle, x_ifne, x_il1, x_il2, x_il3, x_il4, x_il5, x_inc3, x_inc5, x_ior, x_is3, x_is4, x_is5, x_ishl, x_ldc, x_vret, fd_196_0, fd_196_1, fd_196_2, fd_196_3, fd_196_4, sf_196_4, fd_196_5, sf_196_5, fd_196_6, fd_196_7, fd_196_8, fd_196_9, fd_196_10, fd_196_11, fd_196_12, sf_196_12, fd_196_13, sf_196_13, fd_196_14, sf_196_14, fd_196_15, sf_196_15, fd_196_16, sf_196_16, fd_196_17, sf_196_17, fd_196_18, sf_196_18, fd_196_19, sf_196_19, fd_196_20, sf_196_20, fd_196_21, sf_196_21, fd_196_22, sf_196_22, fd_196_23, sf_196_23, fd_196_24, sf_196_24, fd_196_25, sf_196_25, fd_196_26, sf_196_26, fd_196_27, fd_196_28, fd_196_29, fd_196_30, sf_196_30, fd_196_31, fd_196_32, fd_196_33, fd_196_34, fd_196_35, fd_196_36, fd_196_37, sf_196_37, fd_196_38, fd_196_39, sf_196_39, fd_196_40, sf_196_40, fd_196_41, sf_196_41, fd_196_42, fd_196_43, fd_196_44, ld_197, sd_197, ln_197, hn.1, ht, nI_ltE, Nat.lt_irrefl, ↓reduceIte, b_mo_defeats_153]
    exact H g hr (by rw [hg, ht])
  | succ j ih =>
    intro t g o4 o5 ht hft hg hr
    have ht' : t < nn w := by omega
    have hwg : WI (g 197) := by rw [hg]; exact dfR_wi hw _ (by omega)
    have hag : agv w (g 197) := by rw [hg]; exact dfR_agv
    have hLg : LK (g 197) 0 okV V := by
      rw [hg]
      exact LK_c (fun j hj => dfR_o _ fun t ht => by omega) hL
    have hn := wi_n hwg
    have e0 : nn (g 197) = nn w := stc_nn hag.1
    rw [e0] at hn
    have es : fd (g 197) t 0 = fd w t 0 := stc_fd hag.1 (by omega) (by decide)
    have hq : dfR V w f s (t + 1) = if dfq V w f s t = true then df1 (dfR V w f s t) t else dfR V w f s t := rfl
    have stay : ∀ g1 o4 o5, fr [205, 206, 207] g g1 → ¬ dfq V w f s t = true → wp (ev (d + 6)) P mo_defeats 147 [some (.ref 196), some (.int (nI f)), some (.int (nI s)), some (.int (nI t)), o4, o5] [] (E g1 q) := by
      intro g1 o4 o5 f1 hd
      rw [if_neg hd] at hq
      rw [b_mo_defeats_147]
      simp -implicitDefEqProofs (disch := first | assumption | omega) only [szS_0, szS_i, szS_r, szS_l, x_cons, x_goto, ob_some, kl_i, kl_r, kl_l, kl_n, push_n, push_s, pop_0, pop_i, pop_r, Int.reduceToNat, List.length_cons, List.length_nil, Nat.reduceAdd, Nat.reduceLeDiff, Nat.zero_add, true_and, nI_n0, nat_le, Nat.add_zero, i_1, rt_mo_defeats, x_al0, x_call, x_getf, x_goto, x_iadd, x_iaload, x_iand, x_icge, x_ifeq, x_ifle, x_ifne, x_il1, x_il2, x_il3, x_il4, x_il5, x_inc3, x_inc5, x_ior, x_is3, x_is4, x_is5, x_ishl, x_ldc, x_vret, nI_add]
      exact ih (t + 1) g1 o4 o5 (by omega) (by omega) (by rw [fr_a f1 rfl, hg, hq]) (fr_t hr (fr_m rfl f1))
    rw [b_mo_defeats_4]
    simp -implicitDefEqProofs (disch := first | assumption | omega) only [szS_0, szS_i, szS_r, szS_l, x_cons, x_goto, ob_some, kl_i, kl_r, kl_l, kl_n, push_n, push_s, pop_0, pop_i, pop_r, Int.reduceToNat, List.length_cons, List.length_nil, Nat.reduceAdd, Nat.reduceLeDiff, Nat.zero_add, true_and, nI_n0, nat_le, Nat.add_zero, i_1, rt_mo_defeats, x_al0, x_call, x_getf, x_goto, x_iadd, x_iaload, x_iand, x_icge, x_ifeq, x_ifle, x_ifne, x_il1, x_il2, x_il3, x_il4, x_il5, x_inc3, x_inc5, x_ior, x_is3, x_is4, x_is5, x_ishl, x_ldc, x_vret, fd_196_0, fd_196_1, fd_196_2, fd_196_3, fd_196_4, sf_196_4, fd_196_5, sf_196_5, fd_196_6, fd_196_7, fd_196_8, fd_196_9, fd_196_10, fd_196_11, fd_196_12, sf_196_12, fd_196_13, sf_196_13, fd_196_14, sf_196_14, fd_196_15, sf_196_15, fd_196_16, sf_196_16, fd_196_17, sf_196_17, fd_196_18, sf_196_18, fd_196_19, sf_196_19, fd_196_20, sf_196_20, fd_196_21, sf_196_21, fd_196_22, sf_196_22, fd_196_23, sf_196_23, fd_196_24, sf_196_24, fd_196_25, sf_196_25, fd_196_26, sf_196_26, fd_196_27, fd_196_28, fd_196_29, fd_196_30, sf_196_30, fd_196_31, fd_196_32, fd_196_33, fd_196_34, fd_196_35, fd_196_36, fd_196_37, sf_196_37, fd_196_38, fd_196_39, sf_196_39, fd_196_40, sf_196_40, fd_196_41, sf_196_41, fd_196_42, fd_196_43, fd_196_44, ld_197, sd_197, ln_197, hn.1, nI_ltE, ht', ↓reduceIte, s_isTown, bI_0, townB_nI, e0, es, decide_true, Bool.true_and]
    by_cases e : fd w t 0 = 1
    · simp -implicitDefEqProofs (disch := first | assumption | omega) only [e, decide_true, Bool.true_eq_false, ↓reduceIte, b_mo_defeats_25, szS_0, szS_i, szS_r, szS_l, x_cons, x_goto, ob_some, kl_i, kl_r, kl_l, kl_n, push_n, push_s, pop_0, pop_i, pop_r, Int.reduceToNat, List.length_cons, List.length_nil, Nat.reduceAdd, Nat.reduceLeDiff, Nat.zero_add, true_and, nI_n0, nat_le, Nat.add_zero, i_1, rt_mo_defeats, x_al0, x_call, x_getf, x_goto, x_iadd, x_iaload, x_iand, x_icge, x_ifeq, x_ifle, x_ifne, x_il1, x_il2, x_il3, x_il4, x_il5, x_inc3, x_inc5, x_ior, x_is3, x_is4, x_is5, x_ishl, x_ldc, x_vret]
      refine df_in (V := V) hw hf ht' (g0 := g) hs (fun g1 f1 => ?_) (am w f) 0 g (Nat.zero_add _) hwg hLg hag fr_r
      have hv := vtd_lt V w f t
      have hvs : vtd V w f t &&& s ≤ vtd V w f t := Nat.and_le_left
      have e197 : g1 197 = dfR V w f s t := by rw [fr_a f1 rfl, hg]
      rw [b_mo_defeats_72]
      simp -implicitDefEqProofs (disch := first | assumption | omega) only [szS_0, szS_i, szS_r, szS_l, x_cons, x_goto, ob_some, kl_i, kl_r, kl_l, kl_n, push_n, push_s, pop_0, pop_i, pop_r, Int.reduceToNat, List.length_cons, List.length_nil, Nat.reduceAdd, Nat.reduceLeDiff, Nat.zero_add, true_and, nI_n0, nat_le, Nat.add_zero, i_1, rt_mo_defeats, x_al0, x_call, x_getf, x_goto, x_iadd, x_iaload, x_iand, x_icge, x_ifeq, x_ifle, x_ifne, x_il1, x_il2, x_il3, x_il4, x_il5, x_inc3, x_inc5, x_ior, x_is3, x_is4, x_is5, x_ishl, x_ldc, x_vret, nI_eqE]
      by_cases hv0 : vtd V w f t = 0
      · simp only [hv0, ↓reduceIte]
        refine stay g1 _ _ f1 fun hd => ?_
        unfold dfq at hd
        rw [hv0] at hd
        simp at hd
      · simp only [hv0, ↓reduceIte]
        simp -implicitDefEqProofs (disch := first | assumption | omega) only [szS_0, szS_i, szS_r, szS_l, x_cons, x_goto, ob_some, kl_i, kl_r, kl_l, kl_n, push_n, push_s, pop_0, pop_i, pop_r, Int.reduceToNat, List.length_cons, List.length_nil, Nat.reduceAdd, Nat.reduceLeDiff, Nat.zero_add, true_and, nI_n0, nat_le, Nat.add_zero, i_1, rt_mo_defeats, x_al0, x_call, x_getf, x_goto, x_iadd, x_iaload, x_iand, x_icge, x_ifeq, x_ifle, x_ifne, x_il1, x_il2, x_il3, x_il4, x_il5, x_inc3, x_inc5, x_ior, x_is3, x_is4, x_is5, x_ishl, x_ldc, x_vret, nI_and, nI_eqE]
        by_cases hvs0 : vtd V w f t &&& s = 0
        · simp only [hvs0, ↓reduceIte]
          have hd : dfq V w f s t = true := by
            unfold dfq
            rw [decide_eq_true ⟨hft, e⟩, decide_eq_true hv0, decide_eq_true hvs0]
            rfl
          rw [if_pos hd] at hq
          have hwg1 : WI (dfR V w f s t) := dfR_wi hw _ (by omega)
          have hy := wi_y hwg1 (n := t) (by omega)
          have h14 := hy.2.2.2.2.1
          have h15 := hy.2.2.2.2.2.1
          have step : ∀ r o4 o5, df1 (dfR V w f s t) t = r → wp (ev (d + 6)) P mo_defeats 147 [some (.ref 196), some (.int (nI f)), some (.int (nI s)), some (.int (nI t)), o4, o5] [] (E (upw g1 197 r) q) := by
            intro r o4 o5 hr1
            rw [b_mo_defeats_147]
            simp -implicitDefEqProofs (disch := first | assumption | omega) only [szS_0, szS_i, szS_r, szS_l, x_cons, x_goto, ob_some, kl_i, kl_r, kl_l, kl_n, push_n, push_s, pop_0, pop_i, pop_r, Int.reduceToNat, List.length_cons, List.length_nil, Nat.reduceAdd, Nat.reduceLeDiff, Nat.zero_add, true_and, nI_n0, nat_le, Nat.add_zero, i_1, rt_mo_defeats, x_al0, x_call, x_getf, x_goto, x_iadd, x_iaload, x_iand, x_icge, x_ifeq, x_ifle, x_ifne, x_il1, x_il2, x_il3, x_il4, x_il5, x_inc3, x_inc5, x_ior, x_is3, x_is4, x_is5, x_ishl, x_ldc, x_vret, nI_add]
            exact ih (t + 1) _ o4 o5 (by omega) (by omega) (by rw [upw_s, hq, hr1]) (fr_t hr (fr_w rfl (fr_m rfl f1)))
          simp -implicitDefEqProofs (disch := first | assumption | omega) only [b_mo_defeats_87, szS_0, szS_i, szS_r, szS_l, x_cons, x_goto, ob_some, kl_i, kl_r, kl_l, kl_n, push_n, push_s, pop_0, pop_i, pop_r, Int.reduceToNat, List.length_cons, List.length_nil, Nat.reduceAdd, Nat.reduceLeDiff, Nat.zero_add, true_and, nI_n0, nat_le, Nat.add_zero, i_1, rt_mo_defeats, x_al0, x_call, x_getf, x_goto, x_iadd, x_iaload, x_iand, x_icge, x_ifeq, x_ifle, x_ifne, x_il1, x_il2, x_il3, x_il4, x_il5, x_inc3, x_inc5, x_ior, x_is3, x_is4, x_is5, x_ishl, x_ldc, x_vret, s_own, s_gives, e197, h14.1, nI_add, pu_g, pu_w, upw_s, pu_s, nI_ltE]
          by_cases h10 : fd (dfR V w f s t) t 14 + 1 < 10
          · simp only [h10, ↓reduceIte]
            exact step _ _ _ (if_pos h10)
          · simp only [h10, ↓reduceIte]
            simp -implicitDefEqProofs (disch := first | assumption | omega) only [b_mo_defeats_118, szS_0, szS_i, szS_r, szS_l, x_cons, x_goto, ob_some, kl_i, kl_r, kl_l, kl_n, push_n, push_s, pop_0, pop_i, pop_r, Int.reduceToNat, List.length_cons, List.length_nil, Nat.reduceAdd, Nat.reduceLeDiff, Nat.zero_add, true_and, nI_n0, nat_le, Nat.add_zero, i_1, rt_mo_defeats, x_al0, x_call, x_getf, x_goto, x_iadd, x_iaload, x_iand, x_icge, x_ifeq, x_ifle, x_ifne, x_il1, x_il2, x_il3, x_il4, x_il5, x_inc3, x_inc5, x_ior, x_is3, x_is4, x_is5, x_ishl, x_ldc, x_vret, s_own, s_gives, s_lesser, upw_s, upw_w, pu_g, pu_w, pu_s, pu_n, pu_pu, h15.1, nI_add, nI_ltE, nI_ite]
            exact step _ _ _ (if_neg h10)
        · simp only [hvs0, ↓reduceIte]
          refine stay g1 _ _ f1 fun hd => ?_
          unfold dfq at hd
          rw [decide_eq_false hvs0] at hd
          simp at hd
    · simp -implicitDefEqProofs (disch := first | assumption | omega) only [e, decide_false, ↓reduceIte]
      refine stay g _ _ fr_r fun hd => ?_
      unfold dfq at hd
      rw [decide_eq_false (p := f < t ∧ fd w t 0 = 1) fun h => e h.2] at hd
      cases hd
theorem s_defeats (hw : WI (g 197)) {V : LW} (hL : LK (g 197) 0 okV V) {f s : Nat} (hf : f < nn (g 197)) (hs : s < 8) (H : ∀ g', fr [205, 206, 207, 197] g g' → g' 197 = dfR V (g 197) f s (nn (g 197)) → P none (E g' q)) :
    callC (ev (d + 7)) mo_defeats [.ref 196, .int (nI f), .int (nI s)] (E g q) P := by
  refine in_mo_defeats rfl ?_
  have hd0 : ∀ n, n ≤ f + 1 → dfR V (g 197) f s n = g 197 := by
    intro n
    induction n with
    | zero => intro _; rfl
    | succ n ih =>
      intro hn
      unfold dfR
      rw [ih (by omega), if_neg fun hd => by
        unfold dfq at hd
        rw [decide_eq_false (p := f < n ∧ fd (g 197) n 0 = 1) fun h => by omega] at hd
        cases hd]
  rw [b_mo_defeats_0]
  simp -implicitDefEqProofs (disch := first | assumption | omega) only [szS_0, szS_i, szS_r, szS_l, x_cons, x_goto, ob_some, kl_i, kl_r, kl_l, kl_n, push_n, push_s, pop_0, pop_i, pop_r, Int.reduceToNat, List.length_cons, List.length_nil, Nat.reduceAdd, Nat.reduceLeDiff, Nat.zero_add, true_and, nI_n0, nat_le, Nat.add_zero, i_1, rt_mo_defeats, x_al0, x_call, x_getf, x_goto, x_iadd, x_iaload, x_iand, x_icge, x_ifeq, x_ifle, x_ifne, x_il1, x_il2, x_il3, x_il4, x_il5, x_inc3, x_inc5, x_ior, x_is3, x_is4, x_is5, x_ishl, x_ldc, x_vret, nI_add]
  exact df_out hw hL hf hs H (nn (g 197) - (f + 1)) (f + 1) g none none (by omega) (by omega) (hd0 _ (Nat.le_refl _)).symm fr_r
theorem s_writes (hw : WI (g 197)) {f m : Nat} (hf : f < 16) (hm : g 196 30 = nI m) : callC (ev (d + 2)) mo_writes [.ref 196, .int (nI f)] (E g q) P = P none (E (upw g 197 (bkR (g 197) f m)) q) := by
  refine call_eq (in_mo_writes rfl ?_)
  have h2 := wi_2 hw
  rw [b_mo_writes_0]
  simp -implicitDefEqProofs (disch := first | assumption | omega) only [szS_0, szS_i, szS_r, szS_l, x_cons, x_goto, ob_some, kl_i, kl_r, kl_l, kl_n, push_n, push_s, pop_0, pop_i, pop_r, Int.reduceToNat, List.length_cons, List.length_nil, Nat.reduceAdd, Nat.reduceLeDiff, Nat.zero_add, true_and, nI_n0, nat_le, Nat.add_zero, rt_mo_writes, x_al0, x_call, x_dup2, x_getf, x_iadd, x_iaload, x_iastore, x_icne, x_il1, x_il2, x_imul, x_is2, x_ldc, x_vret, fd_196_0, fd_196_1, fd_196_2, fd_196_3, fd_196_4, sf_196_4, fd_196_5, sf_196_5, fd_196_6, fd_196_7, fd_196_8, fd_196_9, fd_196_10, fd_196_11, fd_196_12, sf_196_12, fd_196_13, sf_196_13, fd_196_14, sf_196_14, fd_196_15, sf_196_15, fd_196_16, sf_196_16, fd_196_17, sf_196_17, fd_196_18, sf_196_18, fd_196_19, sf_196_19, fd_196_20, sf_196_20, fd_196_21, sf_196_21, fd_196_22, sf_196_22, fd_196_23, sf_196_23, fd_196_24, sf_196_24, fd_196_25, sf_196_25, fd_196_26, sf_196_26, fd_196_27, fd_196_28, fd_196_29, fd_196_30, sf_196_30, fd_196_31, fd_196_32, fd_196_33, fd_196_34, fd_196_35, fd_196_36, fd_196_37, sf_196_37, fd_196_38, fd_196_39, sf_196_39, fd_196_40, sf_196_40, fd_196_41, sf_196_41, fd_196_42, fd_196_43, fd_196_44, ld_197, sd_197, ln_197, h2.1, nI_eqE]
  by_cases h : vN (g 197) 2 = 150
  · simp only [h, ↓reduceIte]
    have e : bkR (g 197) f m = g 197 := if_pos h
    rw [e, upw_g]
    all_goals first | rfl | exact ⟨rfl, rfl⟩ | exact ⟨rfl, trivial⟩ | exact ⟨trivial, rfl⟩ | trivial
  · simp only [h, ↓reduceIte]
    have e : bkR (g 197) f m = bk1 (g 197) f m := if_neg h
    have hl : vN (g 197) 2 < 150 := by omega
    rw [e]
    simp -implicitDefEqProofs (disch := first | assumption | omega) only [b_mo_writes_13, szS_0, szS_i, szS_r, szS_l, x_cons, x_goto, ob_some, kl_i, kl_r, kl_l, kl_n, push_n, push_s, pop_0, pop_i, pop_r, Int.reduceToNat, List.length_cons, List.length_nil, Nat.reduceAdd, Nat.reduceLeDiff, Nat.zero_add, true_and, nI_n0, nat_le, Nat.add_zero, rt_mo_writes, x_al0, x_call, x_dup2, x_getf, x_iadd, x_iaload, x_iastore, x_icne, x_il1, x_il2, x_imul, x_is2, x_ldc, x_vret, fd_196_0, fd_196_1, fd_196_2, fd_196_3, fd_196_4, sf_196_4, fd_196_5, sf_196_5, fd_196_6, fd_196_7, fd_196_8, fd_196_9, fd_196_10, fd_196_11, fd_196_12, sf_196_12, fd_196_13, sf_196_13, fd_196_14, sf_196_14, fd_196_15, sf_196_15, fd_196_16, sf_196_16, fd_196_17, sf_196_17, fd_196_18, sf_196_18, fd_196_19, sf_196_19, fd_196_20, sf_196_20, fd_196_21, sf_196_21, fd_196_22, sf_196_22, fd_196_23, sf_196_23, fd_196_24, sf_196_24, fd_196_25, sf_196_25, fd_196_26, sf_196_26, fd_196_27, fd_196_28, fd_196_29, fd_196_30, sf_196_30, fd_196_31, fd_196_32, fd_196_33, fd_196_34, fd_196_35, fd_196_36, fd_196_37, sf_196_37, fd_196_38, fd_196_39, sf_196_39, fd_196_40, sf_196_40, fd_196_41, sf_196_41, fd_196_42, fd_196_43, fd_196_44, ld_197, sd_197, ln_197, h2.1, nI_mul, nI_add, s_own, pu_g, pu_w, upw_w, upw_s, upw_o, pu_n, hm]
    all_goals first | rfl | exact ⟨rfl, rfl⟩ | exact ⟨rfl, trivial⟩ | exact ⟨trivial, rfl⟩ | trivial
end MJ
