/-! the reference's water: towns, the whole -/
section MI
variable {d : Nat} {g : Nat → Nat → Int32} {q : Nat → Nat → Int64} {P : QT}
theorem wi_T {w : Nat → Int32} (h : WI w) {t : Nat} (ht : t < nn w) (hs : fd w t 0 = 1) : am w t = 1 ∧ 1 ≤ fd w t 11 := by
  have := wi_n h
  exact ((wi_f h (n := t) (by omega)).2.2.2.1 ht).2.1 hs
theorem s_drinks {w u : Nat → Int32} (hw : WI w) {t c : Nat} (ht2 : t < nn w) (hs : fd w t 0 = 1) (hc : c ≤ 1998) (hu : ∀ f, f < 20 → u (10 + 20 * t + f) = w (10 + 20 * t + f)) {R : Nat → Nat} {c0 : Nat → Nat → Nat} (hc0 : ∀ j, j < 16 → c0 t j = 0) {r : Nat → Int32} (hr : ∀ m, m < 16 → r m = nI (R m))
    (H : ∀ r cc, (∀ m, m < 16 → r m = nI (R m + if tg w t 0 = m then snT w c t else 0)) → (∀ i j, i < 16 → j < 16 → cc i j = if i = t then (if tg w t 0 = j then snT w c t else 0) else c0 i j) → P none (E (upw (upw g 208 r) 197 (cmw (drk u w c t) cc)) q)) :
    callC (ev (d + 3)) mo_drinks [.ref 196, .int (nI t), .int (nI c)] (E (upw (upw g 208 r) 197 (cmw u c0)) q) P := by
  refine in_mo_drinks rfl ?_
  have h0 := wi_n hw
  have ht : t < 16 := by omega
  have hy := wi_y hw ht
  have u11 : u (10 + 20 * t + 11) = nI (fd w t 11) := by rw [hu 11 (by decide)]; exact hy.2.1.1
  have u13 : u (10 + 20 * t + 13) = nI (fd w t 13) := by rw [hu 13 (by decide)]; exact hy.2.2.2.1.1
  have u15 : u (10 + 20 * t + 15) = nI (fd w t 15) := by rw [hu 15 (by decide)]; exact hy.2.2.2.2.2.1.1
  have u16 : u (10 + 20 * t + 16) = nI (fd w t 16) := by rw [hu 16 (by decide)]; exact hy.2.2.2.2.2.2.1.1
  have l11 := hy.2.1.2
  have l13 := hy.2.2.2.1.2
  have l15 := hy.2.2.2.2.2.1.2
  have l16 := hy.2.2.2.2.2.2.1.2
  have ham := wi_T hw ht2 hs
  have htl := tg_lt hw ht (a := 0) (by omega)
  have hut : u (10 + 20 * t + (2 + 0)) = nI (tg w t 0) := by rw [hu _ (by decide)]; exact (wi_t hw ht (a := 0) (by decide)).1
  have hpos : (10 + 20 * t + 17 < 340 ∨ 596 ≤ 10 + 20 * t + 17) := by omega
  -- the last piece: STORE is written
  have fin : ∀ x y : Int32, x = nI c - nI (fd w t 11) → nI (fd w t 16) + y = nI (sto w c t) → (x - y < nI 0) = (wetP w c t = false) → (x ≤ nI 0) = (c ≤ fd w t 11) → (fd w t 11 < c → x - y = nI (snT w c t)) →
      wp (ev (d + 2)) P mo_drinks 60 [some (.ref 196), some (.int (nI t)), some (.int (nI c)), some (.int x), none] [.int y] (E (upw (upw g 208 r) 197 (cmw (pu u (10 + 20 * t + 12) (nI c)) c0)) q) := by
    intro x y hx hy1 hy2 hy3 hy4
    have last : ∀ v : Nat, v = (if wetP w c t = true then 0 else if 99 < fd w t 13 + 1 then 99 else fd w t 13 + 1) →
        wp (ev (d + 2)) P mo_drinks 131 [some (.ref 196), some (.int (nI t)), some (.int (nI c)), some (.int x), some (.int y)] [.int (nI v), .int (nI 13), .int (nI t), .ref 196] (E (upw (upw g 208 r) 197 (cmw (pu (pu (pu u (10 + 20 * t + 12) (nI c)) (10 + 20 * t + 16) (nI (sto w c t))) (10 + 20 * t + 17) (nI (if wetP w c t = true then 1 else 0))) c0)) q) := by
      intro v hv
      rw [b_mo_drinks_131]
      simp -implicitDefEqProofs (disch := first | assumption | omega) only [szS_0, szS_i, szS_r, szS_l, x_cons, x_goto, ob_some, kl_i, kl_r, kl_l, kl_n, push_n, push_s, pop_0, pop_i, pop_r, Int.reduceToNat, List.length_cons, List.length_nil, Nat.reduceAdd, Nat.reduceLeDiff, Nat.zero_add, true_and, nI_n0, nat_le, Nat.add_zero, rt_mo_drinks, x_al0, x_call, x_goto, x_iadd, x_icne, x_ifle, x_iflt, x_il1, x_il2, x_il3, x_il4, x_imul, x_ineg, x_is3, x_is4, x_isub, x_ldc, x_vret, s_gives, pu_w, cmw_p, hy3]
      have ed : pu (pu (pu (pu u (10 + 20 * t + 12) (nI c)) (10 + 20 * t + 16) (nI (sto w c t))) (10 + 20 * t + 17) (nI (if wetP w c t = true then 1 else 0))) (10 + 20 * t + 13) (nI v) = drk u w c t := by
        rw [hv]
        rfl
      rw [ed]
      by_cases hl : c ≤ fd w t 11
      · simp only [hl, ↓reduceIte]
        simp -implicitDefEqProofs (disch := first | assumption | omega) only [b_mo_drinks_153, szS_0, szS_i, szS_r, szS_l, x_cons, x_goto, ob_some, kl_i, kl_r, kl_l, kl_n, push_n, push_s, pop_0, pop_i, pop_r, Int.reduceToNat, List.length_cons, List.length_nil, Nat.reduceAdd, Nat.reduceLeDiff, Nat.zero_add, true_and, nI_n0, nat_le, Nat.add_zero, rt_mo_drinks, x_al0, x_call, x_goto, x_iadd, x_icne, x_ifle, x_iflt, x_il1, x_il2, x_il3, x_il4, x_imul, x_ineg, x_is3, x_is4, x_isub, x_ldc, x_vret]
        have hsn : snT w c t = 0 := if_neg (by omega)
        refine H r c0 (fun m hm => ?_) fun i j hi hj => ?_
        · rw [hr m hm, hsn]
          split <;> rfl
        · rw [hsn]
          split
          next e =>
            rw [e, hc0 j hj]
            split <;> rfl
          next => rfl
      · have hl' : fd w t 11 < c := by omega
        simp only [hl, ↓reduceIte]
        have d2 : drk u w c t (10 + 20 * t + (2 + 0)) = nI (tg w t 0) := by rw [drk_o (by omega) (by omega) (by omega) (by omega)]; exact hut
        simp -implicitDefEqProofs (disch := first | assumption | omega) only [szS_0, szS_i, szS_r, szS_l, x_cons, x_goto, ob_some, kl_i, kl_r, kl_l, kl_n, push_n, push_s, pop_0, pop_i, pop_r, Int.reduceToNat, List.length_cons, List.length_nil, Nat.reduceAdd, Nat.reduceLeDiff, Nat.zero_add, true_and, nI_n0, nat_le, Nat.add_zero, rt_mo_drinks, x_al0, x_call, x_goto, x_iadd, x_icne, x_ifle, x_iflt, x_il1, x_il2, x_il3, x_il4, x_imul, x_ineg, x_is3, x_is4, x_isub, x_ldc, x_vret, s_goesTo, upw_s, upw_o, cmw_o, d2, s_goes, hy4 hl', upw_w]
        rw [upw_c (show (197 : Nat) ≠ 208 by decide)]
        simp only [upw_w]
        rw [hr _ (by omega), nI_add, cmw_i ht (by omega), hc0 _ (by omega), nI_add, cmw_u ht (by omega)]
        simp -implicitDefEqProofs (disch := first | assumption | omega) only [b_mo_drinks_153, szS_0, szS_i, szS_r, szS_l, x_cons, x_goto, ob_some, kl_i, kl_r, kl_l, kl_n, push_n, push_s, pop_0, pop_i, pop_r, Int.reduceToNat, List.length_cons, List.length_nil, Nat.reduceAdd, Nat.reduceLeDiff, Nat.zero_add, true_and, nI_n0, nat_le, Nat.add_zero, rt_mo_drinks, x_al0, x_call, x_goto, x_iadd, x_icne, x_ifle, x_iflt, x_il1, x_il2, x_il3, x_il4, x_imul, x_ineg, x_is3, x_is4, x_isub, x_ldc, x_vret]
        refine H _ _ (fun m hm => ?_) fun i j hi hj => ?_
        · unfold pu
          by_cases e : m = tg w t 0
          · rw [if_pos e, if_pos e.symm, e]
          · rw [if_neg e, if_neg fun h => e h.symm, hr m hm]
            rfl
        · show (if i = t ∧ j = tg w t 0 then _ else c0 i j) = _
          by_cases e : i = t
          · subst e
            by_cases e2 : j = tg w i 0
            · rw [if_pos ⟨rfl, e2⟩, if_pos rfl, if_pos e2.symm]
            · rw [if_neg fun h => e2 h.2, if_pos rfl, if_neg fun h => e2 h.symm, hc0 j hj]
          · rw [if_neg fun h => e h.1, if_neg e]
    rw [b_mo_drinks_60]
    simp -implicitDefEqProofs (disch := first | assumption | omega) only [szS_0, szS_i, szS_r, szS_l, x_cons, x_goto, ob_some, kl_i, kl_r, kl_l, kl_n, push_n, push_s, pop_0, pop_i, pop_r, Int.reduceToNat, List.length_cons, List.length_nil, Nat.reduceAdd, Nat.reduceLeDiff, Nat.zero_add, true_and, nI_n0, nat_le, Nat.add_zero, rt_mo_drinks, x_al0, x_call, x_goto, x_iadd, x_icne, x_ifle, x_iflt, x_il1, x_il2, x_il3, x_il4, x_imul, x_ineg, x_is3, x_is4, x_isub, x_ldc, x_vret, s_own, s_gives, pu_w, cmw_p, cmw_o, pu_n, upw_s, u16, hy1, hy2]
    by_cases hb : wetP w c t = true
    · have e1 : (1 : Nat) = (if wetP w c t = true then 1 else 0) := (if_pos hb).symm
      simp only [hb, Bool.true_eq_false, ↓reduceIte]
      simp -implicitDefEqProofs (disch := first | assumption | omega) only [b_mo_drinks_95, szS_0, szS_i, szS_r, szS_l, x_cons, x_goto, ob_some, kl_i, kl_r, kl_l, kl_n, push_n, push_s, pop_0, pop_i, pop_r, Int.reduceToNat, List.length_cons, List.length_nil, Nat.reduceAdd, Nat.reduceLeDiff, Nat.zero_add, true_and, nI_n0, nat_le, Nat.add_zero, rt_mo_drinks, x_al0, x_call, x_goto, x_iadd, x_icne, x_ifle, x_iflt, x_il1, x_il2, x_il3, x_il4, x_imul, x_ineg, x_is3, x_is4, x_isub, x_ldc, x_vret, s_own, s_gives, pu_w, cmw_p, cmw_o, pu_s, pu_n, upw_s]
      have := last 0 (by rw [if_pos hb])
      rw [if_pos hb] at this
      exact this
    · have hb2 : wetP w c t = false := by
        cases h : wetP w c t
        · rfl
        · exact absurd h hb
      simp only [hb2, ↓reduceIte]
      simp -implicitDefEqProofs (disch := first | assumption | omega) only [b_mo_drinks_94, b_mo_drinks_95, b_mo_drinks_117, szS_0, szS_i, szS_r, szS_l, x_cons, x_goto, ob_some, kl_i, kl_r, kl_l, kl_n, push_n, push_s, pop_0, pop_i, pop_r, Int.reduceToNat, List.length_cons, List.length_nil, Nat.reduceAdd, Nat.reduceLeDiff, Nat.zero_add, true_and, nI_n0, nat_le, Nat.add_zero, rt_mo_drinks, x_al0, x_call, x_goto, x_iadd, x_icne, x_ifle, x_iflt, x_il1, x_il2, x_il3, x_il4, x_imul, x_ineg, x_is3, x_is4, x_isub, x_ldc, x_vret, s_own, s_gives, pu_w, cmw_p, cmw_o, pu_s, pu_n, upw_s, nI_eqE, Nat.zero_ne_one, ↓reduceIte, u13, nI_add, s_lesser, nI_ltE, nI_ite]
      have := last (if 99 < fd w t 13 + 1 then 99 else fd w t 13 + 1) (by rw [if_neg hb])
      rw [if_neg hb] at this
      exact this
  rw [b_mo_drinks_0]
  simp -implicitDefEqProofs (disch := first | assumption | omega) only [szS_0, szS_i, szS_r, szS_l, x_cons, x_goto, ob_some, kl_i, kl_r, kl_l, kl_n, push_n, push_s, pop_0, pop_i, pop_r, Int.reduceToNat, List.length_cons, List.length_nil, Nat.reduceAdd, Nat.reduceLeDiff, Nat.zero_add, true_and, nI_n0, nat_le, Nat.add_zero, rt_mo_drinks, x_al0, x_call, x_goto, x_iadd, x_icne, x_ifle, x_iflt, x_il1, x_il2, x_il3, x_il4, x_imul, x_ineg, x_is3, x_is4, x_isub, x_ldc, x_vret, s_own, s_gives, pu_w, cmw_p, cmw_o, pu_n, upw_s, u11, u15, u16, nI_sle]
  by_cases hl : c ≤ fd w t 11
  · simp only [hl, ↓reduceIte]
    simp -implicitDefEqProofs (disch := first | assumption | omega) only [b_mo_drinks_47, szS_0, szS_i, szS_r, szS_l, x_cons, x_goto, ob_some, kl_i, kl_r, kl_l, kl_n, push_n, push_s, pop_0, pop_i, pop_r, Int.reduceToNat, List.length_cons, List.length_nil, Nat.reduceAdd, Nat.reduceLeDiff, Nat.zero_add, true_and, nI_n0, nat_le, Nat.add_zero, rt_mo_drinks, x_al0, x_call, x_goto, x_iadd, x_icne, x_ifle, x_iflt, x_il1, x_il2, x_il3, x_il4, x_imul, x_ineg, x_is3, x_is4, x_isub, x_ldc, x_vret, s_own, cmw_o, pu_n, upw_s, u16, nI_nsub, s_lesser, nI_ltE, nI_ite]
    have hg : giv w c t = (if fd w t 11 - c < fd w t 16 then fd w t 11 - c else fd w t 16) := rfl
    rw [← hg]
    have hgl : giv w c t ≤ fd w t 16 := by
      rw [hg]
      split <;> omega
    refine fin _ _ rfl ?_ ?_ (nI_sle (by omega) (by omega)) fun h => absurd h (by omega)
    · rw [nI_addn hgl]
      unfold sto
      rw [if_neg (by omega)]
    · rw [nI_subn, nI_slt (by omega) (by omega)]
      unfold wetP
      rw [decide_eq_false_iff_not, hg]
      refine propext ?_
      split <;> omega
  · simp only [hl, ↓reduceIte]
    have hl' : fd w t 11 < c := by omega
    simp -implicitDefEqProofs (disch := first | assumption | omega) only [szS_0, szS_i, szS_r, szS_l, x_cons, x_goto, ob_some, kl_i, kl_r, kl_l, kl_n, push_n, push_s, pop_0, pop_i, pop_r, Int.reduceToNat, List.length_cons, List.length_nil, Nat.reduceAdd, Nat.reduceLeDiff, Nat.zero_add, true_and, nI_n0, nat_le, Nat.add_zero, rt_mo_drinks, x_al0, x_call, x_goto, x_iadd, x_icne, x_ifle, x_iflt, x_il1, x_il2, x_il3, x_il4, x_imul, x_ineg, x_is3, x_is4, x_isub, x_ldc, x_vret, s_own, cmw_o, pu_n, upw_s, u15, u16, nI_mul, nI_sub, s_lesser, nI_ltE, nI_ite]
    have hg : tak w c t = (if c - fd w t 11 < 50 * fd w t 15 - fd w t 16 then c - fd w t 11 else 50 * fd w t 15 - fd w t 16) := rfl
    rw [← hg]
    have hgl : tak w c t ≤ c - fd w t 11 := by
      rw [hg]
      split <;> omega
    have e0 := nI_sub (a := c) (b := fd w t 11) (by omega)
    refine fin _ _ e0.symm ?_ ?_ ?_ fun _ => ?_
    · rw [nI_add]
      unfold sto
      rw [if_pos hl']
    · rw [nI_sub hgl, nI_ltE (by omega) (by decide)]
      unfold wetP
      rw [decide_eq_false_iff_not]
      exact propext ⟨fun h => by omega, fun h => by omega⟩
    · rw [nI_leE (by omega) (by decide)]
      exact propext ⟨fun h => by omega, fun h => by omega⟩
    · rw [nI_sub hgl]
      unfold snT
      rw [if_pos hl']
theorem fw_0 {w2 : Int32} (H : ∀ r o, (∀ m, m < 16 → r m = nI 0) → wp (ev (d + 3)) P mo_flows 21 [some (.ref 196), some (.int w2), o] [] (E (upw g 208 r) q)) : ∀ (j n : Nat) (r : Nat → Int32), n + j = 16 → (∀ m, m < n → r m = nI 0) →
    wp (ev (d + 3)) P mo_flows 2 [some (.ref 196), some (.int w2), some (.int (nI n))] [] (E (upw g 208 r) q) := by
  intro j
  induction j with
  | zero =>
    intro n r hn hr
    have hn : n = 16 := hn
    subst hn
    rw [b_mo_flows_2]
    simp -implicitDefEqProofs (disch := first | assumption | omega) only [szS_0, szS_i, szS_r, szS_l, x_cons, x_goto, ob_some, kl_i, kl_r, kl_l, kl_n, push_n, push_s, pop_0, pop_i, pop_r, Int.reduceToNat, List.length_cons, List.length_nil, Nat.reduceAdd, Nat.reduceLeDiff, Nat.zero_add, true_and, nI_n0, nat_le, Nat.add_zero, i_1, rt_mo_flows, x_al0, x_call, x_dup2, x_getf, x_goto, x_iadd, x_iaload, x_iastore, x_icge, x_icne, x_ifne, x_il1, x_il2, x_inc2, x_is2, x_ldc, x_vret, nI_ltE, Nat.lt_irrefl, ↓reduceIte]
    exact H r _ hr
  | succ j ih =>
    intro n r hn hr
    have hn' : n < 16 := by omega
    rw [b_mo_flows_2]
    simp -implicitDefEqProofs (disch := first | assumption | omega) only [szS_0, szS_i, szS_r, szS_l, x_cons, x_goto, ob_some, kl_i, kl_r, kl_l, kl_n, push_n, push_s, pop_0, pop_i, pop_r, Int.reduceToNat, List.length_cons, List.length_nil, Nat.reduceAdd, Nat.reduceLeDiff, Nat.zero_add, true_and, nI_n0, nat_le, Nat.add_zero, i_1, rt_mo_flows, x_al0, x_call, x_dup2, x_getf, x_goto, x_iadd, x_iaload, x_iastore, x_icge, x_icne, x_ifne, x_il1, x_il2, x_inc2, x_is2, x_ldc, x_vret, fd_196_0, fd_196_1, fd_196_2, fd_196_3, fd_196_4, sf_196_4, fd_196_5, sf_196_5, fd_196_6, fd_196_7, fd_196_8, fd_196_9, fd_196_10, fd_196_11, fd_196_12, sf_196_12, fd_196_13, sf_196_13, fd_196_14, sf_196_14, fd_196_15, sf_196_15, fd_196_16, sf_196_16, fd_196_17, sf_196_17, fd_196_18, sf_196_18, fd_196_19, sf_196_19, fd_196_20, sf_196_20, fd_196_21, sf_196_21, fd_196_22, sf_196_22, fd_196_23, sf_196_23, fd_196_24, sf_196_24, fd_196_25, sf_196_25, fd_196_26, sf_196_26, fd_196_27, fd_196_28, fd_196_29, fd_196_30, sf_196_30, fd_196_31, fd_196_32, fd_196_33, fd_196_34, fd_196_35, fd_196_36, fd_196_37, sf_196_37, fd_196_38, fd_196_39, sf_196_39, fd_196_40, sf_196_40, fd_196_41, sf_196_41, fd_196_42, fd_196_43, fd_196_44, ld_208, sd_208, ln_208, nI_ltE, hn', ↓reduceIte, nI_add, pu_w]
    refine ih (n + 1) _ (by omega) fun m hm => ?_
    unfold pu
    split
    · rfl
    · exact hr m (by omega)
theorem fw_1 {w : Nat → Int32} {v1 : Int32} (H : ∀ o, wp (ev (d + 3)) P mo_flows 47 [some (.ref 196), some (.int v1), o] [] (E (upw g 197 (cmw w fun _ _ => 0)) q)) : ∀ (j n : Nat) (r : Nat → Int32), n + j = 256 → (∀ k, r k = if 340 ≤ k ∧ k < 340 + n then nI 0 else w k) →
    wp (ev (d + 3)) P mo_flows 23 [some (.ref 196), some (.int v1), some (.int (nI n))] [] (E (upw g 197 r) q) := by
  intro j
  induction j with
  | zero =>
    intro n r hn hr
    have hn : n = 256 := hn
    subst hn
    rw [b_mo_flows_23]
    simp -implicitDefEqProofs (disch := first | assumption | omega) only [szS_0, szS_i, szS_r, szS_l, x_cons, x_goto, ob_some, kl_i, kl_r, kl_l, kl_n, push_n, push_s, pop_0, pop_i, pop_r, Int.reduceToNat, List.length_cons, List.length_nil, Nat.reduceAdd, Nat.reduceLeDiff, Nat.zero_add, true_and, nI_n0, nat_le, Nat.add_zero, i_1, rt_mo_flows, x_al0, x_call, x_dup2, x_getf, x_goto, x_iadd, x_iaload, x_iastore, x_icge, x_icne, x_ifne, x_il1, x_il2, x_inc2, x_is2, x_ldc, x_vret, nI_ltE, Nat.lt_irrefl, ↓reduceIte]
    have : r = cmw w fun _ _ => 0 := by
      funext k
      rw [hr k]
      rfl
    rw [this]
    exact H _
  | succ j ih =>
    intro n r hn hr
    have hn' : n < 256 := by omega
    rw [b_mo_flows_23]
    simp -implicitDefEqProofs (disch := first | assumption | omega) only [szS_0, szS_i, szS_r, szS_l, x_cons, x_goto, ob_some, kl_i, kl_r, kl_l, kl_n, push_n, push_s, pop_0, pop_i, pop_r, Int.reduceToNat, List.length_cons, List.length_nil, Nat.reduceAdd, Nat.reduceLeDiff, Nat.zero_add, true_and, nI_n0, nat_le, Nat.add_zero, i_1, rt_mo_flows, x_al0, x_call, x_dup2, x_getf, x_goto, x_iadd, x_iaload, x_iastore, x_icge, x_icne, x_ifne, x_il1, x_il2, x_inc2, x_is2, x_ldc, x_vret, fd_196_0, fd_196_1, fd_196_2, fd_196_3, fd_196_4, sf_196_4, fd_196_5, sf_196_5, fd_196_6, fd_196_7, fd_196_8, fd_196_9, fd_196_10, fd_196_11, fd_196_12, sf_196_12, fd_196_13, sf_196_13, fd_196_14, sf_196_14, fd_196_15, sf_196_15, fd_196_16, sf_196_16, fd_196_17, sf_196_17, fd_196_18, sf_196_18, fd_196_19, sf_196_19, fd_196_20, sf_196_20, fd_196_21, sf_196_21, fd_196_22, sf_196_22, fd_196_23, sf_196_23, fd_196_24, sf_196_24, fd_196_25, sf_196_25, fd_196_26, sf_196_26, fd_196_27, fd_196_28, fd_196_29, fd_196_30, sf_196_30, fd_196_31, fd_196_32, fd_196_33, fd_196_34, fd_196_35, fd_196_36, fd_196_37, sf_196_37, fd_196_38, fd_196_39, sf_196_39, fd_196_40, sf_196_40, fd_196_41, sf_196_41, fd_196_42, fd_196_43, fd_196_44, ld_197, sd_197, ln_197, nI_ltE, hn', ↓reduceIte, nI_add, pu_w]
    refine ih (n + 1) _ (by omega) fun k => ?_
    unfold pu
    by_cases e : k = 340 + n
    · rw [if_pos e, if_pos (by omega)]
    · rw [if_neg e, hr k]
      by_cases e2 : 340 ≤ k ∧ k < 340 + n
      · rw [if_pos e2, if_pos (by omega)]
      · rw [if_neg e2, if_neg (by omega)]
theorem fw_2 {w : Nat → Int32} (hw : WI w) {fl : Nat} (hfl : fl ≤ 1998) {v1 : Int32} (H : ∀ r, P none (E (upw (upw g 208 r) 197 (flR w fl)) q)) : ∀ (j n : Nat) (r : Nat → Int32) (cc : Nat → Nat → Nat), n + j = nn w → (∀ m, m < 16 → r m = nI (cmN w (fun n => fd w n 5) fl n m)) → (∀ i j, i < 16 → j < 16 → cc i j = if i < n then cmF w (fun n => fd w n 5) fl i j else 0) →
    wp (ev (d + 3)) P mo_flows 56 [some (.ref 196), some (.int v1), some (.int (nI n))] [] (E (upw (upw g 208 r) 197 (cmw (flN w fl n) cc)) q) := by
  have h0 := wi_n hw
  have hop := opO_w hw
  intro j
  induction j with
  | zero =>
    intro n r cc hn hr hcc
    have hn : n = nn w := hn
    subst hn
    have e0 : flN w fl (nn w) 0 = nI (nn w) := by
      rw [flN_o (by decide) _ fun t ht => by omega]
      exact h0.1
    rw [b_mo_flows_56]
    simp -implicitDefEqProofs (disch := first | assumption | omega) only [szS_0, szS_i, szS_r, szS_l, x_cons, x_goto, ob_some, kl_i, kl_r, kl_l, kl_n, push_n, push_s, pop_0, pop_i, pop_r, Int.reduceToNat, List.length_cons, List.length_nil, Nat.reduceAdd, Nat.reduceLeDiff, Nat.zero_add, true_and, nI_n0, nat_le, Nat.add_zero, i_1, rt_mo_flows, x_al0, x_call, x_dup2, x_getf, x_goto, x_iadd, x_iaload, x_iastore, x_icge, x_icne, x_ifne, x_il1, x_il2, x_inc2, x_is2, x_ldc, x_vret, fd_196_0, fd_196_1, fd_196_2, fd_196_3, fd_196_4, sf_196_4, fd_196_5, sf_196_5, fd_196_6, fd_196_7, fd_196_8, fd_196_9, fd_196_10, fd_196_11, fd_196_12, sf_196_12, fd_196_13, sf_196_13, fd_196_14, sf_196_14, fd_196_15, sf_196_15, fd_196_16, sf_196_16, fd_196_17, sf_196_17, fd_196_18, sf_196_18, fd_196_19, sf_196_19, fd_196_20, sf_196_20, fd_196_21, sf_196_21, fd_196_22, sf_196_22, fd_196_23, sf_196_23, fd_196_24, sf_196_24, fd_196_25, sf_196_25, fd_196_26, sf_196_26, fd_196_27, fd_196_28, fd_196_29, fd_196_30, sf_196_30, fd_196_31, fd_196_32, fd_196_33, fd_196_34, fd_196_35, fd_196_36, fd_196_37, sf_196_37, fd_196_38, fd_196_39, sf_196_39, fd_196_40, sf_196_40, fd_196_41, sf_196_41, fd_196_42, fd_196_43, fd_196_44, ld_197, sd_197, ln_197, upw_s, cmw_o, e0, nI_ltE, Nat.lt_irrefl, ↓reduceIte, b_mo_flows_134]
    have : cmw (flN w fl (nn w)) cc = flR w fl := cmw_c hcc
    rw [this]
    exact H r
  | succ j ih =>
    intro n r cc hn hr hcc
    have hn' : n < nn w := by omega
    have hn16 : n < 16 := by omega
    have e0 : flN w fl n 0 = nI (nn w) := by
      rw [flN_o (by decide) _ fun t ht => by omega]
      exact h0.1
    have ef : ∀ f, f < 20 → flN w fl n (10 + 20 * n + f) = w (10 + 20 * n + f) := fun f hf => flN_o (by omega) _ fun t ht => by omega
    have es : flN w fl n (10 + 20 * n) = nI (fd w n 0) := (ef 0 (by decide)).trans (wi_0 hw hn16).1
    have hs2 := (wi_0 hw hn16).2
    have hcl := cm_le hw hop (fl := fl) hn16
    have hrn : r n = nI (cmA w (fun n => fd w n 5) fl n) := hr n hn16
    have hz : ∀ j, j < 16 → cc n j = 0 := fun j hj => by rw [hcc n j hn16 hj, if_neg (Nat.lt_irrefl n)]
    have e3 : flN w fl (n + 1) = if fd w n 0 = 0 then flN w fl n else if fd w n 0 = 1 then drk (flN w fl n) w (cmA w (fun n => fd w n 5) fl n) n else pu (flN w fl n) 3 (flN w fl n 3 + nI (cmA w (fun n => fd w n 5) fl n)) := rfl
    have fin : ∀ r cc', (∀ m, m < 16 → r m = nI (cmN w (fun n => fd w n 5) fl n m + cmF w (fun n => fd w n 5) fl n m)) → (∀ i j, i < 16 → j < 16 → cc' i j = if i = n then cmF w (fun n => fd w n 5) fl n j else cc i j) →
        wp (ev (d + 3)) P mo_flows 128 [some (.ref 196), some (.int v1), some (.int (nI n))] [] (E (upw (upw g 208 r) 197 (cmw (flN w fl (n + 1)) cc')) q) := by
      intro r cc' h1 h2
      rw [b_mo_flows_128]
      simp -implicitDefEqProofs (disch := first | assumption | omega) only [szS_0, szS_i, szS_r, szS_l, x_cons, x_goto, ob_some, kl_i, kl_r, kl_l, kl_n, push_n, push_s, pop_0, pop_i, pop_r, Int.reduceToNat, List.length_cons, List.length_nil, Nat.reduceAdd, Nat.reduceLeDiff, Nat.zero_add, true_and, nI_n0, nat_le, Nat.add_zero, i_1, rt_mo_flows, x_al0, x_call, x_dup2, x_getf, x_goto, x_iadd, x_iaload, x_iastore, x_icge, x_icne, x_ifne, x_il1, x_il2, x_inc2, x_is2, x_ldc, x_vret, nI_add]
      refine ih (n + 1) r cc' (by omega) h1 fun i j hi hj => ?_
      rw [h2 i j hi hj]
      by_cases e : i = n
      · rw [if_pos e, if_pos (by omega), e]
      · rw [if_neg e, hcc i j hi hj]
        by_cases e2 : i < n
        · rw [if_pos e2, if_pos (by omega)]
        · rw [if_neg e2, if_neg (by omega)]
    rw [b_mo_flows_56]
    simp -implicitDefEqProofs (disch := first | assumption | omega) only [szS_0, szS_i, szS_r, szS_l, x_cons, x_goto, ob_some, kl_i, kl_r, kl_l, kl_n, push_n, push_s, pop_0, pop_i, pop_r, Int.reduceToNat, List.length_cons, List.length_nil, Nat.reduceAdd, Nat.reduceLeDiff, Nat.zero_add, true_and, nI_n0, nat_le, Nat.add_zero, i_1, rt_mo_flows, x_al0, x_call, x_dup2, x_getf, x_goto, x_iadd, x_iaload, x_iastore, x_icge, x_icne, x_ifne, x_il1, x_il2, x_inc2, x_is2, x_ldc, x_vret, fd_196_0, fd_196_1, fd_196_2, fd_196_3, fd_196_4, sf_196_4, fd_196_5, sf_196_5, fd_196_6, fd_196_7, fd_196_8, fd_196_9, fd_196_10, fd_196_11, fd_196_12, sf_196_12, fd_196_13, sf_196_13, fd_196_14, sf_196_14, fd_196_15, sf_196_15, fd_196_16, sf_196_16, fd_196_17, sf_196_17, fd_196_18, sf_196_18, fd_196_19, sf_196_19, fd_196_20, sf_196_20, fd_196_21, sf_196_21, fd_196_22, sf_196_22, fd_196_23, sf_196_23, fd_196_24, sf_196_24, fd_196_25, sf_196_25, fd_196_26, sf_196_26, fd_196_27, fd_196_28, fd_196_29, fd_196_30, sf_196_30, fd_196_31, fd_196_32, fd_196_33, fd_196_34, fd_196_35, fd_196_36, fd_196_37, sf_196_37, fd_196_38, fd_196_39, sf_196_39, fd_196_40, sf_196_40, fd_196_41, sf_196_41, fd_196_42, fd_196_43, fd_196_44, ld_197, sd_197, ln_197, s_own, upw_s, cmw_o, e0, es, nI_ltE, hn', ↓reduceIte, nI_eqE]
    by_cases k0 : fd w n 0 = 0
    · simp only [k0, ↓reduceIte] at e3 ⊢
      have hx := (wi_x hw hn16).1
      have ho := hop n hn' k0
      simp -implicitDefEqProofs (disch := first | assumption | omega) only [szS_0, szS_i, szS_r, szS_l, x_cons, x_goto, ob_some, kl_i, kl_r, kl_l, kl_n, push_n, push_s, pop_0, pop_i, pop_r, Int.reduceToNat, List.length_cons, List.length_nil, Nat.reduceAdd, Nat.reduceLeDiff, Nat.zero_add, true_and, nI_n0, nat_le, Nat.add_zero, i_1, rt_mo_flows, x_al0, x_call, x_dup2, x_getf, x_goto, x_iadd, x_iaload, x_iastore, x_icge, x_icne, x_ifne, x_il1, x_il2, x_inc2, x_is2, x_ldc, x_vret, fd_196_0, fd_196_1, fd_196_2, fd_196_3, fd_196_4, sf_196_4, fd_196_5, sf_196_5, fd_196_6, fd_196_7, fd_196_8, fd_196_9, fd_196_10, fd_196_11, fd_196_12, sf_196_12, fd_196_13, sf_196_13, fd_196_14, sf_196_14, fd_196_15, sf_196_15, fd_196_16, sf_196_16, fd_196_17, sf_196_17, fd_196_18, sf_196_18, fd_196_19, sf_196_19, fd_196_20, sf_196_20, fd_196_21, sf_196_21, fd_196_22, sf_196_22, fd_196_23, sf_196_23, fd_196_24, sf_196_24, fd_196_25, sf_196_25, fd_196_26, sf_196_26, fd_196_27, fd_196_28, fd_196_29, fd_196_30, sf_196_30, fd_196_31, fd_196_32, fd_196_33, fd_196_34, fd_196_35, fd_196_36, fd_196_37, sf_196_37, fd_196_38, fd_196_39, sf_196_39, fd_196_40, sf_196_40, fd_196_41, sf_196_41, fd_196_42, fd_196_43, fd_196_44, ld_208, sd_208, ln_208, upw_o, upw_s, hrn]
      refine s_parts (u := flN w fl n) (c0 := cc) (r := r) hw hn16 (Nat.le_trans hcl hfl) hx.2 (by rw [ef 1 (by decide)]; exact (wi_1 hw hn16).1) (by rw [ef 5 (by decide)]; exact hx.1) (by rw [flN_o (by decide) _ fun t ht => by omega]; exact (wi_7 hw).1) (fun a ha => by
        have := am_le hw hn16
        rw [ef (2 + a) (by omega)]
        exact (wi_t hw hn16 (by omega)).1) (cnt_ex ho.1 ho.2) hz (R := fun m => cmN w (fun n => fd w n 5) fl n m) hr fun r' cc' h1 h2 => ?_
      have hF : ∀ m, SF w (fd w n 5) (cmA w (fun n => fd w n 5) fl n) n m = cmF w (fun n => fd w n 5) fl n m := fun m => sm_c _ fun a _ => by
        unfold snt
        rw [if_pos k0]
      rw [← e3]
      simp -implicitDefEqProofs (disch := first | assumption | omega) only [szS_0, szS_i, szS_r, szS_l, x_cons, x_goto, ob_some, kl_i, kl_r, kl_l, kl_n, push_n, push_s, pop_0, pop_i, pop_r, Int.reduceToNat, List.length_cons, List.length_nil, Nat.reduceAdd, Nat.reduceLeDiff, Nat.zero_add, true_and, nI_n0, nat_le, Nat.add_zero, i_1, rt_mo_flows, x_al0, x_call, x_dup2, x_getf, x_goto, x_iadd, x_iaload, x_iastore, x_icge, x_icne, x_ifne, x_il1, x_il2, x_inc2, x_is2, x_ldc, x_vret]
      exact fin r' cc' (fun m hm => by rw [h1 m hm, hF]) fun i j hi hj => by rw [h2 i j hi hj, hF]
    · simp only [k0, ↓reduceIte] at e3 ⊢
      rw [b_mo_flows_89]
      simp -implicitDefEqProofs (disch := first | assumption | omega) only [szS_0, szS_i, szS_r, szS_l, x_cons, x_goto, ob_some, kl_i, kl_r, kl_l, kl_n, push_n, push_s, pop_0, pop_i, pop_r, Int.reduceToNat, List.length_cons, List.length_nil, Nat.reduceAdd, Nat.reduceLeDiff, Nat.zero_add, true_and, nI_n0, nat_le, Nat.add_zero, i_1, rt_mo_flows, x_al0, x_call, x_dup2, x_getf, x_goto, x_iadd, x_iaload, x_iastore, x_icge, x_icne, x_ifne, x_il1, x_il2, x_inc2, x_is2, x_ldc, x_vret, s_own, upw_s, cmw_o, es, nI_eqE]
      by_cases k1 : fd w n 0 = 1
      · simp only [k1, ↓reduceIte] at e3 ⊢
        simp -implicitDefEqProofs (disch := first | assumption | omega) only [szS_0, szS_i, szS_r, szS_l, x_cons, x_goto, ob_some, kl_i, kl_r, kl_l, kl_n, push_n, push_s, pop_0, pop_i, pop_r, Int.reduceToNat, List.length_cons, List.length_nil, Nat.reduceAdd, Nat.reduceLeDiff, Nat.zero_add, true_and, nI_n0, nat_le, Nat.add_zero, i_1, rt_mo_flows, x_al0, x_call, x_dup2, x_getf, x_goto, x_iadd, x_iaload, x_iastore, x_icge, x_icne, x_ifne, x_il1, x_il2, x_inc2, x_is2, x_ldc, x_vret, fd_196_0, fd_196_1, fd_196_2, fd_196_3, fd_196_4, sf_196_4, fd_196_5, sf_196_5, fd_196_6, fd_196_7, fd_196_8, fd_196_9, fd_196_10, fd_196_11, fd_196_12, sf_196_12, fd_196_13, sf_196_13, fd_196_14, sf_196_14, fd_196_15, sf_196_15, fd_196_16, sf_196_16, fd_196_17, sf_196_17, fd_196_18, sf_196_18, fd_196_19, sf_196_19, fd_196_20, sf_196_20, fd_196_21, sf_196_21, fd_196_22, sf_196_22, fd_196_23, sf_196_23, fd_196_24, sf_196_24, fd_196_25, sf_196_25, fd_196_26, sf_196_26, fd_196_27, fd_196_28, fd_196_29, fd_196_30, sf_196_30, fd_196_31, fd_196_32, fd_196_33, fd_196_34, fd_196_35, fd_196_36, fd_196_37, sf_196_37, fd_196_38, fd_196_39, sf_196_39, fd_196_40, sf_196_40, fd_196_41, sf_196_41, fd_196_42, fd_196_43, fd_196_44, ld_208, sd_208, ln_208, upw_o, upw_s, hrn]
        refine s_drinks (u := flN w fl n) (c0 := cc) (r := r) hw hn' k1 (Nat.le_trans hcl hfl) ef hz (R := fun m => cmN w (fun n => fd w n 5) fl n m) hr fun r' cc' h1 h2 => ?_
        have hF : ∀ m, cmF w (fun n => fd w n 5) fl n m = if tg w n 0 = m then snT w (cmA w (fun n => fd w n 5) fl n) n else 0 := fun m => by
          unfold cmF
          rw [(wi_T hw hn' k1).1]
          show 0 + (if tg w n 0 = m then snt w (fun n => fd w n 5) (cmA w (fun n => fd w n 5) fl n) n 0 else 0) = _
          unfold snt
          rw [if_neg k0, Nat.zero_add]
        rw [← e3]
        simp -implicitDefEqProofs (disch := first | assumption | omega) only [szS_0, szS_i, szS_r, szS_l, x_cons, x_goto, ob_some, kl_i, kl_r, kl_l, kl_n, push_n, push_s, pop_0, pop_i, pop_r, Int.reduceToNat, List.length_cons, List.length_nil, Nat.reduceAdd, Nat.reduceLeDiff, Nat.zero_add, true_and, nI_n0, nat_le, Nat.add_zero, i_1, rt_mo_flows, x_al0, x_call, x_dup2, x_getf, x_goto, x_iadd, x_iaload, x_iastore, x_icge, x_icne, x_ifne, x_il1, x_il2, x_inc2, x_is2, x_ldc, x_vret]
        exact fin r' cc' (fun m hm => by rw [h1 m hm, hF]) fun i j hi hj => by rw [h2 i j hi hj, hF]
      · simp only [k1, ↓reduceIte] at e3 ⊢
        rw [b_mo_flows_113]
        simp -implicitDefEqProofs (disch := first | assumption | omega) only [szS_0, szS_i, szS_r, szS_l, x_cons, x_goto, ob_some, kl_i, kl_r, kl_l, kl_n, push_n, push_s, pop_0, pop_i, pop_r, Int.reduceToNat, List.length_cons, List.length_nil, Nat.reduceAdd, Nat.reduceLeDiff, Nat.zero_add, true_and, nI_n0, nat_le, Nat.add_zero, i_1, rt_mo_flows, x_al0, x_call, x_dup2, x_getf, x_goto, x_iadd, x_iaload, x_iastore, x_icge, x_icne, x_ifne, x_il1, x_il2, x_inc2, x_is2, x_ldc, x_vret, fd_196_0, fd_196_1, fd_196_2, fd_196_3, fd_196_4, sf_196_4, fd_196_5, sf_196_5, fd_196_6, fd_196_7, fd_196_8, fd_196_9, fd_196_10, fd_196_11, fd_196_12, sf_196_12, fd_196_13, sf_196_13, fd_196_14, sf_196_14, fd_196_15, sf_196_15, fd_196_16, sf_196_16, fd_196_17, sf_196_17, fd_196_18, sf_196_18, fd_196_19, sf_196_19, fd_196_20, sf_196_20, fd_196_21, sf_196_21, fd_196_22, sf_196_22, fd_196_23, sf_196_23, fd_196_24, sf_196_24, fd_196_25, sf_196_25, fd_196_26, sf_196_26, fd_196_27, fd_196_28, fd_196_29, fd_196_30, sf_196_30, fd_196_31, fd_196_32, fd_196_33, fd_196_34, fd_196_35, fd_196_36, fd_196_37, sf_196_37, fd_196_38, fd_196_39, sf_196_39, fd_196_40, sf_196_40, fd_196_41, sf_196_41, fd_196_42, fd_196_43, fd_196_44, ld_197, sd_197, ln_197, ld_208, sd_208, ln_208, upw_o, upw_s, hrn, pu_w, cmw_o, cmw_p]
        rw [← e3]
        have h2 := ((wi_f hw hn16).2.2.2.1 hn').2.2 (by omega)
        have hF : ∀ m, cmF w (fun n => fd w n 5) fl n m = 0 := fun m => by
          unfold cmF am
          rw [h2]
          rfl
        refine fin r cc (fun m hm => by rw [hr m hm, hF, Nat.add_zero]) fun i j hi hj => ?_
        rw [hF]
        split
        next e => rw [e, hz j hj]
        next => rfl
theorem s_flows (hw : WI (g 197)) {fl : Nat} (hfl : fl ≤ 1998) (H : ∀ r, P none (E (upw (upw g 208 r) 197 (flR (g 197) fl)) q)) : callC (ev (d + 4)) mo_flows [.ref 196, .int (nI fl)] (E g q) P := by
  refine in_mo_flows rfl ?_
  rw [b_mo_flows_0]
  simp -implicitDefEqProofs (disch := first | assumption | omega) only [szS_0, szS_i, szS_r, szS_l, x_cons, x_goto, ob_some, kl_i, kl_r, kl_l, kl_n, push_n, push_s, pop_0, pop_i, pop_r, Int.reduceToNat, List.length_cons, List.length_nil, Nat.reduceAdd, Nat.reduceLeDiff, Nat.zero_add, true_and, nI_n0, nat_le, Nat.add_zero, i_1, rt_mo_flows, x_al0, x_call, x_dup2, x_getf, x_goto, x_iadd, x_iaload, x_iastore, x_icge, x_icne, x_ifne, x_il1, x_il2, x_inc2, x_is2, x_ldc, x_vret]
  have e0 : E g q = E (upw g 208 (g 208)) q := by rw [upw_g]
  rw [e0]
  refine fw_0 (fun r o hr => ?_) 16 0 _ rfl fun m hm => absurd hm (Nat.not_lt_zero m)
  rw [b_mo_flows_21]
  simp -implicitDefEqProofs (disch := first | assumption | omega) only [szS_0, szS_i, szS_r, szS_l, x_cons, x_goto, ob_some, kl_i, kl_r, kl_l, kl_n, push_n, push_s, pop_0, pop_i, pop_r, Int.reduceToNat, List.length_cons, List.length_nil, Nat.reduceAdd, Nat.reduceLeDiff, Nat.zero_add, true_and, nI_n0, nat_le, Nat.add_zero, i_1, rt_mo_flows, x_al0, x_call, x_dup2, x_getf, x_goto, x_iadd, x_iaload, x_iastore, x_icge, x_icne, x_ifne, x_il1, x_il2, x_inc2, x_is2, x_ldc, x_vret]
  have e1 : E (upw g 208 r) q = E (upw (upw g 208 r) 197 (g 197)) q := by
    rw [show g 197 = upw g 208 r 197 from (upw_o (by decide)).symm, upw_g]
  rw [e1]
  refine fw_1 (w := g 197) (fun o => ?_) 256 0 _ rfl fun k => by rw [if_neg (by omega)]
  rw [b_mo_flows_47]
  simp -implicitDefEqProofs (disch := first | assumption | omega) only [szS_0, szS_i, szS_r, szS_l, x_cons, x_goto, ob_some, kl_i, kl_r, kl_l, kl_n, push_n, push_s, pop_0, pop_i, pop_r, Int.reduceToNat, List.length_cons, List.length_nil, Nat.reduceAdd, Nat.reduceLeDiff, Nat.zero_add, true_and, nI_n0, nat_le, Nat.add_zero, i_1, rt_mo_flows, x_al0, x_call, x_dup2, x_getf, x_goto, x_iadd, x_iaload, x_iastore, x_icge, x_icne, x_ifne, x_il1, x_il2, x_inc2, x_is2, x_ldc, x_vret, fd_196_0, fd_196_1, fd_196_2, fd_196_3, fd_196_4, sf_196_4, fd_196_5, sf_196_5, fd_196_6, fd_196_7, fd_196_8, fd_196_9, fd_196_10, fd_196_11, fd_196_12, sf_196_12, fd_196_13, sf_196_13, fd_196_14, sf_196_14, fd_196_15, sf_196_15, fd_196_16, sf_196_16, fd_196_17, sf_196_17, fd_196_18, sf_196_18, fd_196_19, sf_196_19, fd_196_20, sf_196_20, fd_196_21, sf_196_21, fd_196_22, sf_196_22, fd_196_23, sf_196_23, fd_196_24, sf_196_24, fd_196_25, sf_196_25, fd_196_26, sf_196_26, fd_196_27, fd_196_28, fd_196_29, fd_196_30, sf_196_30, fd_196_31, fd_196_32, fd_196_33, fd_196_34, fd_196_35, fd_196_36, fd_196_37, sf_196_37, fd_196_38, fd_196_39, sf_196_39, fd_196_40, sf_196_40, fd_196_41, sf_196_41, fd_196_42, fd_196_43, fd_196_44, ld_208, sd_208, ln_208, pu_g, upw_o, upw_s]
  rw [upw_c (show (197 : Nat) ≠ 208 by decide)]
  simp only [upw_w]
  refine fw_2 hw hfl H (nn (g 197)) 0 _ (fun _ _ => 0) (Nat.zero_add _) (fun m hm => ?_) fun i j _ _ => by rw [if_neg (Nat.not_lt_zero i)]
  show (if m = 0 then nI fl else r m) = nI (if m = 0 then fl else 0)
  split
  · rfl
  · exact hr m hm
end MI
