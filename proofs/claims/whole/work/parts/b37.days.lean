/-! the reference's days, and days undone -/
theorem flR_o {w : Nat → Int32} (hw : WI w) {fl k : Nat} (h3 : k ≠ 3) (h : k < 22 ∨ 330 ≤ k) (h2 : k < 340 ∨ 596 ≤ k) : flR w fl k = w k := by
  have h0 := wi_n hw
  show cmw _ _ k = _
  rw [cmw_o h2]
  exact flN_o h3 _ fun t ht => by omega
theorem flR_stc {w : Nat → Int32} (hw : WI w) {fl : Nat} : stc w (flR w fl) :=
  ⟨flR_o hw (by decide) (by omega) (by omega), fun n f hn hf => by
    have h0 := wi_n hw
    show cmw _ _ _ = _
    rw [cmw_o (by omega)]
    exact flN_t (by omega)⟩
theorem alR_o {M : LW} {w : Nat → Int32} (hw : WI w) {k : Nat} (h : k < 20 ∨ 330 ≤ k) : alR M w k = w k := by
  have h0 := wi_n hw
  unfold alR
  split
  · rfl
  next e =>
    have := (wtt_l (w := w) (nn w)).resolve_left e
    exact mvR_o _ (fun t ht => by omega) (by omega)
theorem ev4_o {V : LW} {w : Nat → Int32} (hw : WI w) {k : Nat} (h4 : k ≠ 4) (h2 : k ≠ 2) (h : k < 10 ∨ 330 ≤ k) (hk : k < 600 ∨ 1200 ≤ k) : ev4 V w k = w k := by
  have h0 := wi_n hw
  unfold ev4
  rw [pu_n h4]
  exact evS_o hw h2 hk (fun f hf => ⟨fun a ha => by omega, by omega, by omega⟩) _ (Nat.le_refl _)
/-- what a day leaves -/
theorem dyR_o {V M : LW} {w : Nat → Int32} (hw : WI w) {fl k : Nat} (hfl : fl ≤ 1998) (h1 : k ≠ 1) (h3 : k ≠ 3) (h4 : k ≠ 4) (h2 : k ≠ 2) (h : k < 10 ∨ 330 ≤ k) (hk : k < 340 ∨ (596 ≤ k ∧ k < 600) ∨ 1200 ≤ k) : dyR V M fl w k = w k := by
  have hf := flR_wi hw hfl
  unfold dyR
  rw [pu_n h1, alR_o (ev4_wi hf) (by omega), ev4_o hf h4 h2 h (by omega), flR_o hw h3 (by omega) (by omega)]
theorem dyR_1 {V M : LW} {w : Nat → Int32} (hw : WI w) {fl : Nat} (hfl : fl ≤ 1998) : dyR V M fl w 1 = w 1 + nI 1 := by
  have hf := flR_wi hw hfl
  unfold dyR
  rw [pu_s, alR_o (ev4_wi hf) (by omega), ev4_o hf (by decide) (by decide) (by omega) (by omega), flR_o hw (by decide) (by omega) (by omega)]
theorem dyR_4 {V M : LW} {w : Nat → Int32} (hw : WI w) {fl : Nat} (hfl : fl ≤ 1998) : dyR V M fl w 4 = w 4 + nI (flc V (flR w fl) (nn w)) := by
  have hf := flR_wi hw hfl
  have h0 := wi_n hf
  have e0 : nn (flR w fl) = nn w := stc_nn (flR_stc hw)
  unfold dyR
  rw [pu_n (by decide), alR_o (ev4_wi hf) (by omega)]
  unfold ev4
  rw [pu_s, evS_o hf (by decide) (by omega) (fun f hf => ⟨fun a ha => by omega, by omega, by omega⟩) _ (Nat.le_refl _), flR_o hw (by decide) (by omega) (by omega), e0]
theorem flN_s {w : Nat → Int32} {fl : Nat} : ∀ n, sumH (flN w fl n) 16 = sumH w 16 := fun n => sumH_c 16 fun t _ => fd_c (flN_t (by omega))
theorem dyR_s {V M : LW} {w : Nat → Int32} (hw : WI w) {fl : Nat} (hfl : fl ≤ 1998) : sumH (dyR V M fl w) 16 = sumH w 16 := by
  have hf := flR_wi hw hfl
  have h0 := wi_n hf
  unfold dyR
  rw [sumH_c (w := alR M (ev4 V (flR w fl))) 16 fun t _ => fd_pu_n (by omega), (alR_wi (ev4_wi hf)).2]
  rw [sumH_c (w := flR w fl) 16 fun t ht => fd_c (by
    unfold ev4
    rw [pu_n (by omega)]
    exact evS_o hf (by omega) (by omega) (fun f hf => ⟨fun a ha => by omega, by omega, by omega⟩) _ (Nat.le_refl _))]
  have e9 : sumH (flR w fl) 16 = sumH (flN w fl (nn w)) 16 := sumH_c 16 fun t ht => fd_c (show cmw _ _ _ = _ from cmw_o (by omega))
  rw [e9, flN_s]
theorem dyR_stc {V M : LW} {w : Nat → Int32} (hw : WI w) {fl : Nat} (hfl : fl ≤ 1998) : stc w (dyR V M fl w) := by
  have hf := flR_wi hw hfl
  have h4 := ev4_wi hf (V := V)
  have h0 := wi_n h4
  refine stc_t (flR_stc hw (fl := fl)) (stc_t (ev4_stc hf (V := V)) ⟨?_, fun n f hn hf => ?_⟩)
  · unfold dyR
    rw [pu_n (by decide), alR_o h4 (by omega)]
  · unfold dyR
    rw [pu_n (by omega)]
    unfold alR
    split
    · rfl
    next e => exact mvR_f (by omega) (by omega)
/-- a draw of 1000, before it the state s -/
def dI (s : Int32) : Int32 := (s.toUInt32 >>> ((nI 8).toUInt32 &&& Int32.toUInt32 31)).toInt32 - (s.toUInt32 >>> ((nI 8).toUInt32 &&& Int32.toUInt32 31)).toInt32 / nI 1000 * nI 1000
def drn (w : Nat → Int32) : Int32 := nI 1664525 * w 5 + nI 1013904223
def drq (w : Nat → Int32) : Bool := decide (vN w 8 = 0 ∧ vN w 9 = 0)
def drw (w : Nat → Int32) : Nat → Int32 := if drq w = true then w else pu w 5 (drn w)
/-- the day's FLOW -/
def flw (w : Nat → Int32) : Nat := if drq w = true then vN w 6 else if dI (drn w) < nI (vN w 8) then vN w 6 / 2 else if dI (drn w) < nI (vN w 8 + vN w 9) then 2 * vN w 6 else vN w 6
theorem flw_l {w : Nat → Int32} (h : WI w) : flw w ≤ 1998 := by
  have := (wi_6 h).2
  unfold flw
  repeat' split
  all_goals omega
theorem drw_wi {w : Nat → Int32} (h : WI w) : WI (drw w) := by
  unfold drw
  split
  · exact h
  · exact WI_pu_o h (by omega)
theorem drw_o {w : Nat → Int32} {k : Nat} (h : k ≠ 5) : drw w k = w k := by
  unfold drw
  split
  · rfl
  · exact pu_n h
/-- a day with its draw -/
def dy1 (V M : LW) (w : Nat → Int32) : Nat → Int32 := dyR V M (flw w) (drw w)
def dyN (V M : LW) : Nat → (Nat → Int32) → Nat → Int32
  | 0, w => w
  | n + 1, w => dyN V M n (dy1 V M w)
theorem dy1_wi {V M : LW} {w : Nat → Int32} (h : WI w) : WI (dy1 V M w) := dyR_wi (drw_wi h) (flw_l h)
theorem dy1_1 {V M : LW} {w : Nat → Int32} (h : WI w) : dy1 V M w 1 = w 1 + nI 1 := by
  unfold dy1
  rw [dyR_1 (drw_wi h) (flw_l h), drw_o (by decide)]
theorem dy1_o {V M : LW} {w : Nat → Int32} (h : WI w) {k : Nat} (hk : 1200 ≤ k) : dy1 V M w k = w k := by
  unfold dy1
  rw [dyR_o (drw_wi h) (flw_l h) (by omega) (by omega) (by omega) (by omega) (by omega) (by omega), drw_o (by omega)]
theorem dy1_s {V M : LW} {w : Nat → Int32} (h : WI w) : sumH (dy1 V M w) 16 = sumH w 16 := by
  unfold dy1
  rw [dyR_s (drw_wi h) (flw_l h)]
  exact sumH_c 16 fun t ht => fd_c (drw_o (by omega))
theorem dy1_stc {V M : LW} {w : Nat → Int32} (h : WI w) : stc w (dy1 V M w) :=
  stc_t ⟨drw_o (by decide), fun n f hn hf => drw_o (by omega)⟩ (dyR_stc (drw_wi h) (flw_l h))
/-- the rows that can be gone back to, the newest first -/
abbrev PL : Type := List (Nat → Int32)
def BR (b : Nat → Int32) (pl : PL) : Prop := ∀ i r, pl[i]? = some r → ∀ k, k < 596 → b (596 * (pl.length - 1 - i) + k) = r k
def kpL (w : Nat → Int32) (pl : PL) : PL := w :: pl.take 4
theorem kpL_l {w : Nat → Int32} {pl : PL} (h : pl.length ≤ 5) : (kpL w pl).length = if pl.length = 5 then 5 else pl.length + 1 := by
  unfold kpL
  rw [List.length_cons, List.length_take]
  split <;> omega
section MM
variable {d : Nat} {g : Nat → Nat → Int32} {q : Nat → Nat → Int64} {P : QT}
theorem s_draw (hw : WI (g 197)) : callC (ev (d + 1)) mo_draw [.ref 196, .int (nI 1000)] (E g q) P = P (some (.int (dI (drn (g 197))))) (E (upw g 197 (pu (g 197) 5 (drn (g 197)))) q) := by
  refine call_eq (in_mo_draw rfl ?_)
  have hz := nI_ne (a := 1000) (by decide) (by decide)
  rw [b_mo_draw_0]
  simp -implicitDefEqProofs (disch := first | assumption | omega) only [szS_0, szS_i, szS_r, szS_l, x_cons, x_goto, ob_some, kl_i, kl_r, kl_l, kl_n, push_n, push_s, pop_0, pop_i, pop_r, Int.reduceToNat, List.length_cons, List.length_nil, Nat.reduceAdd, Nat.reduceLeDiff, Nat.zero_add, true_and, nI_n0, nat_le, Nat.add_zero, rt_mo_draw, x_al0, x_getf, x_iadd, x_iaload, x_iastore, x_il1, x_imul, x_irem, x_iret, x_iushr, x_ldc, fd_196_0, fd_196_1, fd_196_2, fd_196_3, fd_196_4, sf_196_4, fd_196_5, sf_196_5, fd_196_6, fd_196_7, fd_196_8, fd_196_9, fd_196_10, fd_196_11, fd_196_12, sf_196_12, fd_196_13, sf_196_13, fd_196_14, sf_196_14, fd_196_15, sf_196_15, fd_196_16, sf_196_16, fd_196_17, sf_196_17, fd_196_18, sf_196_18, fd_196_19, sf_196_19, fd_196_20, sf_196_20, fd_196_21, sf_196_21, fd_196_22, sf_196_22, fd_196_23, sf_196_23, fd_196_24, sf_196_24, fd_196_25, sf_196_25, fd_196_26, sf_196_26, fd_196_27, fd_196_28, fd_196_29, fd_196_30, sf_196_30, fd_196_31, fd_196_32, fd_196_33, fd_196_34, fd_196_35, fd_196_36, fd_196_37, sf_196_37, fd_196_38, fd_196_39, sf_196_39, fd_196_40, sf_196_40, fd_196_41, sf_196_41, fd_196_42, fd_196_43, fd_196_44, ld_197, sd_197, ln_197, pu_g, upw_s, pu_s]
  unfold dI drn
  exact ⟨rfl, rfl⟩
theorem s_drawnFlow (hw : WI (g 197)) : callC (ev (d + 2)) mo_drawnFlow [.ref 196] (E g q) P = P (some (.int (nI (flw (g 197))))) (E (upw g 197 (drw (g 197))) q) := by
  refine call_eq (in_mo_drawnFlow rfl ?_)
  have h6 := wi_6 hw
  have h8 := wi_8 hw
  have h9 := wi_9 hw
  have hz := nI_ne (a := 2) (by decide) (by decide)
  have big : drq (g 197) = false → wp (ev (d + 1)) (fun r1 h1 => r1 = some (.int (nI (flw (g 197)))) ∧ h1 = E (upw g 197 (drw (g 197))) q) mo_drawnFlow 28 [some (.ref 196), none] [] (E g q) := by
    intro hq
    have e1 : drw (g 197) = pu (g 197) 5 (drn (g 197)) := by
      unfold drw
      rw [hq, if_neg Bool.false_ne_true]
    have e2 : flw (g 197) = if dI (drn (g 197)) < nI (vN (g 197) 8) then vN (g 197) 6 / 2 else if dI (drn (g 197)) < nI (vN (g 197) 8 + vN (g 197) 9) then 2 * vN (g 197) 6 else vN (g 197) 6 := by
      unfold flw
      rw [hq, if_neg Bool.false_ne_true]
    rw [b_mo_drawnFlow_28]
    simp -implicitDefEqProofs (disch := first | assumption | omega) only [szS_0, szS_i, szS_r, szS_l, x_cons, x_goto, ob_some, kl_i, kl_r, kl_l, kl_n, push_n, push_s, pop_0, pop_i, pop_r, Int.reduceToNat, List.length_cons, List.length_nil, Nat.reduceAdd, Nat.reduceLeDiff, Nat.zero_add, true_and, nI_n0, nat_le, Nat.add_zero, rt_mo_drawnFlow, x_al0, x_call, x_getf, x_goto, x_iadd, x_iaload, x_icge, x_idiv, x_ifne, x_il1, x_imul, x_iret, x_is1, x_ldc, s_draw, fd_196_0, fd_196_1, fd_196_2, fd_196_3, fd_196_4, sf_196_4, fd_196_5, sf_196_5, fd_196_6, fd_196_7, fd_196_8, fd_196_9, fd_196_10, fd_196_11, fd_196_12, sf_196_12, fd_196_13, sf_196_13, fd_196_14, sf_196_14, fd_196_15, sf_196_15, fd_196_16, sf_196_16, fd_196_17, sf_196_17, fd_196_18, sf_196_18, fd_196_19, sf_196_19, fd_196_20, sf_196_20, fd_196_21, sf_196_21, fd_196_22, sf_196_22, fd_196_23, sf_196_23, fd_196_24, sf_196_24, fd_196_25, sf_196_25, fd_196_26, sf_196_26, fd_196_27, fd_196_28, fd_196_29, fd_196_30, sf_196_30, fd_196_31, fd_196_32, fd_196_33, fd_196_34, fd_196_35, fd_196_36, fd_196_37, sf_196_37, fd_196_38, fd_196_39, sf_196_39, fd_196_40, sf_196_40, fd_196_41, sf_196_41, fd_196_42, fd_196_43, fd_196_44, ld_197, sd_197, ln_197, upw_s, pu_n, h8.1]
    rw [← e1]
    by_cases ha : dI (drn (g 197)) < nI (vN (g 197) 8)
    · rw [if_pos ha] at e2
      simp only [ha, ↓reduceIte]
      simp -implicitDefEqProofs (disch := first | assumption | omega) only [szS_0, szS_i, szS_r, szS_l, x_cons, x_goto, ob_some, kl_i, kl_r, kl_l, kl_n, push_n, push_s, pop_0, pop_i, pop_r, Int.reduceToNat, List.length_cons, List.length_nil, Nat.reduceAdd, Nat.reduceLeDiff, Nat.zero_add, true_and, nI_n0, nat_le, Nat.add_zero, rt_mo_drawnFlow, x_al0, x_call, x_getf, x_goto, x_iadd, x_iaload, x_icge, x_idiv, x_ifne, x_il1, x_imul, x_iret, x_is1, x_ldc, fd_196_0, fd_196_1, fd_196_2, fd_196_3, fd_196_4, sf_196_4, fd_196_5, sf_196_5, fd_196_6, fd_196_7, fd_196_8, fd_196_9, fd_196_10, fd_196_11, fd_196_12, sf_196_12, fd_196_13, sf_196_13, fd_196_14, sf_196_14, fd_196_15, sf_196_15, fd_196_16, sf_196_16, fd_196_17, sf_196_17, fd_196_18, sf_196_18, fd_196_19, sf_196_19, fd_196_20, sf_196_20, fd_196_21, sf_196_21, fd_196_22, sf_196_22, fd_196_23, sf_196_23, fd_196_24, sf_196_24, fd_196_25, sf_196_25, fd_196_26, sf_196_26, fd_196_27, fd_196_28, fd_196_29, fd_196_30, sf_196_30, fd_196_31, fd_196_32, fd_196_33, fd_196_34, fd_196_35, fd_196_36, fd_196_37, sf_196_37, fd_196_38, fd_196_39, sf_196_39, fd_196_40, sf_196_40, fd_196_41, sf_196_41, fd_196_42, fd_196_43, fd_196_44, ld_197, sd_197, ln_197, upw_s, drw_o, h6.1, nI_div, b_mo_drawnFlow_97]
      rw [e2]
      all_goals first | rfl | exact ⟨rfl, rfl⟩ | exact ⟨rfl, trivial⟩ | exact ⟨trivial, rfl⟩ | trivial
    · rw [if_neg ha] at e2
      simp only [ha, ↓reduceIte]
      simp -implicitDefEqProofs (disch := first | assumption | omega) only [b_mo_drawnFlow_59, szS_0, szS_i, szS_r, szS_l, x_cons, x_goto, ob_some, kl_i, kl_r, kl_l, kl_n, push_n, push_s, pop_0, pop_i, pop_r, Int.reduceToNat, List.length_cons, List.length_nil, Nat.reduceAdd, Nat.reduceLeDiff, Nat.zero_add, true_and, nI_n0, nat_le, Nat.add_zero, rt_mo_drawnFlow, x_al0, x_call, x_getf, x_goto, x_iadd, x_iaload, x_icge, x_idiv, x_ifne, x_il1, x_imul, x_iret, x_is1, x_ldc, fd_196_0, fd_196_1, fd_196_2, fd_196_3, fd_196_4, sf_196_4, fd_196_5, sf_196_5, fd_196_6, fd_196_7, fd_196_8, fd_196_9, fd_196_10, fd_196_11, fd_196_12, sf_196_12, fd_196_13, sf_196_13, fd_196_14, sf_196_14, fd_196_15, sf_196_15, fd_196_16, sf_196_16, fd_196_17, sf_196_17, fd_196_18, sf_196_18, fd_196_19, sf_196_19, fd_196_20, sf_196_20, fd_196_21, sf_196_21, fd_196_22, sf_196_22, fd_196_23, sf_196_23, fd_196_24, sf_196_24, fd_196_25, sf_196_25, fd_196_26, sf_196_26, fd_196_27, fd_196_28, fd_196_29, fd_196_30, sf_196_30, fd_196_31, fd_196_32, fd_196_33, fd_196_34, fd_196_35, fd_196_36, fd_196_37, sf_196_37, fd_196_38, fd_196_39, sf_196_39, fd_196_40, sf_196_40, fd_196_41, sf_196_41, fd_196_42, fd_196_43, fd_196_44, ld_197, sd_197, ln_197, upw_s, drw_o, h8.1, h9.1, nI_add]
      by_cases hb : dI (drn (g 197)) < nI (vN (g 197) 8 + vN (g 197) 9)
      · rw [if_pos hb] at e2
        simp only [hb, ↓reduceIte]
        simp -implicitDefEqProofs (disch := first | assumption | omega) only [szS_0, szS_i, szS_r, szS_l, x_cons, x_goto, ob_some, kl_i, kl_r, kl_l, kl_n, push_n, push_s, pop_0, pop_i, pop_r, Int.reduceToNat, List.length_cons, List.length_nil, Nat.reduceAdd, Nat.reduceLeDiff, Nat.zero_add, true_and, nI_n0, nat_le, Nat.add_zero, rt_mo_drawnFlow, x_al0, x_call, x_getf, x_goto, x_iadd, x_iaload, x_icge, x_idiv, x_ifne, x_il1, x_imul, x_iret, x_is1, x_ldc, fd_196_0, fd_196_1, fd_196_2, fd_196_3, fd_196_4, sf_196_4, fd_196_5, sf_196_5, fd_196_6, fd_196_7, fd_196_8, fd_196_9, fd_196_10, fd_196_11, fd_196_12, sf_196_12, fd_196_13, sf_196_13, fd_196_14, sf_196_14, fd_196_15, sf_196_15, fd_196_16, sf_196_16, fd_196_17, sf_196_17, fd_196_18, sf_196_18, fd_196_19, sf_196_19, fd_196_20, sf_196_20, fd_196_21, sf_196_21, fd_196_22, sf_196_22, fd_196_23, sf_196_23, fd_196_24, sf_196_24, fd_196_25, sf_196_25, fd_196_26, sf_196_26, fd_196_27, fd_196_28, fd_196_29, fd_196_30, sf_196_30, fd_196_31, fd_196_32, fd_196_33, fd_196_34, fd_196_35, fd_196_36, fd_196_37, sf_196_37, fd_196_38, fd_196_39, sf_196_39, fd_196_40, sf_196_40, fd_196_41, sf_196_41, fd_196_42, fd_196_43, fd_196_44, ld_197, sd_197, ln_197, upw_s, drw_o, h6.1, nI_mul, b_mo_drawnFlow_97]
        rw [e2]
        all_goals first | rfl | exact ⟨rfl, rfl⟩ | exact ⟨rfl, trivial⟩ | exact ⟨trivial, rfl⟩ | trivial
      · rw [if_neg hb] at e2
        simp only [hb, ↓reduceIte]
        simp -implicitDefEqProofs (disch := first | assumption | omega) only [b_mo_drawnFlow_90, b_mo_drawnFlow_97, szS_0, szS_i, szS_r, szS_l, x_cons, x_goto, ob_some, kl_i, kl_r, kl_l, kl_n, push_n, push_s, pop_0, pop_i, pop_r, Int.reduceToNat, List.length_cons, List.length_nil, Nat.reduceAdd, Nat.reduceLeDiff, Nat.zero_add, true_and, nI_n0, nat_le, Nat.add_zero, rt_mo_drawnFlow, x_al0, x_call, x_getf, x_goto, x_iadd, x_iaload, x_icge, x_idiv, x_ifne, x_il1, x_imul, x_iret, x_is1, x_ldc, fd_196_0, fd_196_1, fd_196_2, fd_196_3, fd_196_4, sf_196_4, fd_196_5, sf_196_5, fd_196_6, fd_196_7, fd_196_8, fd_196_9, fd_196_10, fd_196_11, fd_196_12, sf_196_12, fd_196_13, sf_196_13, fd_196_14, sf_196_14, fd_196_15, sf_196_15, fd_196_16, sf_196_16, fd_196_17, sf_196_17, fd_196_18, sf_196_18, fd_196_19, sf_196_19, fd_196_20, sf_196_20, fd_196_21, sf_196_21, fd_196_22, sf_196_22, fd_196_23, sf_196_23, fd_196_24, sf_196_24, fd_196_25, sf_196_25, fd_196_26, sf_196_26, fd_196_27, fd_196_28, fd_196_29, fd_196_30, sf_196_30, fd_196_31, fd_196_32, fd_196_33, fd_196_34, fd_196_35, fd_196_36, fd_196_37, sf_196_37, fd_196_38, fd_196_39, sf_196_39, fd_196_40, sf_196_40, fd_196_41, sf_196_41, fd_196_42, fd_196_43, fd_196_44, ld_197, sd_197, ln_197, upw_s, drw_o, h6.1]
        rw [e2]
        all_goals first | rfl | exact ⟨rfl, rfl⟩ | exact ⟨rfl, trivial⟩ | exact ⟨trivial, rfl⟩ | trivial
  rw [b_mo_drawnFlow_0]
  simp -implicitDefEqProofs (disch := first | assumption | omega) only [szS_0, szS_i, szS_r, szS_l, x_cons, x_goto, ob_some, kl_i, kl_r, kl_l, kl_n, push_n, push_s, pop_0, pop_i, pop_r, Int.reduceToNat, List.length_cons, List.length_nil, Nat.reduceAdd, Nat.reduceLeDiff, Nat.zero_add, true_and, nI_n0, nat_le, Nat.add_zero, rt_mo_drawnFlow, x_al0, x_call, x_getf, x_goto, x_iadd, x_iaload, x_icge, x_idiv, x_ifne, x_il1, x_imul, x_iret, x_is1, x_ldc, fd_196_0, fd_196_1, fd_196_2, fd_196_3, fd_196_4, sf_196_4, fd_196_5, sf_196_5, fd_196_6, fd_196_7, fd_196_8, fd_196_9, fd_196_10, fd_196_11, fd_196_12, sf_196_12, fd_196_13, sf_196_13, fd_196_14, sf_196_14, fd_196_15, sf_196_15, fd_196_16, sf_196_16, fd_196_17, sf_196_17, fd_196_18, sf_196_18, fd_196_19, sf_196_19, fd_196_20, sf_196_20, fd_196_21, sf_196_21, fd_196_22, sf_196_22, fd_196_23, sf_196_23, fd_196_24, sf_196_24, fd_196_25, sf_196_25, fd_196_26, sf_196_26, fd_196_27, fd_196_28, fd_196_29, fd_196_30, sf_196_30, fd_196_31, fd_196_32, fd_196_33, fd_196_34, fd_196_35, fd_196_36, fd_196_37, sf_196_37, fd_196_38, fd_196_39, sf_196_39, fd_196_40, sf_196_40, fd_196_41, sf_196_41, fd_196_42, fd_196_43, fd_196_44, ld_197, sd_197, ln_197, h8.1, nI_eqE]
  by_cases h80 : vN (g 197) 8 = 0
  · simp only [h80, ↓reduceIte]
    simp -implicitDefEqProofs (disch := first | assumption | omega) only [szS_0, szS_i, szS_r, szS_l, x_cons, x_goto, ob_some, kl_i, kl_r, kl_l, kl_n, push_n, push_s, pop_0, pop_i, pop_r, Int.reduceToNat, List.length_cons, List.length_nil, Nat.reduceAdd, Nat.reduceLeDiff, Nat.zero_add, true_and, nI_n0, nat_le, Nat.add_zero, rt_mo_drawnFlow, x_al0, x_call, x_getf, x_goto, x_iadd, x_iaload, x_icge, x_idiv, x_ifne, x_il1, x_imul, x_iret, x_is1, x_ldc, fd_196_0, fd_196_1, fd_196_2, fd_196_3, fd_196_4, sf_196_4, fd_196_5, sf_196_5, fd_196_6, fd_196_7, fd_196_8, fd_196_9, fd_196_10, fd_196_11, fd_196_12, sf_196_12, fd_196_13, sf_196_13, fd_196_14, sf_196_14, fd_196_15, sf_196_15, fd_196_16, sf_196_16, fd_196_17, sf_196_17, fd_196_18, sf_196_18, fd_196_19, sf_196_19, fd_196_20, sf_196_20, fd_196_21, sf_196_21, fd_196_22, sf_196_22, fd_196_23, sf_196_23, fd_196_24, sf_196_24, fd_196_25, sf_196_25, fd_196_26, sf_196_26, fd_196_27, fd_196_28, fd_196_29, fd_196_30, sf_196_30, fd_196_31, fd_196_32, fd_196_33, fd_196_34, fd_196_35, fd_196_36, fd_196_37, sf_196_37, fd_196_38, fd_196_39, sf_196_39, fd_196_40, sf_196_40, fd_196_41, sf_196_41, fd_196_42, fd_196_43, fd_196_44, ld_197, sd_197, ln_197, h9.1, nI_eqE]
    by_cases h90 : vN (g 197) 9 = 0
    · have hq : drq (g 197) = true := decide_eq_true ⟨h80, h90⟩
      have e1 : drw (g 197) = g 197 := if_pos hq
      have e2 : flw (g 197) = vN (g 197) 6 := if_pos hq
      simp only [h90, ↓reduceIte]
      simp -implicitDefEqProofs (disch := first | assumption | omega) only [szS_0, szS_i, szS_r, szS_l, x_cons, x_goto, ob_some, kl_i, kl_r, kl_l, kl_n, push_n, push_s, pop_0, pop_i, pop_r, Int.reduceToNat, List.length_cons, List.length_nil, Nat.reduceAdd, Nat.reduceLeDiff, Nat.zero_add, true_and, nI_n0, nat_le, Nat.add_zero, rt_mo_drawnFlow, x_al0, x_call, x_getf, x_goto, x_iadd, x_iaload, x_icge, x_idiv, x_ifne, x_il1, x_imul, x_iret, x_is1, x_ldc, fd_196_0, fd_196_1, fd_196_2, fd_196_3, fd_196_4, sf_196_4, fd_196_5, sf_196_5, fd_196_6, fd_196_7, fd_196_8, fd_196_9, fd_196_10, fd_196_11, fd_196_12, sf_196_12, fd_196_13, sf_196_13, fd_196_14, sf_196_14, fd_196_15, sf_196_15, fd_196_16, sf_196_16, fd_196_17, sf_196_17, fd_196_18, sf_196_18, fd_196_19, sf_196_19, fd_196_20, sf_196_20, fd_196_21, sf_196_21, fd_196_22, sf_196_22, fd_196_23, sf_196_23, fd_196_24, sf_196_24, fd_196_25, sf_196_25, fd_196_26, sf_196_26, fd_196_27, fd_196_28, fd_196_29, fd_196_30, sf_196_30, fd_196_31, fd_196_32, fd_196_33, fd_196_34, fd_196_35, fd_196_36, fd_196_37, sf_196_37, fd_196_38, fd_196_39, sf_196_39, fd_196_40, sf_196_40, fd_196_41, sf_196_41, fd_196_42, fd_196_43, fd_196_44, ld_197, sd_197, ln_197, h6.1]
      rw [e1, e2, upw_g]
      all_goals first | rfl | exact ⟨rfl, rfl⟩ | exact ⟨rfl, trivial⟩ | exact ⟨trivial, rfl⟩ | trivial
    · simp only [h90, ↓reduceIte]
      exact big (decide_eq_false fun h => h90 h.2)
  · simp only [h80, ↓reduceIte]
    exact big (decide_eq_false fun h => h80 h.1)
theorem kp_1 {b : Nat → Int32} (H : ∀ r o, (∀ k, r k = if k < 2384 then b (k + 596) else b k) → wp (ev d) P mo_keeps 39 [some (.ref 196), o] [] (E (upw g 199 r) q)) : ∀ (j n : Nat) (r : Nat → Int32), n + j = 2384 → (∀ k, r k = if k < n then b (k + 596) else b k) →
    wp (ev d) P mo_keeps 10 [some (.ref 196), some (.int (nI n))] [] (E (upw g 199 r) q) := by
  intro j
  induction j with
  | zero =>
    intro n r hn hr
    have hn : n = 2384 := hn
    subst hn
    rw [b_mo_keeps_10]
    simp -implicitDefEqProofs (disch := first | assumption | omega) only [szS_0, szS_i, szS_r, szS_l, x_cons, x_goto, ob_some, kl_i, kl_r, kl_l, kl_n, push_n, push_s, pop_0, pop_i, pop_r, Int.reduceToNat, List.length_cons, List.length_nil, Nat.reduceAdd, Nat.reduceLeDiff, Nat.zero_add, true_and, nI_n0, nat_le, Nat.add_zero, i_1, rt_mo_keeps, x_al0, x_dupi, x_dupr, x_getf, x_goto, x_iadd, x_iaload, x_iastore, x_icge, x_icne, x_il1, x_imul, x_inc1, x_is1, x_isub, x_ldc, x_putf, x_vret, nI_ltE, Nat.lt_irrefl, ↓reduceIte]
    exact H r _ hr
  | succ j ih =>
    intro n r hn hr
    have hn' : n < 2384 := by omega
    rw [b_mo_keeps_10]
    simp -implicitDefEqProofs (disch := first | assumption | omega) only [szS_0, szS_i, szS_r, szS_l, x_cons, x_goto, ob_some, kl_i, kl_r, kl_l, kl_n, push_n, push_s, pop_0, pop_i, pop_r, Int.reduceToNat, List.length_cons, List.length_nil, Nat.reduceAdd, Nat.reduceLeDiff, Nat.zero_add, true_and, nI_n0, nat_le, Nat.add_zero, i_1, rt_mo_keeps, x_al0, x_dupi, x_dupr, x_getf, x_goto, x_iadd, x_iaload, x_iastore, x_icge, x_icne, x_il1, x_imul, x_inc1, x_is1, x_isub, x_ldc, x_putf, x_vret, fd_196_0, fd_196_1, fd_196_2, fd_196_3, fd_196_4, sf_196_4, fd_196_5, sf_196_5, fd_196_6, fd_196_7, fd_196_8, fd_196_9, fd_196_10, fd_196_11, fd_196_12, sf_196_12, fd_196_13, sf_196_13, fd_196_14, sf_196_14, fd_196_15, sf_196_15, fd_196_16, sf_196_16, fd_196_17, sf_196_17, fd_196_18, sf_196_18, fd_196_19, sf_196_19, fd_196_20, sf_196_20, fd_196_21, sf_196_21, fd_196_22, sf_196_22, fd_196_23, sf_196_23, fd_196_24, sf_196_24, fd_196_25, sf_196_25, fd_196_26, sf_196_26, fd_196_27, fd_196_28, fd_196_29, fd_196_30, sf_196_30, fd_196_31, fd_196_32, fd_196_33, fd_196_34, fd_196_35, fd_196_36, fd_196_37, sf_196_37, fd_196_38, fd_196_39, sf_196_39, fd_196_40, sf_196_40, fd_196_41, sf_196_41, fd_196_42, fd_196_43, fd_196_44, ld_199, sd_199, ln_199, nI_ltE, hn', ↓reduceIte, nI_add, upw_s, pu_w]
    refine ih (n + 1) _ (by omega) fun k => ?_
    unfold pu
    by_cases e : k = n
    · rw [if_pos e, if_pos (by omega), hr, if_neg (by omega), e]
    · rw [if_neg e, hr]
      by_cases e2 : k < n
      · rw [if_pos e2, if_pos (by omega)]
      · rw [if_neg e2, if_neg (by omega)]
theorem kp_2 {m : Nat} (hm : m < 5) (h4 : g 196 4 = nI m) {b : Nat → Int32} (H : ∀ r o, (∀ k, r k = if 596 * m ≤ k ∧ k < 596 * m + 596 then g 197 (k - 596 * m) else b k) → wp (ev d) P mo_keeps 85 [some (.ref 196), o] [] (E (upw g 199 r) q)) : ∀ (j n : Nat) (r : Nat → Int32), n + j = 596 → (∀ k, r k = if 596 * m ≤ k ∧ k < 596 * m + n then g 197 (k - 596 * m) else b k) →
    wp (ev d) P mo_keeps 51 [some (.ref 196), some (.int (nI n))] [] (E (upw g 199 r) q) := by
  intro j
  induction j with
  | zero =>
    intro n r hn hr
    have hn : n = 596 := hn
    subst hn
    rw [b_mo_keeps_51]
    simp -implicitDefEqProofs (disch := first | assumption | omega) only [szS_0, szS_i, szS_r, szS_l, x_cons, x_goto, ob_some, kl_i, kl_r, kl_l, kl_n, push_n, push_s, pop_0, pop_i, pop_r, Int.reduceToNat, List.length_cons, List.length_nil, Nat.reduceAdd, Nat.reduceLeDiff, Nat.zero_add, true_and, nI_n0, nat_le, Nat.add_zero, i_1, rt_mo_keeps, x_al0, x_dupi, x_dupr, x_getf, x_goto, x_iadd, x_iaload, x_iastore, x_icge, x_icne, x_il1, x_imul, x_inc1, x_is1, x_isub, x_ldc, x_putf, x_vret, nI_ltE, Nat.lt_irrefl, ↓reduceIte]
    exact H r _ hr
  | succ j ih =>
    intro n r hn hr
    have hn' : n < 596 := by omega
    rw [b_mo_keeps_51]
    simp -implicitDefEqProofs (disch := first | assumption | omega) only [szS_0, szS_i, szS_r, szS_l, x_cons, x_goto, ob_some, kl_i, kl_r, kl_l, kl_n, push_n, push_s, pop_0, pop_i, pop_r, Int.reduceToNat, List.length_cons, List.length_nil, Nat.reduceAdd, Nat.reduceLeDiff, Nat.zero_add, true_and, nI_n0, nat_le, Nat.add_zero, i_1, rt_mo_keeps, x_al0, x_dupi, x_dupr, x_getf, x_goto, x_iadd, x_iaload, x_iastore, x_icge, x_icne, x_il1, x_imul, x_inc1, x_is1, x_isub, x_ldc, x_putf, x_vret, fd_196_0, fd_196_1, fd_196_2, fd_196_3, fd_196_4, sf_196_4, fd_196_5, sf_196_5, fd_196_6, fd_196_7, fd_196_8, fd_196_9, fd_196_10, fd_196_11, fd_196_12, sf_196_12, fd_196_13, sf_196_13, fd_196_14, sf_196_14, fd_196_15, sf_196_15, fd_196_16, sf_196_16, fd_196_17, sf_196_17, fd_196_18, sf_196_18, fd_196_19, sf_196_19, fd_196_20, sf_196_20, fd_196_21, sf_196_21, fd_196_22, sf_196_22, fd_196_23, sf_196_23, fd_196_24, sf_196_24, fd_196_25, sf_196_25, fd_196_26, sf_196_26, fd_196_27, fd_196_28, fd_196_29, fd_196_30, sf_196_30, fd_196_31, fd_196_32, fd_196_33, fd_196_34, fd_196_35, fd_196_36, fd_196_37, sf_196_37, fd_196_38, fd_196_39, sf_196_39, fd_196_40, sf_196_40, fd_196_41, sf_196_41, fd_196_42, fd_196_43, fd_196_44, ld_199, sd_199, ln_199, ld_197, sd_197, ln_197, upw_o, h4, nI_ltE, hn', ↓reduceIte, nI_mul, nI_add, pu_w]
    refine ih (n + 1) _ (by omega) fun k => ?_
    unfold pu
    by_cases e : k = 596 * m + n
    · rw [if_pos e, if_pos (by omega), e, Nat.add_sub_cancel_left]
    · rw [if_neg e, hr]
      by_cases e2 : 596 * m ≤ k ∧ k < 596 * m + n
      · rw [if_pos e2, if_pos (by omega)]
      · rw [if_neg e2, if_neg (by omega)]
theorem s_keeps {pl : PL} (hl : pl.length ≤ 5) (h4 : g 196 4 = nI pl.length) (hB : BR (g 199) pl) (H : ∀ g', FR [199] [4] g g' → g' 196 4 = nI (kpL (g 197) pl).length → BR (g' 199) (kpL (g 197) pl) → P none (E g' q)) :
    callC (ev (d + 1)) mo_keeps [.ref 196] (E g q) P := by
  refine in_mo_keeps rfl ?_
  have e0 : E g q = E (upw g 199 (g 199)) q := by rw [upw_g]
  have hkl := kpL_l (w := g 197) hl
  -- the second half
  have half : ∀ (m : Nat) (g1 : Nat → Nat → Int32) (o : Option Value), m < 5 → FR [199] [4] g g1 → g1 196 4 = nI m → (kpL (g 197) pl).length = m + 1 → (∀ i r, (pl.take 4)[i]? = some r → ∀ k, k < 596 → g1 199 (596 * (m - 1 - i) + k) = r k) → wp (ev d) P mo_keeps 49 [some (.ref 196), o] [] (E g1 q) := by
    intro m g1 o hm f1 e4 hlen hb
    have e197 : g1 197 = g 197 := FR_a f1 rfl
    rw [b_mo_keeps_49]
    simp -implicitDefEqProofs (disch := first | assumption | omega) only [szS_0, szS_i, szS_r, szS_l, x_cons, x_goto, ob_some, kl_i, kl_r, kl_l, kl_n, push_n, push_s, pop_0, pop_i, pop_r, Int.reduceToNat, List.length_cons, List.length_nil, Nat.reduceAdd, Nat.reduceLeDiff, Nat.zero_add, true_and, nI_n0, nat_le, Nat.add_zero, i_1, rt_mo_keeps, x_al0, x_dupi, x_dupr, x_getf, x_goto, x_iadd, x_iaload, x_iastore, x_icge, x_icne, x_il1, x_imul, x_inc1, x_is1, x_isub, x_ldc, x_putf, x_vret]
    rw [show E g1 q = E (upw g1 199 (g1 199)) q by rw [upw_g]]
    refine kp_2 hm e4 (b := g1 199) (fun r o hr => ?_) 596 0 _ rfl fun k => by rw [if_neg (by omega)]
    rw [b_mo_keeps_85]
    simp -implicitDefEqProofs (disch := first | assumption | omega) only [szS_0, szS_i, szS_r, szS_l, x_cons, x_goto, ob_some, kl_i, kl_r, kl_l, kl_n, push_n, push_s, pop_0, pop_i, pop_r, Int.reduceToNat, List.length_cons, List.length_nil, Nat.reduceAdd, Nat.reduceLeDiff, Nat.zero_add, true_and, nI_n0, nat_le, Nat.add_zero, i_1, rt_mo_keeps, x_al0, x_dupi, x_dupr, x_getf, x_goto, x_iadd, x_iaload, x_iastore, x_icge, x_icne, x_il1, x_imul, x_inc1, x_is1, x_isub, x_ldc, x_putf, x_vret, fd_196_0, fd_196_1, fd_196_2, fd_196_3, fd_196_4, sf_196_4, fd_196_5, sf_196_5, fd_196_6, fd_196_7, fd_196_8, fd_196_9, fd_196_10, fd_196_11, fd_196_12, sf_196_12, fd_196_13, sf_196_13, fd_196_14, sf_196_14, fd_196_15, sf_196_15, fd_196_16, sf_196_16, fd_196_17, sf_196_17, fd_196_18, sf_196_18, fd_196_19, sf_196_19, fd_196_20, sf_196_20, fd_196_21, sf_196_21, fd_196_22, sf_196_22, fd_196_23, sf_196_23, fd_196_24, sf_196_24, fd_196_25, sf_196_25, fd_196_26, sf_196_26, fd_196_27, fd_196_28, fd_196_29, fd_196_30, sf_196_30, fd_196_31, fd_196_32, fd_196_33, fd_196_34, fd_196_35, fd_196_36, fd_196_37, sf_196_37, fd_196_38, fd_196_39, sf_196_39, fd_196_40, sf_196_40, fd_196_41, sf_196_41, fd_196_42, fd_196_43, fd_196_44, upw_o, e4, nI_add, pu_g]
    refine H _ (FR_p rfl f1 (FR_w rfl f1)) (by rw [upw_s, pu_s, hlen]) ?_
    rw [upw_o (by decide), upw_s]
    intro i r' hi k hk
    rw [hr, hlen]
    match i, hi with
    | 0, hi =>
      have hi : some (g 197) = some r' := hi
      cases hi
      rw [if_pos (by omega), e197]
      congr 1
      omega
    | i + 1, hi =>
      have hi : (pl.take 4)[i]? = some r' := hi
      have hil : i < (pl.take 4).length := by
        rcases List.getElem?_eq_some_iff.mp hi with ⟨h, _⟩
        exact h
      have hlen2 : (pl.take 4).length = m := by
        have : (pl.take 4).length + 1 = m + 1 := hlen
        omega
      rw [if_neg (by omega)]
      have := hb i r' hi k hk
      rw [show m + 1 - 1 - (i + 1) = m - 1 - i by omega]
      exact this
  rw [b_mo_keeps_0]
  simp -implicitDefEqProofs (disch := first | assumption | omega) only [szS_0, szS_i, szS_r, szS_l, x_cons, x_goto, ob_some, kl_i, kl_r, kl_l, kl_n, push_n, push_s, pop_0, pop_i, pop_r, Int.reduceToNat, List.length_cons, List.length_nil, Nat.reduceAdd, Nat.reduceLeDiff, Nat.zero_add, true_and, nI_n0, nat_le, Nat.add_zero, i_1, rt_mo_keeps, x_al0, x_dupi, x_dupr, x_getf, x_goto, x_iadd, x_iaload, x_iastore, x_icge, x_icne, x_il1, x_imul, x_inc1, x_is1, x_isub, x_ldc, x_putf, x_vret, fd_196_0, fd_196_1, fd_196_2, fd_196_3, fd_196_4, sf_196_4, fd_196_5, sf_196_5, fd_196_6, fd_196_7, fd_196_8, fd_196_9, fd_196_10, fd_196_11, fd_196_12, sf_196_12, fd_196_13, sf_196_13, fd_196_14, sf_196_14, fd_196_15, sf_196_15, fd_196_16, sf_196_16, fd_196_17, sf_196_17, fd_196_18, sf_196_18, fd_196_19, sf_196_19, fd_196_20, sf_196_20, fd_196_21, sf_196_21, fd_196_22, sf_196_22, fd_196_23, sf_196_23, fd_196_24, sf_196_24, fd_196_25, sf_196_25, fd_196_26, sf_196_26, fd_196_27, fd_196_28, fd_196_29, fd_196_30, sf_196_30, fd_196_31, fd_196_32, fd_196_33, fd_196_34, fd_196_35, fd_196_36, fd_196_37, sf_196_37, fd_196_38, fd_196_39, sf_196_39, fd_196_40, sf_196_40, fd_196_41, sf_196_41, fd_196_42, fd_196_43, fd_196_44, h4, nI_eqE]
  by_cases e5 : pl.length = 5
  · simp only [e5, ↓reduceIte]
    rw [e5] at h4
    rw [e0]
    refine kp_1 (b := g 199) (fun r o hr => ?_) 2384 0 _ rfl fun k => by rw [if_neg (by omega)]
    rw [b_mo_keeps_39]
    simp -implicitDefEqProofs (disch := first | assumption | omega) only [szS_0, szS_i, szS_r, szS_l, x_cons, x_goto, ob_some, kl_i, kl_r, kl_l, kl_n, push_n, push_s, pop_0, pop_i, pop_r, Int.reduceToNat, List.length_cons, List.length_nil, Nat.reduceAdd, Nat.reduceLeDiff, Nat.zero_add, true_and, nI_n0, nat_le, Nat.add_zero, i_1, rt_mo_keeps, x_al0, x_dupi, x_dupr, x_getf, x_goto, x_iadd, x_iaload, x_iastore, x_icge, x_icne, x_il1, x_imul, x_inc1, x_is1, x_isub, x_ldc, x_putf, x_vret, fd_196_0, fd_196_1, fd_196_2, fd_196_3, fd_196_4, sf_196_4, fd_196_5, sf_196_5, fd_196_6, fd_196_7, fd_196_8, fd_196_9, fd_196_10, fd_196_11, fd_196_12, sf_196_12, fd_196_13, sf_196_13, fd_196_14, sf_196_14, fd_196_15, sf_196_15, fd_196_16, sf_196_16, fd_196_17, sf_196_17, fd_196_18, sf_196_18, fd_196_19, sf_196_19, fd_196_20, sf_196_20, fd_196_21, sf_196_21, fd_196_22, sf_196_22, fd_196_23, sf_196_23, fd_196_24, sf_196_24, fd_196_25, sf_196_25, fd_196_26, sf_196_26, fd_196_27, fd_196_28, fd_196_29, fd_196_30, sf_196_30, fd_196_31, fd_196_32, fd_196_33, fd_196_34, fd_196_35, fd_196_36, fd_196_37, sf_196_37, fd_196_38, fd_196_39, sf_196_39, fd_196_40, sf_196_40, fd_196_41, sf_196_41, fd_196_42, fd_196_43, fd_196_44, upw_o, h4, nI_sub, pu_g]
    refine half 4 _ o (by decide) (FR_p rfl FR_r (FR_w rfl FR_r)) (by rw [upw_s, pu_s]) (by rw [hkl, if_pos e5]) fun i r' hi k hk => ?_
    rw [upw_o (by decide), upw_s, hr]
    have hi4 : i < 4 := by
      rcases List.getElem?_eq_some_iff.mp hi with ⟨h, _⟩
      rw [List.length_take] at h
      omega
    rw [List.getElem?_take, if_pos hi4] at hi
    have := hB i r' hi k hk
    rw [e5] at this
    rw [if_pos (by omega), ← this]
    congr 1
    omega
  · simp only [e5, ↓reduceIte]
    refine half pl.length g none (by omega) FR_r h4 (by rw [hkl, if_neg e5]) fun i r' hi k hk => ?_
    rw [List.take_of_length_le (by omega)] at hi
    exact hB i r' hi k hk
/-- a row gone back to -/
def mrg (r w : Nat → Int32) : Nat → Int32 := fun k => if k < 596 then r k else w k
theorem un_lp {r w : Nat → Int32} {m : Nat} (hm : m < 5) (h4 : g 196 4 = nI m) (hB : ∀ k, k < 596 → g 199 (596 * m + k) = r k) (H : P (some (.int (nI 1))) (E (upw g 197 (mrg r w)) q)) : ∀ (j n : Nat) (v : Nat → Int32), n + j = 596 → (∀ k, v k = if k < n then r k else w k) →
    wp (ev d) P mo_undo 21 [some (.ref 196), some (.int (nI n))] [] (E (upw g 197 v) q) := by
  intro j
  induction j with
  | zero =>
    intro n v hn hv
    have hn : n = 596 := hn
    subst hn
    have : v = mrg r w := funext hv
    rw [this, b_mo_undo_21]
    simp -implicitDefEqProofs (disch := first | assumption | omega) only [szS_0, szS_i, szS_r, szS_l, x_cons, x_goto, ob_some, kl_i, kl_r, kl_l, kl_n, push_n, push_s, pop_0, pop_i, pop_r, Int.reduceToNat, List.length_cons, List.length_nil, Nat.reduceAdd, Nat.reduceLeDiff, Nat.zero_add, true_and, nI_n0, nat_le, Nat.add_zero, i_1, rt_mo_undo_0, rt_mo_undo_1, rt_mo_undo_b, x_al0, x_dupi, x_dupr, x_getf, x_goto, x_iadd, x_iaload, x_iastore, x_icge, x_ifne, x_il1, x_imul, x_inc1, x_iret, x_is1, x_isub, x_ldc, x_putf, nI_ltE, Nat.lt_irrefl, ↓reduceIte, b_mo_undo_55]
    exact H
  | succ j ih =>
    intro n v hn hv
    have hn' : n < 596 := by omega
    rw [b_mo_undo_21]
    simp -implicitDefEqProofs (disch := first | assumption | omega) only [szS_0, szS_i, szS_r, szS_l, x_cons, x_goto, ob_some, kl_i, kl_r, kl_l, kl_n, push_n, push_s, pop_0, pop_i, pop_r, Int.reduceToNat, List.length_cons, List.length_nil, Nat.reduceAdd, Nat.reduceLeDiff, Nat.zero_add, true_and, nI_n0, nat_le, Nat.add_zero, i_1, rt_mo_undo_0, rt_mo_undo_1, rt_mo_undo_b, x_al0, x_dupi, x_dupr, x_getf, x_goto, x_iadd, x_iaload, x_iastore, x_icge, x_ifne, x_il1, x_imul, x_inc1, x_iret, x_is1, x_isub, x_ldc, x_putf, fd_196_0, fd_196_1, fd_196_2, fd_196_3, fd_196_4, sf_196_4, fd_196_5, sf_196_5, fd_196_6, fd_196_7, fd_196_8, fd_196_9, fd_196_10, fd_196_11, fd_196_12, sf_196_12, fd_196_13, sf_196_13, fd_196_14, sf_196_14, fd_196_15, sf_196_15, fd_196_16, sf_196_16, fd_196_17, sf_196_17, fd_196_18, sf_196_18, fd_196_19, sf_196_19, fd_196_20, sf_196_20, fd_196_21, sf_196_21, fd_196_22, sf_196_22, fd_196_23, sf_196_23, fd_196_24, sf_196_24, fd_196_25, sf_196_25, fd_196_26, sf_196_26, fd_196_27, fd_196_28, fd_196_29, fd_196_30, sf_196_30, fd_196_31, fd_196_32, fd_196_33, fd_196_34, fd_196_35, fd_196_36, fd_196_37, sf_196_37, fd_196_38, fd_196_39, sf_196_39, fd_196_40, sf_196_40, fd_196_41, sf_196_41, fd_196_42, fd_196_43, fd_196_44, ld_199, sd_199, ln_199, ld_197, sd_197, ln_197, upw_o, h4, nI_ltE, hn', ↓reduceIte, nI_mul, nI_add, pu_w]
    refine ih (n + 1) _ (by omega) fun k => ?_
    unfold pu
    by_cases e : k = n
    · rw [if_pos e, if_pos (by omega), hB n hn', e]
    · rw [if_neg e, hv]
      by_cases e2 : k < n
      · rw [if_pos e2, if_pos (by omega)]
      · rw [if_neg e2, if_neg (by omega)]
theorem s_mundo0 (h4 : g 196 4 = nI 0) : callC (ev (d + 1)) mo_undo [.ref 196] (E g q) P = P (some (.int (nI 0))) (E g q) := by
  refine call_eq (in_mo_undo rfl ?_)
  rw [b_mo_undo_0]
  simp -implicitDefEqProofs (disch := first | assumption | omega) only [szS_0, szS_i, szS_r, szS_l, x_cons, x_goto, ob_some, kl_i, kl_r, kl_l, kl_n, push_n, push_s, pop_0, pop_i, pop_r, Int.reduceToNat, List.length_cons, List.length_nil, Nat.reduceAdd, Nat.reduceLeDiff, Nat.zero_add, true_and, nI_n0, nat_le, Nat.add_zero, i_1, rt_mo_undo_0, rt_mo_undo_1, rt_mo_undo_b, x_al0, x_dupi, x_dupr, x_getf, x_goto, x_iadd, x_iaload, x_iastore, x_icge, x_ifne, x_il1, x_imul, x_inc1, x_iret, x_is1, x_isub, x_ldc, x_putf, fd_196_0, fd_196_1, fd_196_2, fd_196_3, fd_196_4, sf_196_4, fd_196_5, sf_196_5, fd_196_6, fd_196_7, fd_196_8, fd_196_9, fd_196_10, fd_196_11, fd_196_12, sf_196_12, fd_196_13, sf_196_13, fd_196_14, sf_196_14, fd_196_15, sf_196_15, fd_196_16, sf_196_16, fd_196_17, sf_196_17, fd_196_18, sf_196_18, fd_196_19, sf_196_19, fd_196_20, sf_196_20, fd_196_21, sf_196_21, fd_196_22, sf_196_22, fd_196_23, sf_196_23, fd_196_24, sf_196_24, fd_196_25, sf_196_25, fd_196_26, sf_196_26, fd_196_27, fd_196_28, fd_196_29, fd_196_30, sf_196_30, fd_196_31, fd_196_32, fd_196_33, fd_196_34, fd_196_35, fd_196_36, fd_196_37, sf_196_37, fd_196_38, fd_196_39, sf_196_39, fd_196_40, sf_196_40, fd_196_41, sf_196_41, fd_196_42, fd_196_43, fd_196_44, h4, ↓reduceIte]
  all_goals first | rfl | exact ⟨rfl, rfl⟩ | exact ⟨rfl, trivial⟩ | exact ⟨trivial, rfl⟩ | trivial
theorem s_mundo {r : Nat → Int32} {pl : PL} (hl : (r :: pl).length ≤ 5) (h4 : g 196 4 = nI (r :: pl).length) (hB : BR (g 199) (r :: pl)) :
    callC (ev (d + 1)) mo_undo [.ref 196] (E g q) P = P (some (.int (nI 1))) (E (upw (upw g 196 (pu (g 196) 4 (nI pl.length))) 197 (mrg r (g 197))) q) := by
  refine call_eq (in_mo_undo rfl ?_)
  have hl' : pl.length < 5 := hl
  have hne : (pl.length + 1 = 0) = False := eq_false (by omega)
  rw [List.length_cons] at h4
  rw [b_mo_undo_0]
  simp -implicitDefEqProofs (disch := first | assumption | omega) only [szS_0, szS_i, szS_r, szS_l, x_cons, x_goto, ob_some, kl_i, kl_r, kl_l, kl_n, push_n, push_s, pop_0, pop_i, pop_r, Int.reduceToNat, List.length_cons, List.length_nil, Nat.reduceAdd, Nat.reduceLeDiff, Nat.zero_add, true_and, nI_n0, nat_le, Nat.add_zero, i_1, rt_mo_undo_0, rt_mo_undo_1, rt_mo_undo_b, x_al0, x_dupi, x_dupr, x_getf, x_goto, x_iadd, x_iaload, x_iastore, x_icge, x_ifne, x_il1, x_imul, x_inc1, x_iret, x_is1, x_isub, x_ldc, x_putf, fd_196_0, fd_196_1, fd_196_2, fd_196_3, fd_196_4, sf_196_4, fd_196_5, sf_196_5, fd_196_6, fd_196_7, fd_196_8, fd_196_9, fd_196_10, fd_196_11, fd_196_12, sf_196_12, fd_196_13, sf_196_13, fd_196_14, sf_196_14, fd_196_15, sf_196_15, fd_196_16, sf_196_16, fd_196_17, sf_196_17, fd_196_18, sf_196_18, fd_196_19, sf_196_19, fd_196_20, sf_196_20, fd_196_21, sf_196_21, fd_196_22, sf_196_22, fd_196_23, sf_196_23, fd_196_24, sf_196_24, fd_196_25, sf_196_25, fd_196_26, sf_196_26, fd_196_27, fd_196_28, fd_196_29, fd_196_30, sf_196_30, fd_196_31, fd_196_32, fd_196_33, fd_196_34, fd_196_35, fd_196_36, fd_196_37, sf_196_37, fd_196_38, fd_196_39, sf_196_39, fd_196_40, sf_196_40, fd_196_41, sf_196_41, fd_196_42, fd_196_43, fd_196_44, h4, nI_eqE, hne, ↓reduceIte, b_mo_undo_9, nI_sub, Nat.add_sub_cancel, pu_g]
  rw [show E (upw g 196 (pu (g 196) 4 (nI pl.length))) q = E (upw (upw g 196 (pu (g 196) 4 (nI pl.length))) 197 (g 197)) q by rw [show g 197 = upw g 196 (pu (g 196) 4 (nI pl.length)) 197 from (upw_o (by decide)).symm, upw_g]]
  refine un_lp (r := r) (w := g 197) hl' (by rw [upw_s, pu_s]) (fun k hk => ?_) ⟨rfl, rfl⟩ 596 0 _ rfl fun k => by rw [if_neg (Nat.not_lt_zero k)]
  rw [upw_o (by decide)]
  exact hB 0 r rfl k hk
end MM
