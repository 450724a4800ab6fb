/-! the class reads conditions -/
def w1 (b : Bool) (o : Nat) : List (Nat × Nat) := if b = true then [(o, 0)] else []
/-- the class's two loops at a condition: whether one was read before, in each -/
def chF (T : Nat → Nat) (n k : Nat) (F : Nat → Rs) (f1 f2 : Nat) (p4 p3 : Bool) (i : Nat) : Rs := bd (F i) fun l j => ap (l ++ w1 p4 31) (bd (lpL T n k 5 31 F f1 j) fun l' j' => ap (l' ++ w1 p3 32) (lpL T n k 4 32 (evF T n k F) f2 j'))
theorem ct_w {k : Nat} (hk0 : 1 ≤ k) (hk : k < 3) : CT_ k 0 = 7 ∧ CT_ k 1 = 3 ∧ CT_ k 2 = 4 ∧ CT_ k 3 = 5 ∧ CT_ k 4 = 6 ∧ 5 ≤ WN k := by
  have : k = 1 ∨ k = 2 := by omega
  rcases this with rfl | rfl <;> decide
section CC
variable {d : Nat} {g : Nat → Nat → Int32} {q : Nat → Nat → Int64} {P : QT} {T : Nat → Nat} {n k b s i : Nat}
/-- behind every: what of ors is left -/
theorem ch_g {F : Nat → Rs} {f2 : Nat} {l : List (Nat × Nat)} {p3 : Bool} {r : Rs} : bd (ap l r) (fun l' j' => ap (l' ++ w1 p3 32) (lpL T n k 4 32 (evF T n k F) f2 j')) = ap l (bd r fun l' j' => ap (l' ++ w1 p3 32) (lpL T n k 4 32 (evF T n k F) f2 j')) := by
  rw [bd_ap, ap_bd]
  congr 1
  funext l' j'
  rw [ap_ap, List.append_assoc]
theorem ch_0 {F : Nat → Rs} {f2 : Nat} {p3 : Bool} : (bd (lpF T n k 5 31 F i) fun l j => ap (l ++ w1 p3 32) (lpL T n k 4 32 (evF T n k F) f2 j)) = bd (F i) fun l j => ap l (bd (lpL T n k 5 31 F 401 j) fun l' j' => ap (l' ++ w1 p3 32) (lpL T n k 4 32 (evF T n k F) f2 j')) := by
  unfold lpF
  rw [bd_bd]
  congr 1
  funext l j
  exact ch_g
theorem ch_e {F : Nat → Rs} {f2 : Nat} {p3 : Bool} : chF T n k F 401 f2 false p3 i = bd (lpF T n k 5 31 F i) fun l j => ap (l ++ w1 p3 32) (lpL T n k 4 32 (evF T n k F) f2 j) := by
  rw [ch_0]
  unfold chF
  congr 1
  funext l j
  show ap (l ++ []) _ = _
  rw [List.append_nil]
theorem anF_ch {F : Nat → Rs} : anF T n k F i = chF T n k F 401 401 false false i := by
  rw [ch_e]
  show bd (evF T n k F i) _ = _
  unfold evF
  congr 1
  funext l j
  show _ = ap (l ++ []) _
  rw [List.append_nil]
/-- one more and -/
theorem ch_a {F : Nat → Rs} {f1 f2 j : Nat} {p4 p3 : Bool} {l : List (Nat × Nat)} (e : F i = .inr (l, j)) (h : kC T n k j = 5) : chF T n k F (f1 + 1) f2 p4 p3 i = ap (l ++ w1 p4 31) (chF T n k F f1 f2 true p3 (j + 1)) := by
  have e1 : lpL T n k 5 31 F (f1 + 1) j = bd (F (j + 1)) fun l j => ap (l ++ [(31, 0)]) (lpL T n k 5 31 F f1 j) := if_pos h
  show bd (F i) _ = _
  rw [bd_r e, e1, bd_bd]
  congr 1
  show _ = bd (F (j + 1)) _
  congr 1
  funext l' j'
  exact ch_g
/-- one more or -/
theorem ch_o {F : Nat → Rs} {f1 f2 j : Nat} {p4 p3 : Bool} {l : List (Nat × Nat)} (e : F i = .inr (l, j)) (h5 : kC T n k j ≠ 5) (h : kC T n k j = 4) : chF T n k F (f1 + 1) (f2 + 1) p4 p3 i = ap (l ++ w1 p4 31) (ap (w1 p3 32) (chF T n k F 401 f2 false true (j + 1))) := by
  have e1 : lpL T n k 5 31 F (f1 + 1) j = .inr ([], j) := if_neg h5
  have e2 : lpL T n k 4 32 (evF T n k F) (f2 + 1) j = bd (evF T n k F (j + 1)) fun l j => ap (l ++ [(32, 0)]) (lpL T n k 4 32 (evF T n k F) f2 j) := if_pos h
  show bd (F i) _ = _
  rw [bd_r e, e1, ch_e]
  show ap (l ++ w1 p4 31) (ap (w1 p3 32) (lpL T n k 4 32 (evF T n k F) (f2 + 1) j)) = _
  rw [e2]
  rfl
/-- no more -/
theorem ch_z {F : Nat → Rs} {f1 f2 j : Nat} {p4 p3 : Bool} {l : List (Nat × Nat)} (e : F i = .inr (l, j)) (h5 : kC T n k j ≠ 5) (h : kC T n k j ≠ 4) : chF T n k F (f1 + 1) (f2 + 1) p4 p3 i = .inr (l ++ w1 p4 31 ++ w1 p3 32, j) := by
  have e1 : lpL T n k 5 31 F (f1 + 1) j = .inr ([], j) := if_neg h5
  have e2 : lpL T n k 4 32 (evF T n k F) (f2 + 1) j = .inr ([], j) := if_neg h
  show bd (F i) _ = _
  rw [bd_r e, e1]
  show ap (l ++ w1 p4 31) (ap (w1 p3 32) (lpL T n k 4 32 (evF T n k F) (f2 + 1) j)) = _
  rw [e2, ap_ap]
  show (Sum.inr (l ++ w1 p4 31 ++ w1 p3 32 ++ [], j) : Rs) = _
  rw [List.append_nil]
theorem cx_1 {o : Nat} (h : o = 31 ∨ o = 32) : cxL (k - 1) [(o, 0)] = [opC o] := by
  rcases h with rfl | rfl <;> rfl
/-- a step that is laid only behind another part -/
theorem ch_put (hB : b = 22 ∨ b = 26 ∨ b = 52 ∨ b = 56 ∨ b = 82 ∨ b = 86) {p : Bool} {o : Nat} (ho : o = 31 ∨ o = 32) (h : gIn T n k b s i g) (hs : p = true → s + 1 ≤ i) : (p = false → gOK T n k b s (cxL (k - 1) (w1 p o)) i g g) ∧ (p = true → ∀ {d : Nat} {q : Nat → Nat → Int64} {P : QT}, (∀ g', gOK T n k b s (cxL (k - 1) (w1 p o)) i g g' → gIn T n k b (s + (cxL (k - 1) (w1 p o)).length) i g' → P none (E g' q)) → callC (ev (d + 1)) la_put [.ref b, .int (nI (opC o))] (E g q) P) := by
  refine ⟨fun e => ?_, fun e => ?_⟩
  · rw [e]
    exact gOK_r h
  · rw [e]
    intro d q P H
    have e1 : cxL (k - 1) (w1 true o) = [opC o] := cx_1 ho
    have hi := h.2.2.2.1
    have hn := h.2.2.2.2.1
    have hs := hs e
    rw [e1] at H
    exact s_cput hB h (by omega) fun g' o1 => H g' o1 (gIn_1 h o1 hs)
theorem cho_lp (hB : b = 22 ∨ b = 26 ∨ b = 52 ∨ b = 56 ∨ b = 82 ∨ b = 86) (hk0 : 1 ≤ k) (hk : k < 3) (hn : n ≤ 400) {D : Nat} {F : Nat → Rs} {r : Int32} (hF : gFn T n k b (d + 2) pa_readCondition [.int r] F) (hK : ∀ i l j, F i = .inr (l, j) → okR n k true D i l j) : ∀ (m i s c4 c3 f1 f2 : Nat) (p4 p3 : Bool) (g : Nat → Nat → Int32), n + 1 ≤ i + m → n + 1 ≤ i + f1 → n + 1 ≤ i + f2 → c4 + 1 ≤ i → c3 + 1 ≤ i → (0 < c4 ↔ p4 = true) → (0 < c3 ↔ p3 = true) → gIn T n k b s i g → s + (w1 p4 31).length + (w1 p3 32).length ≤ i →
    (∀ l j g', chF T n k F f1 f2 p4 p3 i = .inr (l, j) → gOK T n k b s (cxL (k - 1) l) j g g' → P (some (.int (nI 1))) (E g' q)) → (∀ f' j g', chF T n k F f1 f2 p4 p3 i = .inl (f', j) → gXx T n b f' j g g' → P (some (.int (nI 0))) (E g' q)) →
    wp (ev (d + 2)) P pa_readChoice 12 [some (.ref 173), some (.ref b), some (.int r), some (.int (nI c3)), some (.int (nI c4))] [] (E g q) := by
  intro m
  induction m with
  | zero =>
    intro i s c4 c3 f1 f2 p4 p3 g hm _ _ _ _ _ _ h
    have := h.2.2.2.1
    omega
  | succ m ih =>
    intro i s c4 c3 f1 f2 p4 p3 g hm hf1 hf2 hc4 hc3 hp4 hp3 h hso HN HX
    obtain ⟨f1', rfl⟩ : ∃ x, f1 = x + 1 := ⟨f1 - 1, by have := h.2.2.2.1; omega⟩
    obtain ⟨f2', rfl⟩ : ∃ x, f2 = x + 1 := ⟨f2 - 1, by have := h.2.2.2.1; omega⟩
    have n10 : (nI 1 = nI 0) = False := eq_false (by decide)
    have hi := h.2.2.2.1
    have hsi := h.2.2.1
    have hc44 : c4 < 400 := by omega
    have hcw := ct_w hk0 hk
    have hw3 : 3 < WN k := by omega
    have hw2 : 2 < WN k := by omega
    rw [b_pa_readChoice_12]
    simp -implicitDefEqProofs (disch := first | assumption | omega) only [szS_0, szS_i, szS_r, szS_l, x_cons, x_goto, ob_some, kl_i, kl_r, kl_l, kl_n, push_n, push_s, pop_0, pop_i, pop_r, Int.reduceToNat, List.length_cons, List.length_nil, Nat.reduceAdd, Nat.reduceLeDiff, Nat.zero_add, true_and, nI_n0, nat_le, Nat.add_zero, i_1, rt_pa_readChoice_0, rt_pa_readChoice_1, rt_pa_readChoice_b, x_al0, x_al1, x_call, x_getf, x_goto, x_icge, x_ifle, x_ifne, x_il2, x_il3, x_il4, x_inc3, x_inc4, x_iret, x_is3, x_is4, x_ldc, nI_ltE, hc44, ↓reduceIte]
    refine hF h (fun l j g1 e o1 => ?_) fun f' j g1 e x1 => ?_
    · have u := hK _ _ _ e
      have u1 := u.1
      have u2 := u.2.1
      have u3 := u.2.2.1
      have h1 := gIn_t h o1 (okR_ce hsi u) u.2.1 (okR_j1 u)
      -- behind the and
      have aft : ∀ g2, gOK T n k b s (cxL (k - 1) (l ++ w1 p4 31)) j g g2 → gIn T n k b (s + (cxL (k - 1) (l ++ w1 p4 31)).length) j g2 → wp (ev (d + 2)) P pa_readChoice 43 [some (.ref 173), some (.ref b), some (.int r), some (.int (nI c3)), some (.int (nI c4))] [] (E g2 q) := by
        intro g2 o2 h2
        have h2s := h2.2.2.1
        rw [b_pa_readChoice_43]
        simp -implicitDefEqProofs (disch := first | assumption | omega) only [szS_0, szS_i, szS_r, szS_l, x_cons, x_goto, ob_some, kl_i, kl_r, kl_l, kl_n, push_n, push_s, pop_0, pop_i, pop_r, Int.reduceToNat, List.length_cons, List.length_nil, Nat.reduceAdd, Nat.reduceLeDiff, Nat.zero_add, true_and, nI_n0, nat_le, Nat.add_zero, i_1, rt_pa_readChoice_0, rt_pa_readChoice_1, rt_pa_readChoice_b, x_al0, x_al1, x_call, x_getf, x_goto, x_icge, x_ifle, x_ifne, x_il2, x_il3, x_il4, x_inc3, x_inc4, x_iret, x_is3, x_is4, x_ldc, fd_173_0, s_cisWord hk h2.1 hw3, hcw.2.2.2.1, bI_0]
        by_cases c5 : kC T n k j = 5
        · rw [decide_eq_true c5]
          have hjn := kC_l (T := T) (n := n) (i := j) hk (by omega)
          have eu := ch_a (f1 := f1') (f2 := f2' + 1) (p4 := p4) (p3 := p3) e c5
          simp -implicitDefEqProofs (disch := first | assumption | omega) only [Bool.true_eq_false, ↓reduceIte, b_pa_readChoice_57, szS_0, szS_i, szS_r, szS_l, x_cons, x_goto, ob_some, kl_i, kl_r, kl_l, kl_n, push_n, push_s, pop_0, pop_i, pop_r, Int.reduceToNat, List.length_cons, List.length_nil, Nat.reduceAdd, Nat.reduceLeDiff, Nat.zero_add, true_and, nI_n0, nat_le, Nat.add_zero, i_1, rt_pa_readChoice_0, rt_pa_readChoice_1, rt_pa_readChoice_b, x_al0, x_al1, x_call, x_getf, x_goto, x_icge, x_ifle, x_ifne, x_il2, x_il3, x_il4, x_inc3, x_inc4, x_iret, x_is3, x_is4, x_ldc, fd_173_0]
          refine s_cnx hB h2 fun g3 o3 => ?_
          have h3 := gIn_0 h2 o3 hjn
          simp -implicitDefEqProofs (disch := first | assumption | omega) only [szS_0, szS_i, szS_r, szS_l, x_cons, x_goto, ob_some, kl_i, kl_r, kl_l, kl_n, push_n, push_s, pop_0, pop_i, pop_r, Int.reduceToNat, List.length_cons, List.length_nil, Nat.reduceAdd, Nat.reduceLeDiff, Nat.zero_add, true_and, nI_n0, nat_le, Nat.add_zero, i_1, rt_pa_readChoice_0, rt_pa_readChoice_1, rt_pa_readChoice_b, x_al0, x_al1, x_call, x_getf, x_goto, x_icge, x_ifle, x_ifne, x_il2, x_il3, x_il4, x_inc3, x_inc4, x_iret, x_is3, x_is4, x_ldc, nI_add]
          refine ih (j + 1) _ (c4 + 1) c3 f1' (f2' + 1) true p3 g3 (by omega) (by omega) (by omega) (by omega) (by omega) ⟨fun _ => rfl, fun _ => Nat.succ_pos _⟩ hp3 h3 ?_ (fun l' j' g4 e' o4 => HN _ _ g4 (eu.trans (ap_r e')) (by
            rw [cxL_ap]
            exact gOK_t o2 (gOK_n o3 o4))) fun f' j' g4 e' x4 => HX _ _ g4 (eu.trans (ap_l e')) (gXx_t o2 (gXx_t o3 x4))
          rw [cxL_ap, List.length_append]
          have e1 : (cxL (k - 1) (w1 p4 31)).length = (w1 p4 31).length := by cases p4 <;> rfl
          rw [e1]
          show _ + 1 + _ ≤ _
          omega
        · rw [decide_eq_false c5]
          simp -implicitDefEqProofs (disch := first | assumption | omega) only [↓reduceIte, b_pa_readChoice_70, szS_0, szS_i, szS_r, szS_l, x_cons, x_goto, ob_some, kl_i, kl_r, kl_l, kl_n, push_n, push_s, pop_0, pop_i, pop_r, Int.reduceToNat, List.length_cons, List.length_nil, Nat.reduceAdd, Nat.reduceLeDiff, Nat.zero_add, true_and, nI_n0, nat_le, Nat.add_zero, i_1, rt_pa_readChoice_0, rt_pa_readChoice_1, rt_pa_readChoice_b, x_al0, x_al1, x_call, x_getf, x_goto, x_icge, x_ifle, x_ifne, x_il2, x_il3, x_il4, x_inc3, x_inc4, x_iret, x_is3, x_is4, x_ldc]
          have aft2 : ∀ g3, gOK T n k b s (cxL (k - 1) (l ++ w1 p4 31 ++ w1 p3 32)) j g g3 → gIn T n k b (s + (cxL (k - 1) (l ++ w1 p4 31 ++ w1 p3 32)).length) j g3 → wp (ev (d + 2)) P pa_readChoice 81 [some (.ref 173), some (.ref b), some (.int r), some (.int (nI c3)), some (.int (nI c4))] [] (E g3 q) := by
            intro g3 o3 h3
            have h3s := h3.2.2.1
            rw [b_pa_readChoice_81]
            simp -implicitDefEqProofs (disch := first | assumption | omega) only [szS_0, szS_i, szS_r, szS_l, x_cons, x_goto, ob_some, kl_i, kl_r, kl_l, kl_n, push_n, push_s, pop_0, pop_i, pop_r, Int.reduceToNat, List.length_cons, List.length_nil, Nat.reduceAdd, Nat.reduceLeDiff, Nat.zero_add, true_and, nI_n0, nat_le, Nat.add_zero, i_1, rt_pa_readChoice_0, rt_pa_readChoice_1, rt_pa_readChoice_b, x_al0, x_al1, x_call, x_getf, x_goto, x_icge, x_ifle, x_ifne, x_il2, x_il3, x_il4, x_inc3, x_inc4, x_iret, x_is3, x_is4, x_ldc, fd_173_0, s_cisWord hk h3.1 hw2, hcw.2.2.1, bI_0]
            by_cases c6 : kC T n k j = 4
            · rw [decide_eq_true c6]
              have hjn := kC_l (T := T) (n := n) (i := j) hk (by omega)
              have eu := ch_o (f1 := f1') (f2 := f2') (p4 := p4) (p3 := p3) e c5 c6
              rw [ap_ap] at eu
              have hc33 : c3 + 1 < 400 := by omega
              simp -implicitDefEqProofs (disch := first | assumption | omega) only [Bool.true_eq_false, ↓reduceIte, b_pa_readChoice_95, szS_0, szS_i, szS_r, szS_l, x_cons, x_goto, ob_some, kl_i, kl_r, kl_l, kl_n, push_n, push_s, pop_0, pop_i, pop_r, Int.reduceToNat, List.length_cons, List.length_nil, Nat.reduceAdd, Nat.reduceLeDiff, Nat.zero_add, true_and, nI_n0, nat_le, Nat.add_zero, i_1, rt_pa_readChoice_0, rt_pa_readChoice_1, rt_pa_readChoice_b, x_al0, x_al1, x_call, x_getf, x_goto, x_icge, x_ifle, x_ifne, x_il2, x_il3, x_il4, x_inc3, x_inc4, x_iret, x_is3, x_is4, x_ldc, fd_173_0]
              refine s_cnx hB h3 fun g4 o4 => ?_
              have h4 := gIn_0 h3 o4 hjn
              simp -implicitDefEqProofs (disch := first | assumption | omega) only [szS_0, szS_i, szS_r, szS_l, x_cons, x_goto, ob_some, kl_i, kl_r, kl_l, kl_n, push_n, push_s, pop_0, pop_i, pop_r, Int.reduceToNat, List.length_cons, List.length_nil, Nat.reduceAdd, Nat.reduceLeDiff, Nat.zero_add, true_and, nI_n0, nat_le, Nat.add_zero, i_1, rt_pa_readChoice_0, rt_pa_readChoice_1, rt_pa_readChoice_b, x_al0, x_al1, x_call, x_getf, x_goto, x_icge, x_ifle, x_ifne, x_il2, x_il3, x_il4, x_inc3, x_inc4, x_iret, x_is3, x_is4, x_ldc, nI_add, b_pa_readChoice_2, nI_ltE, hc33, ↓reduceIte]
              refine ih (j + 1) _ 0 (c3 + 1) 401 f2' false true g4 (by omega) (by omega) (by omega) (by omega) (by omega) ⟨fun h => absurd h (Nat.lt_irrefl 0), fun h => by cases h⟩ ⟨fun _ => rfl, fun _ => Nat.succ_pos _⟩ h4 ?_ (fun l' j' g5 e' o5 => HN _ _ g5 (eu.trans (ap_r e')) (by
                rw [cxL_ap]
                exact gOK_t o3 (gOK_n o4 o5))) fun f' j' g5 e' x5 => HX _ _ g5 (eu.trans (ap_l e')) (gXx_t o3 (gXx_t o4 x5))
              rw [cxL_ap, cxL_ap, List.length_append, List.length_append]
              have e1 : (cxL (k - 1) (w1 p4 31)).length = (w1 p4 31).length := by cases p4 <;> rfl
              have e2 : (cxL (k - 1) (w1 p3 32)).length = (w1 p3 32).length := by cases p3 <;> rfl
              rw [e1, e2]
              show _ + 0 + 1 ≤ _
              omega
            · rw [decide_eq_false c6]
              have eu := ch_z (f1 := f1') (f2 := f2') (p4 := p4) (p3 := p3) e c5 c6
              simp -implicitDefEqProofs (disch := first | assumption | omega) only [↓reduceIte, b_pa_readChoice_108, szS_0, szS_i, szS_r, szS_l, x_cons, x_goto, ob_some, kl_i, kl_r, kl_l, kl_n, push_n, push_s, pop_0, pop_i, pop_r, Int.reduceToNat, List.length_cons, List.length_nil, Nat.reduceAdd, Nat.reduceLeDiff, Nat.zero_add, true_and, nI_n0, nat_le, Nat.add_zero, i_1, rt_pa_readChoice_0, rt_pa_readChoice_1, rt_pa_readChoice_b, x_al0, x_al1, x_call, x_getf, x_goto, x_icge, x_ifle, x_ifne, x_il2, x_il3, x_il4, x_inc3, x_inc4, x_iret, x_is3, x_is4, x_ldc]
              exact HN _ _ g3 eu o3
          have hl32 : p3 = true → s + (cxL (k - 1) (l ++ w1 p4 31)).length + 1 ≤ j := fun e => by
            have e1 : (cxL (k - 1) (w1 p4 31)).length = (w1 p4 31).length := by cases p4 <;> rfl
            rw [cxL_ap, List.length_append, e1]
            rw [e] at hso
            have : (w1 true 32).length = 1 := rfl
            omega
          have pt := ch_put hB (p := p3) (o := 32) (Or.inr rfl) h2 hl32
          cases hp : p3
          · have hz : c3 = 0 := by
              rw [hp] at hp3
              exact Nat.eq_zero_of_not_pos fun h => by cases hp3.mp h
            have o3 := gOK_t o2 (pt.1 hp)
            rw [← cxL_ap] at o3
            have := aft2 g2 o3 (by rw [hp]; show gIn T n k b (s + (cxL (k - 1) (l ++ w1 p4 31 ++ [])).length) j g2; rw [List.append_nil]; exact h2)
            have l0 : c3 ≤ 0 := by omega
            simp only [nI_leE, l0, ↓reduceIte, hz]
            subst hz
            try simp -implicitDefEqProofs (disch := first | assumption | omega) only [nI_leE, Nat.le_refl, ↓reduceIte]
            exact this
          · have hz : ¬ c3 ≤ 0 := by
              have := hp3.mpr hp
              omega
            simp -implicitDefEqProofs (disch := first | assumption | omega) only [nI_leE, hz, ↓reduceIte, szS_0, szS_i, szS_r, szS_l, x_cons, x_goto, ob_some, kl_i, kl_r, kl_l, kl_n, push_n, push_s, pop_0, pop_i, pop_r, Int.reduceToNat, List.length_cons, List.length_nil, Nat.reduceAdd, Nat.reduceLeDiff, Nat.zero_add, true_and, nI_n0, nat_le, Nat.add_zero, i_1, rt_pa_readChoice_0, rt_pa_readChoice_1, rt_pa_readChoice_b, x_al0, x_al1, x_call, x_getf, x_goto, x_icge, x_ifle, x_ifne, x_il2, x_il3, x_il4, x_inc3, x_inc4, x_iret, x_is3, x_is4, x_ldc]
            refine pt.2 hp fun g3 o3 h3 => ?_
            have o3 := gOK_t o2 o3
            rw [← cxL_ap] at o3
            simp -implicitDefEqProofs (disch := first | assumption | omega) only [szS_0, szS_i, szS_r, szS_l, x_cons, x_goto, ob_some, kl_i, kl_r, kl_l, kl_n, push_n, push_s, pop_0, pop_i, pop_r, Int.reduceToNat, List.length_cons, List.length_nil, Nat.reduceAdd, Nat.reduceLeDiff, Nat.zero_add, true_and, nI_n0, nat_le, Nat.add_zero, i_1, rt_pa_readChoice_0, rt_pa_readChoice_1, rt_pa_readChoice_b, x_al0, x_al1, x_call, x_getf, x_goto, x_icge, x_ifle, x_ifne, x_il2, x_il3, x_il4, x_inc3, x_inc4, x_iret, x_is3, x_is4, x_ldc]
            exact aft2 g3 o3 ⟨h3.1, o3.2.2.2.2.1, by
              have := h3.2.2.1
              rw [cxL_ap, List.length_append]
              omega, h3.2.2.2⟩
      have hl31 : p4 = true → s + (cxL (k - 1) l).length + 1 ≤ j := fun e => by
        rw [e] at hso
        have : (w1 true 31).length = 1 := rfl
        omega
      have pt := ch_put hB (p := p4) (o := 31) (Or.inl rfl) h1 hl31
      simp -implicitDefEqProofs (disch := first | assumption | omega) only [szS_0, szS_i, szS_r, szS_l, x_cons, x_goto, ob_some, kl_i, kl_r, kl_l, kl_n, push_n, push_s, pop_0, pop_i, pop_r, Int.reduceToNat, List.length_cons, List.length_nil, Nat.reduceAdd, Nat.reduceLeDiff, Nat.zero_add, true_and, nI_n0, nat_le, Nat.add_zero, i_1, rt_pa_readChoice_0, rt_pa_readChoice_1, rt_pa_readChoice_b, x_al0, x_al1, x_call, x_getf, x_goto, x_icge, x_ifle, x_ifne, x_il2, x_il3, x_il4, x_inc3, x_inc4, x_iret, x_is3, x_is4, x_ldc, n10, ↓reduceIte, b_pa_readChoice_31]
      cases hp : p4
      · have hz : c4 = 0 := by
          rw [hp] at hp4
          exact Nat.eq_zero_of_not_pos fun h => by cases hp4.mp h
        have o3 := gOK_t o1 (pt.1 hp)
        rw [← cxL_ap] at o3
        have := aft g1 o3 (by rw [hp]; show gIn T n k b (s + (cxL (k - 1) (l ++ [])).length) j g1; rw [List.append_nil]; exact h1)
        subst hz
        simp -implicitDefEqProofs (disch := first | assumption | omega) only [nI_leE, Nat.le_refl, ↓reduceIte]
        exact this
      · have hz : ¬ c4 ≤ 0 := by
          have := hp4.mpr hp
          omega
        simp -implicitDefEqProofs (disch := first | assumption | omega) only [nI_leE, hz, ↓reduceIte, szS_0, szS_i, szS_r, szS_l, x_cons, x_goto, ob_some, kl_i, kl_r, kl_l, kl_n, push_n, push_s, pop_0, pop_i, pop_r, Int.reduceToNat, List.length_cons, List.length_nil, Nat.reduceAdd, Nat.reduceLeDiff, Nat.zero_add, true_and, nI_n0, nat_le, Nat.add_zero, i_1, rt_pa_readChoice_0, rt_pa_readChoice_1, rt_pa_readChoice_b, x_al0, x_al1, x_call, x_getf, x_goto, x_icge, x_ifle, x_ifne, x_il2, x_il3, x_il4, x_inc3, x_inc4, x_iret, x_is3, x_is4, x_ldc]
        refine pt.2 hp fun g3 o3 h3 => ?_
        have o3 := gOK_t o1 o3
        rw [← cxL_ap] at o3
        simp -implicitDefEqProofs (disch := first | assumption | omega) only [szS_0, szS_i, szS_r, szS_l, x_cons, x_goto, ob_some, kl_i, kl_r, kl_l, kl_n, push_n, push_s, pop_0, pop_i, pop_r, Int.reduceToNat, List.length_cons, List.length_nil, Nat.reduceAdd, Nat.reduceLeDiff, Nat.zero_add, true_and, nI_n0, nat_le, Nat.add_zero, i_1, rt_pa_readChoice_0, rt_pa_readChoice_1, rt_pa_readChoice_b, x_al0, x_al1, x_call, x_getf, x_goto, x_icge, x_ifle, x_ifne, x_il2, x_il3, x_il4, x_inc3, x_inc4, x_iret, x_is3, x_is4, x_ldc]
        exact aft g3 o3 ⟨h3.1, o3.2.2.2.2.1, by
          have := h3.2.2.1
          rw [cxL_ap, List.length_append]
          omega, h3.2.2.2⟩
    · simp -implicitDefEqProofs (disch := first | assumption | omega) only [szS_0, szS_i, szS_r, szS_l, x_cons, x_goto, ob_some, kl_i, kl_r, kl_l, kl_n, push_n, push_s, pop_0, pop_i, pop_r, Int.reduceToNat, List.length_cons, List.length_nil, Nat.reduceAdd, Nat.reduceLeDiff, Nat.zero_add, true_and, nI_n0, nat_le, Nat.add_zero, i_1, rt_pa_readChoice_0, rt_pa_readChoice_1, rt_pa_readChoice_b, x_al0, x_al1, x_call, x_getf, x_goto, x_icge, x_ifle, x_ifne, x_il2, x_il3, x_il4, x_inc3, x_inc4, x_iret, x_is3, x_is4, x_ldc, ↓reduceIte]
      exact HX _ _ g1 (bd_l e) x1
theorem s_choice (hB : b = 22 ∨ b = 26 ∨ b = 52 ∨ b = 56 ∨ b = 82 ∨ b = 86) (hk0 : 1 ≤ k) {D : Nat} {F : Nat → Rs} {r : Int32} (hF : gFn T n k b (d + 2) pa_readCondition [.int r] F) (hK : ∀ i l j, F i = .inr (l, j) → okR n k true D i l j) : gFn T n k b (d + 3) pa_readChoice [.int r] (anF T n k F) := by
  intro g q P s i h HN HX
  refine in_pa_readChoice rfl ?_
  have hn := h.2.2.2.2.1
  have hi1 := h.2.2.2.2.2.2
  have hsi := h.2.2.1
  rw [anF_ch] at HN HX
  rw [b_pa_readChoice_0]
  simp -implicitDefEqProofs (disch := first | assumption | omega) only [szS_0, szS_i, szS_r, szS_l, x_cons, x_goto, ob_some, kl_i, kl_r, kl_l, kl_n, push_n, push_s, pop_0, pop_i, pop_r, Int.reduceToNat, List.length_cons, List.length_nil, Nat.reduceAdd, Nat.reduceLeDiff, Nat.zero_add, true_and, nI_n0, nat_le, Nat.add_zero, i_1, rt_pa_readChoice_0, rt_pa_readChoice_1, rt_pa_readChoice_b, x_al0, x_al1, x_call, x_getf, x_goto, x_icge, x_ifle, x_ifne, x_il2, x_il3, x_il4, x_inc3, x_inc4, x_iret, x_is3, x_is4, x_ldc, b_pa_readChoice_2, nI_ltE, Nat.reduceLT, ↓reduceIte]
  exact cho_lp hB hk0 h.2.2.2.2.2.1 hn hF hK 401 i s 0 0 401 401 false false g (by omega) (by omega) (by omega) (by omega) (by omega) ⟨fun h => absurd h (Nat.lt_irrefl 0), fun h => by cases h⟩ ⟨fun h => absurd h (Nat.lt_irrefl 0), fun h => by cases h⟩ h (by show s + 0 + 0 ≤ i; omega) HN HX
theorem s_ccmp (hB : b = 22 ∨ b = 26 ∨ b = 52 ∨ b = 56 ∨ b = 82 ∨ b = 86) (hk0 : 1 ≤ k) {r : Int32} {x3 : Int32} (h : gIn T n k b s i g) (HN : ∀ l j g', cmF_ T n k i = .inr (l, j) → gOK T n k b s (cxL (k - 1) l) j g g' → P (some (.int (nI 1))) (E g' q)) (HX : ∀ f j g', cmF_ T n k i = .inl (f, j) → gXx T n b f j g g' → P (some (.int (nI 0))) (E g' q)) :
    wp (ev (d + 4)) P pa_readCondition 102 [some (.ref 173), some (.ref b), some (.int r), some (.int x3), none] [] (E g q) := by
  have n10 : (nI 1 = nI 0) = False := eq_false (by decide)
  have hk := h.2.2.2.2.2.1
  have hsi := h.2.2.1
  have hn := h.2.2.2.2.1
  rw [b_pa_readCondition_102]
  simp -implicitDefEqProofs (disch := first | assumption | omega) only [szS_0, szS_i, szS_r, szS_l, x_cons, x_goto, ob_some, kl_i, kl_r, kl_l, kl_n, push_n, push_s, pop_0, pop_i, pop_r, Int.reduceToNat, List.length_cons, List.length_nil, Nat.reduceAdd, Nat.reduceLeDiff, Nat.zero_add, true_and, nI_n0, nat_le, Nat.add_zero, rt_pa_readCondition_0, rt_pa_readCondition_1, rt_pa_readCondition_b, x_al0, x_al1, x_call, x_getf, x_goto, x_iadd, x_iclt, x_ifeq, x_ifne, x_il2, x_il3, x_il4, x_iret, x_is3, x_is4, x_ldc]
  refine s_csum (d := d) hB hk0 h (fun l j g1 e o1 => ?_) fun f' j g1 e x1 => ?_
  · have u := smF_k hk0 hk e
    have h1 := gIn_t h o1 (okR_ce hsi u) u.2.1 (okR_j1 u)
    obtain ⟨ht, -⟩ := tkC_t hk h1.1
    have eu : cmF_ T n k i = if 160 ≤ kC T n k j ∧ kC T n k j ≤ 162 then bd (smF T n k (j + 1)) fun l2 j2 => .inr (l ++ l2 ++ [(kC T n k j - 133, 0)], j2) else .inl (1, j) := bd_r e
    have go : ∀ sg : Nat, (sg = 60 ∨ sg = 61 ∨ sg = 62) → kC T n k j = 100 + sg → wp (ev (d + 4)) P pa_readCondition 157 [some (.ref 173), some (.ref b), some (.int r), some (.int x3), none] [] (E g1 q) := by
      intro sg hsg hc
      rw [if_pos (by omega)] at eu
      have e5 : g1 168 5 = nI sg := by
        have := (ht.2.2.2.1 (by omega)).2.1
        rw [this, hc, Nat.add_sub_cancel_left]
      have hjn := kC_l (T := T) (n := n) (i := j) hk (by omega)
      have ho : kC T n k j - 133 = sg - 33 := by omega
      have eo : cxL (k - 1) [(sg - 33, 0)] = [20000 + sg] := by rcases hsg with rfl | rfl | rfl <;> rfl
      rw [ho] at eu
      rw [b_pa_readCondition_157]
      simp -implicitDefEqProofs (disch := first | assumption | omega) only [szS_0, szS_i, szS_r, szS_l, x_cons, x_goto, ob_some, kl_i, kl_r, kl_l, kl_n, push_n, push_s, pop_0, pop_i, pop_r, Int.reduceToNat, List.length_cons, List.length_nil, Nat.reduceAdd, Nat.reduceLeDiff, Nat.zero_add, true_and, nI_n0, nat_le, Nat.add_zero, rt_pa_readCondition_0, rt_pa_readCondition_1, rt_pa_readCondition_b, x_al0, x_al1, x_call, x_getf, x_goto, x_iadd, x_iclt, x_ifeq, x_ifne, x_il2, x_il3, x_il4, x_iret, x_is3, x_is4, x_ldc, fd_173_0, fd_168_0, fd_168_1, sf_168_1, fd_168_2, sf_168_2, fd_168_3, sf_168_3, fd_168_4, sf_168_4, fd_168_5, sf_168_5, fd_168_6, fd_168_7, fd_168_8, fd_168_9, sf_168_9, fd_168_10, sf_168_10, e5]
      refine s_cnx (d := d + 2) hB h1 fun g2 o2 => ?_
      have h2 := gIn_0 h1 o2 hjn
      simp -implicitDefEqProofs (disch := first | assumption | omega) only [szS_0, szS_i, szS_r, szS_l, x_cons, x_goto, ob_some, kl_i, kl_r, kl_l, kl_n, push_n, push_s, pop_0, pop_i, pop_r, Int.reduceToNat, List.length_cons, List.length_nil, Nat.reduceAdd, Nat.reduceLeDiff, Nat.zero_add, true_and, nI_n0, nat_le, Nat.add_zero, rt_pa_readCondition_0, rt_pa_readCondition_1, rt_pa_readCondition_b, x_al0, x_al1, x_call, x_getf, x_goto, x_iadd, x_iclt, x_ifeq, x_ifne, x_il2, x_il3, x_il4, x_iret, x_is3, x_is4, x_ldc]
      refine s_csum (d := d) hB hk0 h2 (fun l' j' g3 e' o3 => ?_) fun f' j' g3 e' x3 => ?_
      · have u' := smF_k hk0 hk e'
        have ls := h1.2.2.1
        have h3 := gIn_t h2 o3 (okR_cs ls u') u'.2.1 (okR_j1 u')
        have hl := okR_c1 ls u'
        rw [bd_r e'] at eu
        simp -implicitDefEqProofs (disch := first | assumption | omega) only [szS_0, szS_i, szS_r, szS_l, x_cons, x_goto, ob_some, kl_i, kl_r, kl_l, kl_n, push_n, push_s, pop_0, pop_i, pop_r, Int.reduceToNat, List.length_cons, List.length_nil, Nat.reduceAdd, Nat.reduceLeDiff, Nat.zero_add, true_and, nI_n0, nat_le, Nat.add_zero, rt_pa_readCondition_0, rt_pa_readCondition_1, rt_pa_readCondition_b, x_al0, x_al1, x_call, x_getf, x_goto, x_iadd, x_iclt, x_ifeq, x_ifne, x_il2, x_il3, x_il4, x_iret, x_is3, x_is4, x_ldc, n10, ↓reduceIte, b_pa_readCondition_183, nI_add]
        refine s_cput (d := d + 3) hB h3 (by have := u'.2.1; omega) fun g4 o4 => ?_
        simp -implicitDefEqProofs (disch := first | assumption | omega) only [szS_0, szS_i, szS_r, szS_l, x_cons, x_goto, ob_some, kl_i, kl_r, kl_l, kl_n, push_n, push_s, pop_0, pop_i, pop_r, Int.reduceToNat, List.length_cons, List.length_nil, Nat.reduceAdd, Nat.reduceLeDiff, Nat.zero_add, true_and, nI_n0, nat_le, Nat.add_zero, rt_pa_readCondition_0, rt_pa_readCondition_1, rt_pa_readCondition_b, x_al0, x_al1, x_call, x_getf, x_goto, x_iadd, x_iclt, x_ifeq, x_ifne, x_il2, x_il3, x_il4, x_iret, x_is3, x_is4, x_ldc]
        refine HN _ _ g4 eu ?_
        rw [cxL_ap, cxL_ap, eo, List.append_assoc]
        exact gOK_t o1 (gOK_t (gOK_n o2 o3) o4)
      · simp -implicitDefEqProofs (disch := first | assumption | omega) only [szS_0, szS_i, szS_r, szS_l, x_cons, x_goto, ob_some, kl_i, kl_r, kl_l, kl_n, push_n, push_s, pop_0, pop_i, pop_r, Int.reduceToNat, List.length_cons, List.length_nil, Nat.reduceAdd, Nat.reduceLeDiff, Nat.zero_add, true_and, nI_n0, nat_le, Nat.add_zero, rt_pa_readCondition_0, rt_pa_readCondition_1, rt_pa_readCondition_b, x_al0, x_al1, x_call, x_getf, x_goto, x_iadd, x_iclt, x_ifeq, x_ifne, x_il2, x_il3, x_il4, x_iret, x_is3, x_is4, x_ldc, ↓reduceIte]
        exact HX _ _ g3 (eu.trans (bd_l e')) (gXx_t o1 (gXx_t o2 x3))
    simp -implicitDefEqProofs (disch := first | assumption | omega) only [szS_0, szS_i, szS_r, szS_l, x_cons, x_goto, ob_some, kl_i, kl_r, kl_l, kl_n, push_n, push_s, pop_0, pop_i, pop_r, Int.reduceToNat, List.length_cons, List.length_nil, Nat.reduceAdd, Nat.reduceLeDiff, Nat.zero_add, true_and, nI_n0, nat_le, Nat.add_zero, rt_pa_readCondition_0, rt_pa_readCondition_1, rt_pa_readCondition_b, x_al0, x_al1, x_call, x_getf, x_goto, x_iadd, x_iclt, x_ifeq, x_ifne, x_il2, x_il3, x_il4, x_iret, x_is3, x_is4, x_ldc, n10, ↓reduceIte, b_pa_readCondition_112, fd_173_0, s_cisSign hk h1.1, bI_0]
    by_cases c1 : kC T n k j = 100 + 60
    · rw [decide_eq_true c1]
      simp -implicitDefEqProofs (disch := first | assumption | omega) only [Bool.true_eq_false, ↓reduceIte]
      exact go 60 (Or.inl rfl) c1
    · rw [decide_eq_false c1]
      simp -implicitDefEqProofs (disch := first | assumption | omega) only [↓reduceIte, szS_0, szS_i, szS_r, szS_l, x_cons, x_goto, ob_some, kl_i, kl_r, kl_l, kl_n, push_n, push_s, pop_0, pop_i, pop_r, Int.reduceToNat, List.length_cons, List.length_nil, Nat.reduceAdd, Nat.reduceLeDiff, Nat.zero_add, true_and, nI_n0, nat_le, Nat.add_zero, rt_pa_readCondition_0, rt_pa_readCondition_1, rt_pa_readCondition_b, x_al0, x_al1, x_call, x_getf, x_goto, x_iadd, x_iclt, x_ifeq, x_ifne, x_il2, x_il3, x_il4, x_iret, x_is3, x_is4, x_ldc, fd_173_0, s_cisSign hk h1.1, bI_0]
      by_cases c2 : kC T n k j = 100 + 61
      · rw [decide_eq_true c2]
        simp -implicitDefEqProofs (disch := first | assumption | omega) only [Bool.true_eq_false, ↓reduceIte]
        exact go 61 (Or.inr (Or.inl rfl)) c2
      · rw [decide_eq_false c2]
        simp -implicitDefEqProofs (disch := first | assumption | omega) only [↓reduceIte, szS_0, szS_i, szS_r, szS_l, x_cons, x_goto, ob_some, kl_i, kl_r, kl_l, kl_n, push_n, push_s, pop_0, pop_i, pop_r, Int.reduceToNat, List.length_cons, List.length_nil, Nat.reduceAdd, Nat.reduceLeDiff, Nat.zero_add, true_and, nI_n0, nat_le, Nat.add_zero, rt_pa_readCondition_0, rt_pa_readCondition_1, rt_pa_readCondition_b, x_al0, x_al1, x_call, x_getf, x_goto, x_iadd, x_iclt, x_ifeq, x_ifne, x_il2, x_il3, x_il4, x_iret, x_is3, x_is4, x_ldc, fd_173_0, s_cisSign hk h1.1, bI_0]
        by_cases c3 : kC T n k j = 100 + 62
        · rw [decide_eq_true c3]
          simp -implicitDefEqProofs (disch := first | assumption | omega) only [Bool.true_eq_false, ↓reduceIte]
          exact go 62 (Or.inr (Or.inr rfl)) c3
        · rw [decide_eq_false c3]
          rw [if_neg (by omega)] at eu
          simp -implicitDefEqProofs (disch := first | assumption | omega) only [↓reduceIte, szS_0, szS_i, szS_r, szS_l, x_cons, x_goto, ob_some, kl_i, kl_r, kl_l, kl_n, push_n, push_s, pop_0, pop_i, pop_r, Int.reduceToNat, List.length_cons, List.length_nil, Nat.reduceAdd, Nat.reduceLeDiff, Nat.zero_add, true_and, nI_n0, nat_le, Nat.add_zero, rt_pa_readCondition_0, rt_pa_readCondition_1, rt_pa_readCondition_b, x_al0, x_al1, x_call, x_getf, x_goto, x_iadd, x_iclt, x_ifeq, x_ifne, x_il2, x_il3, x_il4, x_iret, x_is3, x_is4, x_ldc, fd_173_0]
          refine s_crefuse (d := d + 3) hB h1 fun g2 x2 => ?_
          simp -implicitDefEqProofs (disch := first | assumption | omega) only [szS_0, szS_i, szS_r, szS_l, x_cons, x_goto, ob_some, kl_i, kl_r, kl_l, kl_n, push_n, push_s, pop_0, pop_i, pop_r, Int.reduceToNat, List.length_cons, List.length_nil, Nat.reduceAdd, Nat.reduceLeDiff, Nat.zero_add, true_and, nI_n0, nat_le, Nat.add_zero, rt_pa_readCondition_0, rt_pa_readCondition_1, rt_pa_readCondition_b, x_al0, x_al1, x_call, x_getf, x_goto, x_iadd, x_iclt, x_ifeq, x_ifne, x_il2, x_il3, x_il4, x_iret, x_is3, x_is4, x_ldc]
          exact HX _ _ g2 eu (gXx_t o1 x2)
  · simp -implicitDefEqProofs (disch := first | assumption | omega) only [szS_0, szS_i, szS_r, szS_l, x_cons, x_goto, ob_some, kl_i, kl_r, kl_l, kl_n, push_n, push_s, pop_0, pop_i, pop_r, Int.reduceToNat, List.length_cons, List.length_nil, Nat.reduceAdd, Nat.reduceLeDiff, Nat.zero_add, true_and, nI_n0, nat_le, Nat.add_zero, rt_pa_readCondition_0, rt_pa_readCondition_1, rt_pa_readCondition_b, x_al0, x_al1, x_call, x_getf, x_goto, x_iadd, x_iclt, x_ifeq, x_ifne, x_il2, x_il3, x_il4, x_iret, x_is3, x_is4, x_ldc, ↓reduceIte]
    exact HX _ _ g1 (bd_l e) x1
theorem s_ccond (hB : b = 22 ∨ b = 26 ∨ b = 52 ∨ b = 56 ∨ b = 82 ∨ b = 86) (hk0 : 1 ≤ k) (hk : k < 3) : ∀ (r d : Nat), r ≤ 8 → gFn T n k b (d + 5 + 2 * r) pa_readCondition [.int (nI (8 - r))] (oneF T n k r) := by
  have hcw := ct_w hk0 hk
  have hw4 : 4 < WN k := by omega
  intro r
  induction r with
  | zero =>
    intro d hr
    show gFn T n k b (d + 5) pa_readCondition [.int (nI 8)] (oneF T n k 0)
    intro g q P s i h HN HX
    refine in_pa_readCondition rfl ?_
    have eu : oneF T n k 0 i = if kC T n k i = 6 ∨ kC T n k i = 140 then .inl (3, i) else cmF_ T n k i := rfl
    have n10 : (nI 1 = nI 0) = False := eq_false (by decide)
    have bad : kC T n k i = 6 ∨ kC T n k i = 140 → ∀ x3, wp (ev (d + 4)) P pa_readCondition 25 [some (.ref 173), some (.ref b), some (.int (nI 8)), x3, none] [] (E g q) := by
      intro hc x3
      rw [if_pos hc] at eu
      rw [b_pa_readCondition_25]
      simp -implicitDefEqProofs (disch := first | assumption | omega) only [szS_0, szS_i, szS_r, szS_l, x_cons, x_goto, ob_some, kl_i, kl_r, kl_l, kl_n, push_n, push_s, pop_0, pop_i, pop_r, Int.reduceToNat, List.length_cons, List.length_nil, Nat.reduceAdd, Nat.reduceLeDiff, Nat.zero_add, true_and, nI_n0, nat_le, Nat.add_zero, rt_pa_readCondition_0, rt_pa_readCondition_1, rt_pa_readCondition_b, x_al0, x_al1, x_call, x_getf, x_goto, x_iadd, x_iclt, x_ifeq, x_ifne, x_il2, x_il3, x_il4, x_iret, x_is3, x_is4, x_ldc, nI_ltE, Nat.lt_irrefl, ↓reduceIte, fd_173_0]
      refine s_crefuse (d := d + 3) hB h fun g2 x2 => ?_
      simp -implicitDefEqProofs (disch := first | assumption | omega) only [szS_0, szS_i, szS_r, szS_l, x_cons, x_goto, ob_some, kl_i, kl_r, kl_l, kl_n, push_n, push_s, pop_0, pop_i, pop_r, Int.reduceToNat, List.length_cons, List.length_nil, Nat.reduceAdd, Nat.reduceLeDiff, Nat.zero_add, true_and, nI_n0, nat_le, Nat.add_zero, rt_pa_readCondition_0, rt_pa_readCondition_1, rt_pa_readCondition_b, x_al0, x_al1, x_call, x_getf, x_goto, x_iadd, x_iclt, x_ifeq, x_ifne, x_il2, x_il3, x_il4, x_iret, x_is3, x_is4, x_ldc]
      exact HX _ _ g2 eu x2
    rw [b_pa_readCondition_0]
    simp -implicitDefEqProofs (disch := first | assumption | omega) only [szS_0, szS_i, szS_r, szS_l, x_cons, x_goto, ob_some, kl_i, kl_r, kl_l, kl_n, push_n, push_s, pop_0, pop_i, pop_r, Int.reduceToNat, List.length_cons, List.length_nil, Nat.reduceAdd, Nat.reduceLeDiff, Nat.zero_add, true_and, nI_n0, nat_le, Nat.add_zero, rt_pa_readCondition_0, rt_pa_readCondition_1, rt_pa_readCondition_b, x_al0, x_al1, x_call, x_getf, x_goto, x_iadd, x_iclt, x_ifeq, x_ifne, x_il2, x_il3, x_il4, x_iret, x_is3, x_is4, x_ldc, fd_173_0, s_cisWord hk h.1 hw4, hcw.2.2.2.2.1, bI_0]
    by_cases c1 : kC T n k i = 6
    · rw [decide_eq_true c1]
      simp -implicitDefEqProofs (disch := first | assumption | omega) only [Bool.true_eq_false, ↓reduceIte]
      exact bad (Or.inl c1) _
    · rw [decide_eq_false c1]
      simp -implicitDefEqProofs (disch := first | assumption | omega) only [↓reduceIte, szS_0, szS_i, szS_r, szS_l, x_cons, x_goto, ob_some, kl_i, kl_r, kl_l, kl_n, push_n, push_s, pop_0, pop_i, pop_r, Int.reduceToNat, List.length_cons, List.length_nil, Nat.reduceAdd, Nat.reduceLeDiff, Nat.zero_add, true_and, nI_n0, nat_le, Nat.add_zero, rt_pa_readCondition_0, rt_pa_readCondition_1, rt_pa_readCondition_b, x_al0, x_al1, x_call, x_getf, x_goto, x_iadd, x_iclt, x_ifeq, x_ifne, x_il2, x_il3, x_il4, x_iret, x_is3, x_is4, x_ldc, fd_173_0, s_cisSign hk h.1, bI_0]
      by_cases c2 : kC T n k i = 100 + 40
      · rw [decide_eq_true c2]
        simp -implicitDefEqProofs (disch := first | assumption | omega) only [Bool.true_eq_false, ↓reduceIte]
        exact bad (Or.inr c2) _
      · rw [decide_eq_false c2]
        rw [if_neg (fun h => h.elim c1 c2)] at eu
        simp -implicitDefEqProofs (disch := first | assumption | omega) only [↓reduceIte]
        exact s_ccmp hB hk0 h (fun l j g' e o => HN l j g' (eu.trans e) o) fun f j g' e x => HX f j g' (eu.trans e) x
  | succ r hr =>
    intro d hr8
    obtain ⟨D, hD⟩ : ∃ D, D = d + 2 + 2 * r := ⟨_, rfl⟩
    have hr1 : gFn T n k b (D + 3) pa_readCondition [.int (nI (8 - r))] (oneF T n k r) := by
      rw [show D + 3 = d + 5 + 2 * r by omega]
      exact hr d (by omega)
    have hr2 : gFn T n k b (D + 4) pa_readCondition [.int (nI (8 - r))] (oneF T n k r) := by
      rw [show D + 4 = d + 1 + 5 + 2 * r by omega]
      exact hr (d + 1) (by omega)
    rw [show d + 5 + 2 * (r + 1) = D + 5 by omega]
    have hK := oneF_k (T := T) (n := n) hk0 hk r
    have hA : gFn T n k b (D + 4) pa_readChoice [.int (nI (8 - r))] (anF T n k (oneF T n k r)) := s_choice hB hk0 hr1 hK
    intro g q P s i h HN HX
    refine in_pa_readCondition rfl ?_
    have hsi := h.2.2.1
    have hn := h.2.2.2.2.1
    have n10 : (nI 1 = nI 0) = False := eq_false (by decide)
    have l8 : 8 - (r + 1) < 8 := by omega
    have e8 : 8 - (r + 1) + 1 = 8 - r := by omega
    have eu : oneF T n k (r + 1) i = if kC T n k i = 6 then bd (oneF T n k r (i + 1)) fun l j => .inr (l ++ [(30, 0)], j) else if kC T n k i = 140 then bd (anF T n k (oneF T n k r) (i + 1)) fun l j => if kC T n k j = 141 then .inr (l, j + 1) else .inl (1, j) else cmF_ T n k i := rfl
    rw [b_pa_readCondition_0]
    simp -implicitDefEqProofs (disch := first | assumption | omega) only [szS_0, szS_i, szS_r, szS_l, x_cons, x_goto, ob_some, kl_i, kl_r, kl_l, kl_n, push_n, push_s, pop_0, pop_i, pop_r, Int.reduceToNat, List.length_cons, List.length_nil, Nat.reduceAdd, Nat.reduceLeDiff, Nat.zero_add, true_and, nI_n0, nat_le, Nat.add_zero, rt_pa_readCondition_0, rt_pa_readCondition_1, rt_pa_readCondition_b, x_al0, x_al1, x_call, x_getf, x_goto, x_iadd, x_iclt, x_ifeq, x_ifne, x_il2, x_il3, x_il4, x_iret, x_is3, x_is4, x_ldc, fd_173_0, s_cisWord hk h.1 hw4, hcw.2.2.2.2.1, bI_0]
    by_cases c1 : kC T n k i = 6
    · rw [decide_eq_true c1]
      rw [if_pos c1] at eu
      have hin := kC_l (T := T) (n := n) (i := i) hk (by omega)
      simp -implicitDefEqProofs (disch := first | assumption | omega) only [Bool.true_eq_false, ↓reduceIte, b_pa_readCondition_25, szS_0, szS_i, szS_r, szS_l, x_cons, x_goto, ob_some, kl_i, kl_r, kl_l, kl_n, push_n, push_s, pop_0, pop_i, pop_r, Int.reduceToNat, List.length_cons, List.length_nil, Nat.reduceAdd, Nat.reduceLeDiff, Nat.zero_add, true_and, nI_n0, nat_le, Nat.add_zero, rt_pa_readCondition_0, rt_pa_readCondition_1, rt_pa_readCondition_b, x_al0, x_al1, x_call, x_getf, x_goto, x_iadd, x_iclt, x_ifeq, x_ifne, x_il2, x_il3, x_il4, x_iret, x_is3, x_is4, x_ldc, nI_ltE, l8, b_pa_readCondition_40, fd_173_0]
      refine s_cnx (d := D + 2) hB h fun g1 o1 => ?_
      have h1 := gIn_0 h o1 hin
      simp -implicitDefEqProofs (disch := first | assumption | omega) only [szS_0, szS_i, szS_r, szS_l, x_cons, x_goto, ob_some, kl_i, kl_r, kl_l, kl_n, push_n, push_s, pop_0, pop_i, pop_r, Int.reduceToNat, List.length_cons, List.length_nil, Nat.reduceAdd, Nat.reduceLeDiff, Nat.zero_add, true_and, nI_n0, nat_le, Nat.add_zero, rt_pa_readCondition_0, rt_pa_readCondition_1, rt_pa_readCondition_b, x_al0, x_al1, x_call, x_getf, x_goto, x_iadd, x_iclt, x_ifeq, x_ifne, x_il2, x_il3, x_il4, x_iret, x_is3, x_is4, x_ldc, bI_0, Bool.true_eq_false, ↓reduceIte, b_pa_readCondition_80, nI_add, e8]
      refine hr2 h1 (fun l j g2 e o2 => ?_) fun f' j g2 e x2 => ?_
      · have u := hK _ _ _ e
        have h2 := gIn_t h1 o2 (okR_cs hsi u) u.2.1 (okR_j1 u)
        have hl := okR_c1 hsi u
        simp -implicitDefEqProofs (disch := first | assumption | omega) only [szS_0, szS_i, szS_r, szS_l, x_cons, x_goto, ob_some, kl_i, kl_r, kl_l, kl_n, push_n, push_s, pop_0, pop_i, pop_r, Int.reduceToNat, List.length_cons, List.length_nil, Nat.reduceAdd, Nat.reduceLeDiff, Nat.zero_add, true_and, nI_n0, nat_le, Nat.add_zero, rt_pa_readCondition_0, rt_pa_readCondition_1, rt_pa_readCondition_b, x_al0, x_al1, x_call, x_getf, x_goto, x_iadd, x_iclt, x_ifeq, x_ifne, x_il2, x_il3, x_il4, x_iret, x_is3, x_is4, x_ldc, n10, ↓reduceIte, b_pa_readCondition_93]
        refine s_cput (d := D + 3) hB h2 (by have := u.2.1; omega) fun g3 o3 => ?_
        simp -implicitDefEqProofs (disch := first | assumption | omega) only [szS_0, szS_i, szS_r, szS_l, x_cons, x_goto, ob_some, kl_i, kl_r, kl_l, kl_n, push_n, push_s, pop_0, pop_i, pop_r, Int.reduceToNat, List.length_cons, List.length_nil, Nat.reduceAdd, Nat.reduceLeDiff, Nat.zero_add, true_and, nI_n0, nat_le, Nat.add_zero, rt_pa_readCondition_0, rt_pa_readCondition_1, rt_pa_readCondition_b, x_al0, x_al1, x_call, x_getf, x_goto, x_iadd, x_iclt, x_ifeq, x_ifne, x_il2, x_il3, x_il4, x_iret, x_is3, x_is4, x_ldc]
        refine HN _ _ g3 (eu.trans (bd_r e)) ?_
        rw [cxL_ap]
        exact gOK_t (gOK_n o1 o2) o3
      · simp -implicitDefEqProofs (disch := first | assumption | omega) only [szS_0, szS_i, szS_r, szS_l, x_cons, x_goto, ob_some, kl_i, kl_r, kl_l, kl_n, push_n, push_s, pop_0, pop_i, pop_r, Int.reduceToNat, List.length_cons, List.length_nil, Nat.reduceAdd, Nat.reduceLeDiff, Nat.zero_add, true_and, nI_n0, nat_le, Nat.add_zero, rt_pa_readCondition_0, rt_pa_readCondition_1, rt_pa_readCondition_b, x_al0, x_al1, x_call, x_getf, x_goto, x_iadd, x_iclt, x_ifeq, x_ifne, x_il2, x_il3, x_il4, x_iret, x_is3, x_is4, x_ldc, ↓reduceIte]
        exact HX _ _ g2 (eu.trans (bd_l e)) (gXx_t o1 x2)
    · rw [decide_eq_false c1]
      rw [if_neg c1] at eu
      simp -implicitDefEqProofs (disch := first | assumption | omega) only [↓reduceIte, szS_0, szS_i, szS_r, szS_l, x_cons, x_goto, ob_some, kl_i, kl_r, kl_l, kl_n, push_n, push_s, pop_0, pop_i, pop_r, Int.reduceToNat, List.length_cons, List.length_nil, Nat.reduceAdd, Nat.reduceLeDiff, Nat.zero_add, true_and, nI_n0, nat_le, Nat.add_zero, rt_pa_readCondition_0, rt_pa_readCondition_1, rt_pa_readCondition_b, x_al0, x_al1, x_call, x_getf, x_goto, x_iadd, x_iclt, x_ifeq, x_ifne, x_il2, x_il3, x_il4, x_iret, x_is3, x_is4, x_ldc, fd_173_0, s_cisSign hk h.1, bI_0]
      by_cases c2 : kC T n k i = 100 + 40
      · rw [decide_eq_true c2]
        rw [if_pos c2] at eu
        have hin := kC_l (T := T) (n := n) (i := i) hk (by omega)
        simp -implicitDefEqProofs (disch := first | assumption | omega) only [Bool.true_eq_false, ↓reduceIte, b_pa_readCondition_25, szS_0, szS_i, szS_r, szS_l, x_cons, x_goto, ob_some, kl_i, kl_r, kl_l, kl_n, push_n, push_s, pop_0, pop_i, pop_r, Int.reduceToNat, List.length_cons, List.length_nil, Nat.reduceAdd, Nat.reduceLeDiff, Nat.zero_add, true_and, nI_n0, nat_le, Nat.add_zero, rt_pa_readCondition_0, rt_pa_readCondition_1, rt_pa_readCondition_b, x_al0, x_al1, x_call, x_getf, x_goto, x_iadd, x_iclt, x_ifeq, x_ifne, x_il2, x_il3, x_il4, x_iret, x_is3, x_is4, x_ldc, nI_ltE, l8, b_pa_readCondition_40, fd_173_0]
        refine s_cnx (d := D + 2) hB h fun g1 o1 => ?_
        have h1 := gIn_0 h o1 hin
        simp -implicitDefEqProofs (disch := first | assumption | omega) only [szS_0, szS_i, szS_r, szS_l, x_cons, x_goto, ob_some, kl_i, kl_r, kl_l, kl_n, push_n, push_s, pop_0, pop_i, pop_r, Int.reduceToNat, List.length_cons, List.length_nil, Nat.reduceAdd, Nat.reduceLeDiff, Nat.zero_add, true_and, nI_n0, nat_le, Nat.add_zero, rt_pa_readCondition_0, rt_pa_readCondition_1, rt_pa_readCondition_b, x_al0, x_al1, x_call, x_getf, x_goto, x_iadd, x_iclt, x_ifeq, x_ifne, x_il2, x_il3, x_il4, x_iret, x_is3, x_is4, x_ldc, bI_0, ↓reduceIte, nI_add, e8]
        refine hA h1 (fun l j g2 e o2 => ?_) fun f' j g2 e x2 => ?_
        · have u := anF_k hK _ _ _ e
          have h2 := gIn_t h1 o2 (okR_cs hsi u) u.2.1 (okR_j1 u)
          rw [bd_r e] at eu
          simp -implicitDefEqProofs (disch := first | assumption | omega) only [szS_0, szS_i, szS_r, szS_l, x_cons, x_goto, ob_some, kl_i, kl_r, kl_l, kl_n, push_n, push_s, pop_0, pop_i, pop_r, Int.reduceToNat, List.length_cons, List.length_nil, Nat.reduceAdd, Nat.reduceLeDiff, Nat.zero_add, true_and, nI_n0, nat_le, Nat.add_zero, rt_pa_readCondition_0, rt_pa_readCondition_1, rt_pa_readCondition_b, x_al0, x_al1, x_call, x_getf, x_goto, x_iadd, x_iclt, x_ifeq, x_ifne, x_il2, x_il3, x_il4, x_iret, x_is3, x_is4, x_ldc, n10, ↓reduceIte, fd_173_0]
          refine s_takeSign (d := D + 1) (s := 41) hk h2.1 (by decide) (fun c3 g3 o3 => ?_) fun c3 g3 x3 => ?_
          · rw [if_pos c3] at eu
            simp -implicitDefEqProofs (disch := first | assumption | omega) only [szS_0, szS_i, szS_r, szS_l, x_cons, x_goto, ob_some, kl_i, kl_r, kl_l, kl_n, push_n, push_s, pop_0, pop_i, pop_r, Int.reduceToNat, List.length_cons, List.length_nil, Nat.reduceAdd, Nat.reduceLeDiff, Nat.zero_add, true_and, nI_n0, nat_le, Nat.add_zero, rt_pa_readCondition_0, rt_pa_readCondition_1, rt_pa_readCondition_b, x_al0, x_al1, x_call, x_getf, x_goto, x_iadd, x_iclt, x_ifeq, x_ifne, x_il2, x_il3, x_il4, x_iret, x_is3, x_is4, x_ldc, n10, ↓reduceIte, b_pa_readCondition_79]
            have oo := gOK_t (gOK_n o1 o2) (gOK_N hB h2 o3)
            rw [List.append_nil] at oo
            exact HN _ _ g3 eu oo
          · rw [if_neg c3] at eu
            simp -implicitDefEqProofs (disch := first | assumption | omega) only [szS_0, szS_i, szS_r, szS_l, x_cons, x_goto, ob_some, kl_i, kl_r, kl_l, kl_n, push_n, push_s, pop_0, pop_i, pop_r, Int.reduceToNat, List.length_cons, List.length_nil, Nat.reduceAdd, Nat.reduceLeDiff, Nat.zero_add, true_and, nI_n0, nat_le, Nat.add_zero, rt_pa_readCondition_0, rt_pa_readCondition_1, rt_pa_readCondition_b, x_al0, x_al1, x_call, x_getf, x_goto, x_iadd, x_iclt, x_ifeq, x_ifne, x_il2, x_il3, x_il4, x_iret, x_is3, x_is4, x_ldc, ↓reduceIte, b_pa_readCondition_78, b_pa_readCondition_79]
            exact HX _ _ g3 eu (gXx_t (gOK_n o1 o2) (gXx_N hB h2 x3))
        · simp -implicitDefEqProofs (disch := first | assumption | omega) only [szS_0, szS_i, szS_r, szS_l, x_cons, x_goto, ob_some, kl_i, kl_r, kl_l, kl_n, push_n, push_s, pop_0, pop_i, pop_r, Int.reduceToNat, List.length_cons, List.length_nil, Nat.reduceAdd, Nat.reduceLeDiff, Nat.zero_add, true_and, nI_n0, nat_le, Nat.add_zero, rt_pa_readCondition_0, rt_pa_readCondition_1, rt_pa_readCondition_b, x_al0, x_al1, x_call, x_getf, x_goto, x_iadd, x_iclt, x_ifeq, x_ifne, x_il2, x_il3, x_il4, x_iret, x_is3, x_is4, x_ldc, ↓reduceIte, b_pa_readCondition_78, b_pa_readCondition_79]
          exact HX _ _ g2 (eu.trans (bd_l e)) (gXx_t o1 x2)
      · rw [decide_eq_false c2]
        rw [if_neg c2] at eu
        simp -implicitDefEqProofs (disch := first | assumption | omega) only [↓reduceIte]
        exact s_ccmp (d := D) hB hk0 (by exact h) (fun l j g' e o => HN l j g' (eu.trans e) o) fun f j g' e x => HX f j g' (eu.trans e) x
end CC
