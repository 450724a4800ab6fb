/-! the reference's steps from a fork by an arm -/
theorem upw_o {α : Type} {f : Nat → Nat → α} {a b : Nat} {r : Nat → α} (h : b ≠ a) : upw f a r b = f b := if_neg h
theorem upw_s {α : Type} {f : Nat → Nat → α} {a : Nat} {r : Nat → α} : upw f a r a = r := if_pos rfl
theorem upw_g {α : Type} {f : Nat → Nat → α} {a : Nat} : upw f a (f a) = f := by
  funext b
  unfold upw
  split
  next h => rw [h]
  next h => rfl
theorem up2_w {α : Type} {f : Nat → Nat → α} {a k : Nat} {r : Nat → α} {v : α} : up2 (upw f a r) a k v = upw f a (fun j => if j = k then v else r j) := by
  funext b j
  unfold up2 upw
  by_cases h : b = a
  · subst h
    by_cases h2 : j = k
    · simp [h2]
    · simp [h2]
  · simp [h]
theorem up2_g {α : Type} {f : Nat → Nat → α} {a k : Nat} {v : α} : up2 f a k v = upw f a (fun j => if j = k then v else f a j) := by
  have := up2_w (f := f) (a := a) (k := k) (r := f a) (v := v)
  rw [upw_g] at this
  exact this
theorem upw_w {α : Type} {f : Nat → Nat → α} {a : Nat} {r r2 : Nat → α} : upw (upw f a r) a r2 = upw f a r2 := by
  funext b
  unfold upw
  split <;> rfl
section MD
variable {d : Nat} {g : Nat → Nat → Int32} {q : Nat → Nat → Int64} {P : QT}
theorem fa_0 {f a t : Int32} : ∀ (j n : Nat) (r : Nat → Int32), n + j = 16 → (∀ m, m < n → r m = nI 17) →
    (∀ r o, (∀ m, m < 16 → r m = nI 17) → wp (ev (d + 2)) P mo_far 25 [some (.ref 196), some (.int f), some (.int a), some (.int t), o, none] [] (E (upw g 207 r) q)) →
    wp (ev (d + 2)) P mo_far 3 [some (.ref 196), some (.int f), some (.int a), some (.int t), some (.int (nI n)), none] [] (E (upw g 207 r) q) := by
  intro j
  induction j with
  | zero =>
    intro n r hn hr H
    have hn : n = 16 := hn
    subst hn
    have := H r (some (.int (nI 16))) hr
    rw [b_mo_far_25] at this
    rw [b_mo_far_3]
    simp (disch := omega) only [x_cons, x_il4, x_ldc, x_icge, nI_ltE, Nat.lt_irrefl, ↓reduceIte, Int.reduceToNat, b_mo_far_25]
    exact this
  | succ j ih =>
    intro n r hn hr H
    have hn' : n < 16 := by omega
    rw [b_mo_far_3]
    simp (disch := omega) only [szS_0, szS_i, szS_r, szS_l, x_cons, x_goto, ob_some, kl_i, kl_r, kl_l, kl_n, push_n, push_s, pop_0, pop_i, pop_r, Int.reduceToNat, List.length_cons, List.length_nil, Nat.reduceAdd, Nat.reduceLeDiff, Nat.zero_add, true_and, nI_n0, nat_le, Nat.add_zero, i_1, rt_mo_far, x_al0, x_call, x_getf, x_goto, x_iadd, x_iaload, x_iastore, x_icge, x_il1, x_il2, x_il3, x_il4, x_il5, x_inc4, x_inc5, x_iret, x_is4, x_is5, x_ldc, b_mo_far_0, b_mo_far_25, b_mo_far_112, b_mo_far_118, fd_196_0, fd_196_1, fd_196_2, fd_196_3, fd_196_4, sf_196_4, fd_196_5, sf_196_5, fd_196_6, fd_196_7, fd_196_8, fd_196_9, fd_196_10, fd_196_11, fd_196_12, sf_196_12, fd_196_13, sf_196_13, fd_196_14, sf_196_14, fd_196_15, sf_196_15, fd_196_16, sf_196_16, fd_196_17, sf_196_17, fd_196_18, sf_196_18, fd_196_19, sf_196_19, fd_196_20, sf_196_20, fd_196_21, sf_196_21, fd_196_22, sf_196_22, fd_196_23, sf_196_23, fd_196_24, sf_196_24, fd_196_25, sf_196_25, fd_196_26, sf_196_26, fd_196_27, fd_196_28, fd_196_29, fd_196_30, sf_196_30, fd_196_31, fd_196_32, fd_196_33, fd_196_34, fd_196_35, fd_196_36, fd_196_37, sf_196_37, fd_196_38, fd_196_39, sf_196_39, fd_196_40, sf_196_40, fd_196_41, sf_196_41, fd_196_42, fd_196_43, fd_196_44, ld_207, sd_207, ln_207, nI_ltE, hn', ↓reduceIte, nI_add, up2_w]
    refine ih (n + 1) _ (by omega) (fun m hm => ?_) H
    show (if m = n then nI 17 else r m) = nI 17
    split
    next e => rfl
    next e => exact hr m (by omega)
/-- what the steps so far are: s the first node, nodes below n done, of node n the arms below b -/
def faI (w : Nat → Int32) (s n b : Nat) (U : Nat → Nat) : Prop :=
  U s ≤ 1 ∧ (∀ m, m < 16 → U m = 17 ∨ ∃ k, U m = k + 1 ∧ pth w k s m) ∧ (∀ m, m < 16 → U m ≤ 17) ∧
  (∀ n' b', s ≤ n' → b' < am w n' → (n' < n ∨ (n' = n ∧ b' < b)) → U (tg w n' b') ≤ U n' + 1)
theorem faI_s {w : Nat → Int32} (h : WI w) {s n b : Nat} {U : Nat → Nat} (hs : s < 16) (hn : n < 16) (hb : b < am w n) (hU : faI w s n b U) :
    faI w s n (b + 1) (fun j => if j = tg w n b then (if U (tg w n b) < U n + 1 then U (tg w n b) else U n + 1) else U j) := by
  obtain ⟨h1, h2, h3, h4⟩ := hU
  have ht := tg_lt h hn hb
  have h0 := wi_n h
  have key : ∀ j, (if j = tg w n b then (if U (tg w n b) < U n + 1 then U (tg w n b) else U n + 1) else U j) ≤ U j := by
    intro j
    split
    next e =>
      rw [e]
      split <;> omega
    next e => exact Nat.le_refl _
  refine ⟨Nat.le_trans (key s) h1, fun m hm => ?_, fun m hm => Nat.le_trans (key m) (h3 m hm), fun n' b' e1 e2 e3 => ?_⟩
  · show (if m = tg w n b then _ else _) = 17 ∨ ∃ k, (if m = tg w n b then _ else _) = k + 1 ∧ _
    split
    next e =>
      subst e
      split
      next e4 => exact h2 _ hm
      next e4 =>
        rcases h2 n hn with e5 | ⟨k, e5, e6⟩
        · have := h3 _ hm
          omega
        · exact Or.inr ⟨k + 1, by omega, pth_add hb k s e6⟩
    next e => exact h2 m hm
  · have hn' : n' < 16 := by omega
    have ht' := tg_lt h hn' e2
    have e9 : (if n' = tg w n b then (if U (tg w n b) < U n + 1 then U (tg w n b) else U n + 1) else U n') = U n' := if_neg (by omega)
    show (if tg w n' b' = tg w n b then _ else _) ≤ (if n' = tg w n b then _ else _) + 1
    rw [e9]
    rcases e3 with e3 | ⟨rfl, e3⟩
    · exact Nat.le_trans (key _) (h4 n' b' e1 e2 (Or.inl e3))
    · by_cases eb : b' = b
      · subst eb
        rw [if_pos rfl]
        split <;> omega
      · exact Nat.le_trans (key _) (h4 n' b' e1 e2 (Or.inr ⟨rfl, by omega⟩))
theorem faI_e {w : Nat → Int32} (h : WI w) {s : Nat} {U : Nat → Nat} (hs : s < 16) (hU : faI w s (nn w) 0 U) {m : Nat} (hm : ∃ k, pth w k s m) : U m = far w s m + 1 := by
  obtain ⟨h1, h2, h3, h4⟩ := hU
  have h0 := wi_n h
  have key : ∀ k m, pth w k s m → U m ≤ k + 1 := by
    intro k
    induction k with
    | zero =>
      intro m e
      rw [← show s = m from e]
      exact h1
    | succ k ih =>
      intro m e
      obtain ⟨n', b, e1, e2, e3⟩ := pth_snoc k s m e
      have e4 := pth_le h k s n' hs e1
      have e5 := tg_lt h e4.2 e2
      have e6 := h4 n' b (by omega) e2 (Or.inl (by omega))
      rw [e3] at e6
      have := ih n' e1
      omega
  obtain ⟨k, hk⟩ := hm
  have e1 : far w s m ≠ 99 := (far_iff h hs).mpr ⟨k, hk⟩
  have e2 := far_ok h hs e1
  have e3 := key _ _ e2
  have e4 := pth_le h _ _ _ hs e2
  rcases h2 m e4.2 with e5 | ⟨k', e5, e6⟩
  · rcases far_99 h (s := s) (m := m) hs with e7 | e7
    · exact absurd e7 e1
    · omega
  · have := far_le h k' s m hs e6
    omega
theorem fa_in (hw : WI (g 197)) {f a t : Int32} {s n : Nat} (hs : s < 16) (hn : n < nn (g 197)) : ∀ (j b : Nat) (r : Nat → Int32) (U : Nat → Nat), b + j = am (g 197) n → (∀ m, m < 16 → r m = nI (U m)) → faI (g 197) s n b U →
    (∀ r U o, (∀ m, m < 16 → r m = nI (U m)) → faI (g 197) s (n + 1) 0 U → wp (ev (d + 2)) P mo_far 42 [some (.ref 196), some (.int f), some (.int a), some (.int t), some (.int (nI (n + 1))), o] [] (E (upw g 207 r) q)) →
    wp (ev (d + 2)) P mo_far 56 [some (.ref 196), some (.int f), some (.int a), some (.int t), some (.int (nI n)), some (.int (nI b))] [] (E (upw g 207 r) q) := by
  have h0 := wi_n hw
  have h1 := wi_1 hw (n := n) (by omega)
  intro j
  induction j with
  | zero =>
    intro b r U hb hr hU H
    have hb : b = fd (g 197) n 1 := hb
    rw [b_mo_far_56]
    simp (disch := first | assumption | omega) only [szS_0, szS_i, szS_r, szS_l, x_cons, x_goto, ob_some, kl_i, kl_r, kl_l, kl_n, push_n, push_s, pop_0, pop_i, pop_r, Int.reduceToNat, List.length_cons, List.length_nil, Nat.reduceAdd, Nat.reduceLeDiff, Nat.zero_add, true_and, nI_n0, nat_le, Nat.add_zero, i_1, rt_mo_far, x_al0, x_call, x_getf, x_goto, x_iadd, x_iaload, x_iastore, x_icge, x_il1, x_il2, x_il3, x_il4, x_il5, x_inc4, x_inc5, x_iret, x_is4, x_is5, x_ldc, b_mo_far_0, b_mo_far_25, b_mo_far_112, b_mo_far_118, s_own, upw_o, h1.1, nI_ltE, hb, Nat.lt_irrefl, ↓reduceIte, nI_add]
    refine H r U _ hr ⟨hU.1, hU.2.1, hU.2.2.1, fun n' b' e1 e2 e3 => hU.2.2.2 n' b' e1 e2 ?_⟩
    unfold am at e2
    by_cases e : n' = n
    · subst e
      exact Or.inr ⟨rfl, by omega⟩
    · exact Or.inl (by omega)
  | succ j ih =>
    intro b r U hb hr hU H
    have hb' : b < am (g 197) n := by omega
    have hb2 : b < fd (g 197) n 1 := hb'
    have ht := wi_t hw (n := n) (a := b) (by omega) (by omega)
    have ht2 := tg_lt hw (n := n) (a := b) (by omega) hb'
    have ht3 : fd (g 197) n (2 + b) < 16 := by unfold tg at ht2; omega
    have hu1 := hU.2.2.1 n (by omega)
    have hu2 := hU.2.2.1 _ ht3
    rw [b_mo_far_56]
    simp (disch := first | assumption | omega) only [szS_0, szS_i, szS_r, szS_l, x_cons, x_goto, ob_some, kl_i, kl_r, kl_l, kl_n, push_n, push_s, pop_0, pop_i, pop_r, Int.reduceToNat, List.length_cons, List.length_nil, Nat.reduceAdd, Nat.reduceLeDiff, Nat.zero_add, true_and, nI_n0, nat_le, Nat.add_zero, i_1, rt_mo_far, x_al0, x_call, x_getf, x_goto, x_iadd, x_iaload, x_iastore, x_icge, x_il1, x_il2, x_il3, x_il4, x_il5, x_inc4, x_inc5, x_iret, x_is4, x_is5, x_ldc, b_mo_far_0, b_mo_far_25, b_mo_far_112, b_mo_far_118, fd_196_0, fd_196_1, fd_196_2, fd_196_3, fd_196_4, sf_196_4, fd_196_5, sf_196_5, fd_196_6, fd_196_7, fd_196_8, fd_196_9, fd_196_10, fd_196_11, fd_196_12, sf_196_12, fd_196_13, sf_196_13, fd_196_14, sf_196_14, fd_196_15, sf_196_15, fd_196_16, sf_196_16, fd_196_17, sf_196_17, fd_196_18, sf_196_18, fd_196_19, sf_196_19, fd_196_20, sf_196_20, fd_196_21, sf_196_21, fd_196_22, sf_196_22, fd_196_23, sf_196_23, fd_196_24, sf_196_24, fd_196_25, sf_196_25, fd_196_26, sf_196_26, fd_196_27, fd_196_28, fd_196_29, fd_196_30, sf_196_30, fd_196_31, fd_196_32, fd_196_33, fd_196_34, fd_196_35, fd_196_36, fd_196_37, sf_196_37, fd_196_38, fd_196_39, sf_196_39, fd_196_40, sf_196_40, fd_196_41, sf_196_41, fd_196_42, fd_196_43, fd_196_44, ld_207, sd_207, ln_207, s_own, s_goesTo, upw_o, upw_s, h1.1, ht.1, nI_ltE, hb2, ↓reduceIte, nI_add, up2_w, s_lesser, hr n (by omega), hr _ ht3]
    refine ih (b + 1) _ _ (by omega) (fun m hm => ?_) (faI_s hw hs (by omega) hb' hU) H
    show (if m = fd (g 197) n (2 + b) then _ else r m) = nI (if m = fd (g 197) n (2 + b) then (if U (fd (g 197) n (2 + b)) < U n + 1 then U (fd (g 197) n (2 + b)) else U n + 1) else U m)
    split
    · split <;> rfl
    · exact hr m hm
theorem fa_out (hw : WI (g 197)) {f a : Int32} {s t : Nat} (hs : s < 16) (ht : t < 16) (hr0 : ∃ k, pth (g 197) k s t) (H : ∀ r, P (some (.int (nI (far (g 197) s t + 1)))) (E (upw g 207 r) q)) : ∀ (j n : Nat) (r : Nat → Int32) (U : Nat → Nat) (o : Option Value), n + j = nn (g 197) → (∀ m, m < 16 → r m = nI (U m)) → faI (g 197) s n 0 U →
    wp (ev (d + 2)) P mo_far 42 [some (.ref 196), some (.int f), some (.int a), some (.int (nI t)), some (.int (nI n)), o] [] (E (upw g 207 r) q) := by
  have h0 := wi_n hw
  intro j
  induction j with
  | zero =>
    intro n r U o hn hr hU
    have hn : n = nn (g 197) := hn
    subst hn
    rw [b_mo_far_42]
    simp (disch := first | assumption | omega) only [szS_0, szS_i, szS_r, szS_l, x_cons, x_goto, ob_some, kl_i, kl_r, kl_l, kl_n, push_n, push_s, pop_0, pop_i, pop_r, Int.reduceToNat, List.length_cons, List.length_nil, Nat.reduceAdd, Nat.reduceLeDiff, Nat.zero_add, true_and, nI_n0, nat_le, Nat.add_zero, i_1, rt_mo_far, x_al0, x_call, x_getf, x_goto, x_iadd, x_iaload, x_iastore, x_icge, x_il1, x_il2, x_il3, x_il4, x_il5, x_inc4, x_inc5, x_iret, x_is4, x_is5, x_ldc, b_mo_far_0, b_mo_far_25, b_mo_far_112, b_mo_far_118, fd_196_0, fd_196_1, fd_196_2, fd_196_3, fd_196_4, sf_196_4, fd_196_5, sf_196_5, fd_196_6, fd_196_7, fd_196_8, fd_196_9, fd_196_10, fd_196_11, fd_196_12, sf_196_12, fd_196_13, sf_196_13, fd_196_14, sf_196_14, fd_196_15, sf_196_15, fd_196_16, sf_196_16, fd_196_17, sf_196_17, fd_196_18, sf_196_18, fd_196_19, sf_196_19, fd_196_20, sf_196_20, fd_196_21, sf_196_21, fd_196_22, sf_196_22, fd_196_23, sf_196_23, fd_196_24, sf_196_24, fd_196_25, sf_196_25, fd_196_26, sf_196_26, fd_196_27, fd_196_28, fd_196_29, fd_196_30, sf_196_30, fd_196_31, fd_196_32, fd_196_33, fd_196_34, fd_196_35, fd_196_36, fd_196_37, sf_196_37, fd_196_38, fd_196_39, sf_196_39, fd_196_40, sf_196_40, fd_196_41, sf_196_41, fd_196_42, fd_196_43, fd_196_44, ld_197, sd_197, ln_197, ld_207, sd_207, ln_207, upw_o, upw_s, h0.1, nI_ltE, Nat.lt_irrefl, ↓reduceIte, hr t ht, faI_e hw hs hU hr0]
    exact H r
  | succ j ih =>
    intro n r U o hn hr hU
    have hn' : n < nn (g 197) := by omega
    rw [b_mo_far_42]
    simp (disch := first | assumption | omega) only [szS_0, szS_i, szS_r, szS_l, x_cons, x_goto, ob_some, kl_i, kl_r, kl_l, kl_n, push_n, push_s, pop_0, pop_i, pop_r, Int.reduceToNat, List.length_cons, List.length_nil, Nat.reduceAdd, Nat.reduceLeDiff, Nat.zero_add, true_and, nI_n0, nat_le, Nat.add_zero, i_1, rt_mo_far, x_al0, x_call, x_getf, x_goto, x_iadd, x_iaload, x_iastore, x_icge, x_il1, x_il2, x_il3, x_il4, x_il5, x_inc4, x_inc5, x_iret, x_is4, x_is5, x_ldc, b_mo_far_0, b_mo_far_25, b_mo_far_112, b_mo_far_118, fd_196_0, fd_196_1, fd_196_2, fd_196_3, fd_196_4, sf_196_4, fd_196_5, sf_196_5, fd_196_6, fd_196_7, fd_196_8, fd_196_9, fd_196_10, fd_196_11, fd_196_12, sf_196_12, fd_196_13, sf_196_13, fd_196_14, sf_196_14, fd_196_15, sf_196_15, fd_196_16, sf_196_16, fd_196_17, sf_196_17, fd_196_18, sf_196_18, fd_196_19, sf_196_19, fd_196_20, sf_196_20, fd_196_21, sf_196_21, fd_196_22, sf_196_22, fd_196_23, sf_196_23, fd_196_24, sf_196_24, fd_196_25, sf_196_25, fd_196_26, sf_196_26, fd_196_27, fd_196_28, fd_196_29, fd_196_30, sf_196_30, fd_196_31, fd_196_32, fd_196_33, fd_196_34, fd_196_35, fd_196_36, fd_196_37, sf_196_37, fd_196_38, fd_196_39, sf_196_39, fd_196_40, sf_196_40, fd_196_41, sf_196_41, fd_196_42, fd_196_43, fd_196_44, ld_197, sd_197, ln_197, upw_o, h0.1, nI_ltE, hn', ↓reduceIte]
    exact fa_in hw hs hn' _ 0 r U (Nat.zero_add _) hr hU fun r' U' o' h1 h2 => ih (n + 1) r' U' o' (by omega) h1 h2
theorem s_far (hw : WI (g 197)) {f a t : Nat} (hf : f < 16) (ha : a < am (g 197) f) (ht : t < 16) (hr0 : ∃ k, pth (g 197) k (tg (g 197) f a) t) (H : ∀ r, P (some (.int (nI (far (g 197) (tg (g 197) f a) t + 1)))) (E (upw g 207 r) q)) :
    callC (ev (d + 3)) mo_far [.ref 196, .int (nI f), .int (nI a), .int (nI t)] (E g q) P := by
  refine in_mo_far rfl ?_
  have h0 := wi_n hw
  have h1 := am_le hw hf
  have hg := wi_t hw (n := f) (a := a) (by omega) (by omega)
  have hg2 := tg_lt hw hf ha
  have hg3 : fd (g 197) f (2 + a) < 16 := by unfold tg at hg2; omega
  simp (disch := omega) only [szS_0, szS_i, szS_r, szS_l, x_cons, x_goto, ob_some, kl_i, kl_r, kl_l, kl_n, push_n, push_s, pop_0, pop_i, pop_r, Int.reduceToNat, List.length_cons, List.length_nil, Nat.reduceAdd, Nat.reduceLeDiff, Nat.zero_add, true_and, nI_n0, nat_le, Nat.add_zero, i_1, rt_mo_far, x_al0, x_call, x_getf, x_goto, x_iadd, x_iaload, x_iastore, x_icge, x_il1, x_il2, x_il3, x_il4, x_il5, x_inc4, x_inc5, x_iret, x_is4, x_is5, x_ldc, b_mo_far_0, b_mo_far_25, b_mo_far_112, b_mo_far_118]
  have e0 : E g q = E (upw g 207 (g 207)) q := by rw [upw_g]
  rw [e0]
  refine fa_0 16 0 _ rfl (fun m hm => absurd hm (Nat.not_lt_zero m)) fun r o hr => ?_
  simp (disch := first | assumption | omega) only [szS_0, szS_i, szS_r, szS_l, x_cons, x_goto, ob_some, kl_i, kl_r, kl_l, kl_n, push_n, push_s, pop_0, pop_i, pop_r, Int.reduceToNat, List.length_cons, List.length_nil, Nat.reduceAdd, Nat.reduceLeDiff, Nat.zero_add, true_and, nI_n0, nat_le, Nat.add_zero, i_1, rt_mo_far, x_al0, x_call, x_getf, x_goto, x_iadd, x_iaload, x_iastore, x_icge, x_il1, x_il2, x_il3, x_il4, x_il5, x_inc4, x_inc5, x_iret, x_is4, x_is5, x_ldc, b_mo_far_0, b_mo_far_25, b_mo_far_112, b_mo_far_118, fd_196_0, fd_196_1, fd_196_2, fd_196_3, fd_196_4, sf_196_4, fd_196_5, sf_196_5, fd_196_6, fd_196_7, fd_196_8, fd_196_9, fd_196_10, fd_196_11, fd_196_12, sf_196_12, fd_196_13, sf_196_13, fd_196_14, sf_196_14, fd_196_15, sf_196_15, fd_196_16, sf_196_16, fd_196_17, sf_196_17, fd_196_18, sf_196_18, fd_196_19, sf_196_19, fd_196_20, sf_196_20, fd_196_21, sf_196_21, fd_196_22, sf_196_22, fd_196_23, sf_196_23, fd_196_24, sf_196_24, fd_196_25, sf_196_25, fd_196_26, sf_196_26, fd_196_27, fd_196_28, fd_196_29, fd_196_30, sf_196_30, fd_196_31, fd_196_32, fd_196_33, fd_196_34, fd_196_35, fd_196_36, fd_196_37, sf_196_37, fd_196_38, fd_196_39, sf_196_39, fd_196_40, sf_196_40, fd_196_41, sf_196_41, fd_196_42, fd_196_43, fd_196_44, ld_207, sd_207, ln_207, s_goesTo, upw_o, hg.1, nI_add, up2_w]
  refine fa_out hw (s := tg (g 197) f a) (by omega) ht hr0 H (nn (g 197) - (f + 1)) (f + 1) _ (fun j => if j = tg (g 197) f a then 1 else 17) _ (by omega) (fun m hm => ?_) ⟨?_, fun m hm => ?_, fun m hm => ?_, fun n' b' e1 e2 e3 => ?_⟩
  · show (if m = fd (g 197) f (2 + a) then _ else r m) = nI (if m = fd (g 197) f (2 + a) then 1 else 17)
    split
    · rfl
    · exact hr m hm
  · show (if tg (g 197) f a = tg (g 197) f a then 1 else 17) ≤ 1
    rw [if_pos rfl]
    exact Nat.le_refl _
  · by_cases e : m = tg (g 197) f a
    · exact Or.inr ⟨0, if_pos e, e.symm⟩
    · exact Or.inl (if_neg e)
  · show (if m = tg (g 197) f a then 1 else 17) ≤ 17
    split <;> omega
  · exfalso
    omega
end MD
