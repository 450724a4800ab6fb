/-! the reference's sets of nodes behind a node -/
def bset (p : Nat → Bool) : Nat → Nat
  | 0 => 0
  | n + 1 => bset p n ||| (if p n then 2 ^ n else 0)
theorem bset_t {p : Nat → Bool} : ∀ (n m : Nat), (bset p n).testBit m = (decide (m < n) && p m)
  | 0, m => by simp [bset]
  | n + 1, m => by
    unfold bset
    rw [Nat.testBit_or, bset_t n m]
    by_cases e : m = n
    · subst e
      cases hp : p m
      · simp
      · simp [Nat.testBit_two_pow]
    · have e2 : decide (m < n + 1) = decide (m < n) := decide_eq_decide.mpr ⟨fun h => by omega, fun h => by omega⟩
      rw [e2]
      split
      · rw [Nat.testBit_two_pow, decide_eq_false (p := n = m) (fun h => e h.symm), Bool.or_false]
      · simp
theorem bset_lt {p : Nat → Bool} : ∀ n, bset p n < 2 ^ n
  | 0 => Nat.zero_lt_one
  | n + 1 => by
    unfold bset
    have h1 := bset_lt (p := p) n
    refine Nat.or_lt_two_pow (by rw [Nat.pow_succ]; omega) ?_
    split
    · rw [Nat.pow_succ]
      have : 0 < 2 ^ n := Nat.two_pow_pos n
      omega
    · exact Nat.two_pow_pos _
theorem bt_eq {B B' : Nat} (h : ∀ m, B.testBit m = true ↔ B'.testBit m = true) : B = B' :=
  Nat.eq_of_testBit_eq fun m => by
    have := h m
    cases hB : B.testBit m <;> cases hB' : B'.testBit m <;> simp_all
/-- the nodes to which one comes from s, itself too -/
def bh (w : Nat → Int32) (s : Nat) : Nat := bset (fun m => decide (far w s m ≠ 99)) 16
theorem bh_t {w : Nat → Int32} (h : WI w) {s m : Nat} (hs : s < 16) : (bh w s).testBit m = true ↔ ∃ k, pth w k s m := by
  unfold bh
  rw [bset_t, Bool.and_eq_true, decide_eq_true_eq, decide_eq_true_eq]
  constructor
  · exact fun e => (far_iff h hs).mp e.2
  · intro ⟨k, e⟩
    exact ⟨(pth_le h k s m hs e).2, (far_iff h hs).mpr ⟨k, e⟩⟩
section MC
variable {d : Nat} {g : Nat → Nat → Int32} {q : Nat → Nat → Int64} {P : QT}
theorem bn_in (hw : WI (g 197)) {n : Nat} {s : Int32} (hn : n < nn (g 197)) : ∀ (j b B : Nat), b + j = am (g 197) n → B < 65536 →
    (∀ B' o, B' < 65536 → (∀ m, B'.testBit m = true ↔ (B.testBit m = true ∨ ∃ b', b ≤ b' ∧ b' < am (g 197) n ∧ tg (g 197) n b' = m)) → wp (ev (d + 2)) P mo_behindNode 6 [some (.ref 196), some (.int s), some (.int (nI B')), some (.int (nI (n + 1))), o] [] (E g q)) →
    wp (ev (d + 2)) P mo_behindNode 30 [some (.ref 196), some (.int s), some (.int (nI B)), some (.int (nI n)), some (.int (nI b))] [] (E g q) := by
  have h0 := wi_n hw
  have h1 := wi_1 hw (n := n) (by omega)
  have h3 : am (g 197) n ≤ 3 := h1.2
  intro j
  induction j with
  | zero =>
    intro b B hb hB H
    have hb : b = fd (g 197) n 1 := hb
    rw [b_mo_behindNode_30]
    simp (disch := omega) only [szS_0, szS_i, szS_r, szS_l, x_cons, x_goto, ob_some, kl_i, kl_r, kl_l, kl_n, push_n, push_s, pop_0, pop_i, pop_r, Int.reduceToNat, List.length_cons, List.length_nil, Nat.reduceAdd, Nat.reduceLeDiff, Nat.zero_add, true_and, nI_n0, nat_le, Nat.add_zero, i_1, rt_mo_behindNode, x_al0, x_call, x_getf, x_goto, x_iaload, x_iand, x_icge, x_ifne, x_il1, x_il2, x_il3, x_il4, x_inc3, x_inc4, x_ior, x_iret, x_is2, x_is3, x_is4, x_ishl, x_ishr, x_ldc, b_mo_behindNode_0, b_mo_behindNode_27, b_mo_behindNode_59, b_mo_behindNode_65, s_own, h1.1, nI_ltE, hb, Nat.lt_irrefl, ↓reduceIte, nI_add]
    refine H B _ hB fun m => ⟨fun e => Or.inl e, fun e => e.elim id ?_⟩
    intro ⟨b', e1, e2, _⟩
    exfalso
    unfold am at e2
    omega
  | succ j ih =>
    intro b B hb hB H
    have hb' : b < fd (g 197) n 1 := by unfold am at hb; omega
    have ht := wi_t hw (n := n) (a := b) (by omega) (by omega)
    have ht2 := tg_lt hw (n := n) (a := b) (by omega) hb'
    have ht3 : fd (g 197) n (2 + b) < 16 := by unfold tg at ht2; omega
    rw [b_mo_behindNode_30]
    simp (disch := omega) only [szS_0, szS_i, szS_r, szS_l, x_cons, x_goto, ob_some, kl_i, kl_r, kl_l, kl_n, push_n, push_s, pop_0, pop_i, pop_r, Int.reduceToNat, List.length_cons, List.length_nil, Nat.reduceAdd, Nat.reduceLeDiff, Nat.zero_add, true_and, nI_n0, nat_le, Nat.add_zero, i_1, rt_mo_behindNode, x_al0, x_call, x_getf, x_goto, x_iaload, x_iand, x_icge, x_ifne, x_il1, x_il2, x_il3, x_il4, x_inc3, x_inc4, x_ior, x_iret, x_is2, x_is3, x_is4, x_ishl, x_ishr, x_ldc, b_mo_behindNode_0, b_mo_behindNode_27, b_mo_behindNode_59, b_mo_behindNode_65, s_own, s_goesTo, h1.1, ht.1, nI_ltE, hb', ↓reduceIte, nI_shl1, nI_or, nI_add]
    refine ih (b + 1) _ (by omega) (or_lt hB ht3) fun B' o hB' e => H B' o hB' fun m => ?_
    rw [e m, bt_or, Bool.or_eq_true, decide_eq_true_eq]
    constructor
    · rintro ((e1 | e1) | ⟨b', e1, e2, e3⟩)
      · exact Or.inl e1
      · exact Or.inr ⟨b, Nat.le_refl _, hb', e1⟩
      · exact Or.inr ⟨b', by omega, e2, e3⟩
    · rintro (e1 | ⟨b', e1, e2, e3⟩)
      · exact Or.inl (Or.inl e1)
      · by_cases eb : b' = b
        · subst eb
          exact Or.inl (Or.inr e3)
        · exact Or.inr ⟨b', by omega, e2, e3⟩
/-- m is s, or an arm of a node below n behind s goes to it -/
def bnC (w : Nat → Int32) (s n m : Nat) : Prop := m = s ∨ ∃ n' b, n' < n ∧ b < am w n' ∧ tg w n' b = m ∧ ∃ k, pth w k s n'
theorem bnC_p {w : Nat → Int32} (h : WI w) {s n m : Nat} (hs : s < 16) (hn : nn w ≤ n ∨ m = n) : bnC w s n m ↔ ∃ k, pth w k s m := by
  constructor
  · rintro (e | ⟨n', b, e1, e2, e3, k, e4⟩)
    · exact ⟨0, e.symm⟩
    · rw [← e3]
      exact ⟨k + 1, pth_add e2 k s e4⟩
  · rintro ⟨k, e⟩
    match k, e with
    | 0, e => exact Or.inl (show s = m from e).symm
    | k + 1, e =>
      obtain ⟨n', b, e1, e2, e3⟩ := pth_snoc k s m e
      have h1 := pth_le h k s n' hs e1
      have h2 := tg_lt h h1.2 e2
      exact Or.inr ⟨n', b, by omega, e2, e3, k, e1⟩
theorem bn_out (hw : WI (g 197)) {s : Nat} (hs : s < 16) : ∀ (j n B : Nat) (o : Option Value), n + j = nn (g 197) → B < 65536 → (∀ m, B.testBit m = true ↔ bnC (g 197) s n m) → P (some (.int (nI (bh (g 197) s)))) (E g q) →
    wp (ev (d + 2)) P mo_behindNode 6 [some (.ref 196), some (.int (nI s)), some (.int (nI B)), some (.int (nI n)), o] [] (E g q) := by
  have h0 := wi_n hw
  intro j
  induction j with
  | zero =>
    intro n B o hn hB hC H
    have hn : n = nn (g 197) := hn
    rw [b_mo_behindNode_6]
    simp (disch := omega) only [szS_0, szS_i, szS_r, szS_l, x_cons, x_goto, ob_some, kl_i, kl_r, kl_l, kl_n, push_n, push_s, pop_0, pop_i, pop_r, Int.reduceToNat, List.length_cons, List.length_nil, Nat.reduceAdd, Nat.reduceLeDiff, Nat.zero_add, true_and, nI_n0, nat_le, Nat.add_zero, i_1, rt_mo_behindNode, x_al0, x_call, x_getf, x_goto, x_iaload, x_iand, x_icge, x_ifne, x_il1, x_il2, x_il3, x_il4, x_inc3, x_inc4, x_ior, x_iret, x_is2, x_is3, x_is4, x_ishl, x_ishr, x_ldc, b_mo_behindNode_0, b_mo_behindNode_27, b_mo_behindNode_59, b_mo_behindNode_65, fd_196_0, fd_196_1, fd_196_2, fd_196_3, fd_196_4, sf_196_4, fd_196_5, sf_196_5, fd_196_6, fd_196_7, fd_196_8, fd_196_9, fd_196_10, fd_196_11, fd_196_12, sf_196_12, fd_196_13, sf_196_13, fd_196_14, sf_196_14, fd_196_15, sf_196_15, fd_196_16, sf_196_16, fd_196_17, sf_196_17, fd_196_18, sf_196_18, fd_196_19, sf_196_19, fd_196_20, sf_196_20, fd_196_21, sf_196_21, fd_196_22, sf_196_22, fd_196_23, sf_196_23, fd_196_24, sf_196_24, fd_196_25, sf_196_25, fd_196_26, sf_196_26, fd_196_27, fd_196_28, fd_196_29, fd_196_30, sf_196_30, fd_196_31, fd_196_32, fd_196_33, fd_196_34, fd_196_35, fd_196_36, fd_196_37, sf_196_37, fd_196_38, fd_196_39, sf_196_39, fd_196_40, sf_196_40, fd_196_41, sf_196_41, fd_196_42, fd_196_43, fd_196_44, ld_197, sd_197, ln_197, h0.1, nI_ltE, hn, Nat.lt_irrefl, ↓reduceIte]
    have : B = bh (g 197) s := bt_eq fun m => by rw [hC m, bh_t hw hs, bnC_p hw hs (Or.inl (by omega))]
    rw [this]
    exact H
  | succ j ih =>
    intro n B o hn hB hC H
    have hn' : n < nn (g 197) := by omega
    rw [b_mo_behindNode_6]
    simp (disch := omega) only [szS_0, szS_i, szS_r, szS_l, x_cons, x_goto, ob_some, kl_i, kl_r, kl_l, kl_n, push_n, push_s, pop_0, pop_i, pop_r, Int.reduceToNat, List.length_cons, List.length_nil, Nat.reduceAdd, Nat.reduceLeDiff, Nat.zero_add, true_and, nI_n0, nat_le, Nat.add_zero, i_1, rt_mo_behindNode, x_al0, x_call, x_getf, x_goto, x_iaload, x_iand, x_icge, x_ifne, x_il1, x_il2, x_il3, x_il4, x_inc3, x_inc4, x_ior, x_iret, x_is2, x_is3, x_is4, x_ishl, x_ishr, x_ldc, b_mo_behindNode_0, b_mo_behindNode_27, b_mo_behindNode_59, b_mo_behindNode_65, fd_196_0, fd_196_1, fd_196_2, fd_196_3, fd_196_4, sf_196_4, fd_196_5, sf_196_5, fd_196_6, fd_196_7, fd_196_8, fd_196_9, fd_196_10, fd_196_11, fd_196_12, sf_196_12, fd_196_13, sf_196_13, fd_196_14, sf_196_14, fd_196_15, sf_196_15, fd_196_16, sf_196_16, fd_196_17, sf_196_17, fd_196_18, sf_196_18, fd_196_19, sf_196_19, fd_196_20, sf_196_20, fd_196_21, sf_196_21, fd_196_22, sf_196_22, fd_196_23, sf_196_23, fd_196_24, sf_196_24, fd_196_25, sf_196_25, fd_196_26, sf_196_26, fd_196_27, fd_196_28, fd_196_29, fd_196_30, sf_196_30, fd_196_31, fd_196_32, fd_196_33, fd_196_34, fd_196_35, fd_196_36, fd_196_37, sf_196_37, fd_196_38, fd_196_39, sf_196_39, fd_196_40, sf_196_40, fd_196_41, sf_196_41, fd_196_42, fd_196_43, fd_196_44, ld_197, sd_197, ln_197, h0.1, nI_ltE, hn', ↓reduceIte, nI_bt, nI_eqE, bt_t]
    by_cases hb : B.testBit n = true
    · simp only [hb, ↓reduceIte, Nat.one_ne_zero]
      refine bn_in hw hn' _ 0 B (Nat.zero_add _) hB fun B' o' hB' e => ?_
      refine ih (n + 1) B' _ (by omega) hB' (fun m => ?_) H
      rw [e m, hC m]
      constructor
      · rintro ((e1 | ⟨n', b, e1, e2, e3⟩) | ⟨b, e1, e2, e3⟩)
        · exact Or.inl e1
        · exact Or.inr ⟨n', b, by omega, e2, e3⟩
        · exact Or.inr ⟨n, b, by omega, e2, e3, (bnC_p hw hs (Or.inr rfl)).mp ((hC n).mp hb)⟩
      · rintro (e1 | ⟨n', b, e1, e2, e3, e4⟩)
        · exact Or.inl (Or.inl e1)
        · by_cases en : n' = n
          · subst en
            exact Or.inr ⟨b, Nat.zero_le _, e2, e3⟩
          · exact Or.inl (Or.inr ⟨n', b, by omega, e2, e3, e4⟩)
    · simp (disch := omega) only [hb, ↓reduceIte, szS_0, szS_i, szS_r, szS_l, x_cons, x_goto, ob_some, kl_i, kl_r, kl_l, kl_n, push_n, push_s, pop_0, pop_i, pop_r, Int.reduceToNat, List.length_cons, List.length_nil, Nat.reduceAdd, Nat.reduceLeDiff, Nat.zero_add, true_and, nI_n0, nat_le, Nat.add_zero, i_1, rt_mo_behindNode, x_al0, x_call, x_getf, x_goto, x_iaload, x_iand, x_icge, x_ifne, x_il1, x_il2, x_il3, x_il4, x_inc3, x_inc4, x_ior, x_iret, x_is2, x_is3, x_is4, x_ishl, x_ishr, x_ldc, b_mo_behindNode_0, b_mo_behindNode_27, b_mo_behindNode_59, b_mo_behindNode_65, nI_add, Bool.false_eq_true]
      refine ih (n + 1) B _ (by omega) hB (fun m => ?_) H
      rw [hC m]
      constructor
      · rintro (e1 | ⟨n', b, e1, e2, e3⟩)
        · exact Or.inl e1
        · exact Or.inr ⟨n', b, by omega, e2, e3⟩
      · rintro (e1 | ⟨n', b, e1, e2, e3, e4⟩)
        · exact Or.inl e1
        · by_cases en : n' = n
          · subst en
            exact absurd ((hC n').mpr ((bnC_p hw hs (Or.inr rfl)).mpr e4)) hb
          · exact Or.inr ⟨n', b, by omega, e2, e3, e4⟩
theorem s_behindNode (hw : WI (g 197)) {s : Nat} (hs : s < nn (g 197)) : callC (ev (d + 3)) mo_behindNode [.ref 196, .int (nI s)] (E g q) P = P (some (.int (nI (bh (g 197) s)))) (E g q) := by
  refine call_eq (in_mo_behindNode rfl ?_)
  have h0 := wi_n hw
  have hs' : s < 16 := by omega
  simp (disch := omega) only [szS_0, szS_i, szS_r, szS_l, x_cons, x_goto, ob_some, kl_i, kl_r, kl_l, kl_n, push_n, push_s, pop_0, pop_i, pop_r, Int.reduceToNat, List.length_cons, List.length_nil, Nat.reduceAdd, Nat.reduceLeDiff, Nat.zero_add, true_and, nI_n0, nat_le, Nat.add_zero, i_1, rt_mo_behindNode, x_al0, x_call, x_getf, x_goto, x_iaload, x_iand, x_icge, x_ifne, x_il1, x_il2, x_il3, x_il4, x_inc3, x_inc4, x_ior, x_iret, x_is2, x_is3, x_is4, x_ishl, x_ishr, x_ldc, b_mo_behindNode_0, b_mo_behindNode_27, b_mo_behindNode_59, b_mo_behindNode_65, nI_shl1]
  refine bn_out hw hs' (nn (g 197) - s) s (2 ^ s) none (by omega) (Nat.pow_lt_pow_right (a := 2) (n := 16) (by decide) hs') (fun m => ?_) ⟨rfl, rfl⟩
  rw [Nat.testBit_two_pow, decide_eq_true_eq]
  constructor
  · exact fun e => Or.inl e.symm
  · rintro (e | ⟨n', b, e1, e2, e3, k, e4⟩)
    · exact e.symm
    · have := pth_le hw k s n' hs' e4
      omega
/-- the nodes behind arm a of f -/
def bha (w : Nat → Int32) (f a : Nat) : Nat := bh w (tg w f a)
theorem s_behind (hw : WI (g 197)) {f a : Nat} (hf : f < 16) (ha : a < am (g 197) f) : callC (ev (d + 4)) mo_behind [.ref 196, .int (nI f), .int (nI a)] (E g q) P = P (some (.int (nI (bha (g 197) f a)))) (E g q) := by
  refine call_eq (in_mo_behind rfl ?_)
  have h0 := wi_n hw
  have h1 := am_le hw hf
  have ht := wi_t hw (n := f) (a := a) (by omega) (by omega)
  have ht2 := tg_lt hw hf ha
  have ht3 : fd (g 197) f (2 + a) < nn (g 197) := ht2.2
  simp (disch := first | assumption | omega) only [szS_0, szS_i, szS_r, szS_l, x_cons, x_goto, ob_some, kl_i, kl_r, kl_l, kl_n, push_n, push_s, pop_0, pop_i, pop_r, Int.reduceToNat, List.length_cons, List.length_nil, Nat.reduceAdd, Nat.reduceLeDiff, Nat.zero_add, true_and, nI_n0, nat_le, Nat.add_zero, rt_mo_behind, x_al0, x_call, x_il1, x_il2, x_iret, b_mo_behind_0, s_goesTo, ht.1, s_behindNode]
  exact ⟨rfl, trivial⟩
/-- the nodes behind a fork's first n arms -/
def bhn (w : Nat → Int32) (f : Nat) : Nat → Nat
  | 0 => 0
  | n + 1 => bhn w f n ||| bha w f n
theorem bh_lt (w : Nat → Int32) (s : Nat) : bh w s < 65536 := bset_lt 16
theorem bhn_lt (w : Nat → Int32) (f : Nat) : ∀ n, bhn w f n < 65536
  | 0 => by
    show 0 < 65536
    decide
  | n + 1 => Nat.or_lt_two_pow (n := 16) (bhn_lt w f n) (bh_lt w _)
theorem ba_lp (hw : WI (g 197)) {f : Nat} (hf : f < 16) : ∀ (j a : Nat), a + j = am (g 197) f → P (some (.int (nI (bhn (g 197) f (am (g 197) f))))) (E g q) →
    wp (ev (d + 4)) P mo_behindAny 4 [some (.ref 196), some (.int (nI f)), some (.int (nI (bhn (g 197) f a))), some (.int (nI a))] [] (E g q) := by
  have h1 := wi_1 hw hf
  have h3 := am_le hw hf
  intro j
  induction j with
  | zero =>
    intro a ha H
    have ha : a = fd (g 197) f 1 := ha
    rw [b_mo_behindAny_4]
    simp (disch := omega) only [szS_0, szS_i, szS_r, szS_l, x_cons, x_goto, ob_some, kl_i, kl_r, kl_l, kl_n, push_n, push_s, pop_0, pop_i, pop_r, Int.reduceToNat, List.length_cons, List.length_nil, Nat.reduceAdd, Nat.reduceLeDiff, Nat.zero_add, true_and, nI_n0, nat_le, Nat.add_zero, i_1, rt_mo_behindAny, x_al0, x_call, x_goto, x_icge, x_il1, x_il2, x_il3, x_inc3, x_ior, x_iret, x_is2, x_is3, x_ldc, b_mo_behindAny_0, b_mo_behindAny_29, s_own, h1.1, nI_ltE, ha, Nat.lt_irrefl, ↓reduceIte]
    exact H
  | succ j ih =>
    intro a ha H
    have ha' : a < am (g 197) f := by omega
    have ha2 : a < fd (g 197) f 1 := ha'
    rw [b_mo_behindAny_4]
    simp (disch := first | assumption | omega) only [szS_0, szS_i, szS_r, szS_l, x_cons, x_goto, ob_some, kl_i, kl_r, kl_l, kl_n, push_n, push_s, pop_0, pop_i, pop_r, Int.reduceToNat, List.length_cons, List.length_nil, Nat.reduceAdd, Nat.reduceLeDiff, Nat.zero_add, true_and, nI_n0, nat_le, Nat.add_zero, i_1, rt_mo_behindAny, x_al0, x_call, x_goto, x_icge, x_il1, x_il2, x_il3, x_inc3, x_ior, x_iret, x_is2, x_is3, x_ldc, b_mo_behindAny_0, b_mo_behindAny_29, s_own, h1.1, nI_ltE, ha2, ↓reduceIte, s_behind, nI_or, nI_add]
    exact ih (a + 1) (by omega) H
theorem s_behindAny (hw : WI (g 197)) {f : Nat} (hf : f < 16) : callC (ev (d + 5)) mo_behindAny [.ref 196, .int (nI f)] (E g q) P = P (some (.int (nI (bhn (g 197) f (am (g 197) f))))) (E g q) := by
  refine call_eq (in_mo_behindAny rfl ?_)
  simp (disch := omega) only [szS_0, szS_i, szS_r, szS_l, x_cons, x_goto, ob_some, kl_i, kl_r, kl_l, kl_n, push_n, push_s, pop_0, pop_i, pop_r, Int.reduceToNat, List.length_cons, List.length_nil, Nat.reduceAdd, Nat.reduceLeDiff, Nat.zero_add, true_and, nI_n0, nat_le, Nat.add_zero, i_1, rt_mo_behindAny, x_al0, x_call, x_goto, x_icge, x_il1, x_il2, x_il3, x_inc3, x_ior, x_iret, x_is2, x_is3, x_ldc, b_mo_behindAny_0, b_mo_behindAny_29]
  exact ba_lp hw hf _ 0 (Nat.zero_add _) ⟨rfl, rfl⟩
/-- the towns -/
def tws (w : Nat → Int32) : Nat → Nat := bset fun n => decide (n < nn w ∧ fd w n 0 = 1)
theorem tws_1 {w : Nat → Int32} {n : Nat} (h : n < nn w) (e : fd w n 0 = 1) : tws w (n + 1) = tws w n ||| 2 ^ n := by
  show bset _ n ||| _ = _
  rw [if_pos (decide_eq_true ⟨h, e⟩)]
  rfl
theorem tws_0 {w : Nat → Int32} {n : Nat} (e : fd w n 0 ≠ 1) : tws w (n + 1) = tws w n ||| 0 := by
  show bset _ n ||| _ = _
  rw [if_neg (by simp [e])]
  rfl
theorem tw_lp (hw : WI (g 197)) : ∀ (j n : Nat), n + j = nn (g 197) → P (some (.int (nI (tws (g 197) (nn (g 197)))))) (E g q) →
    wp (ev (d + 3)) P mo_towns 4 [some (.ref 196), some (.int (nI (tws (g 197) n))), some (.int (nI n))] [] (E g q) := by
  have h0 := wi_n hw
  intro j
  induction j with
  | zero =>
    intro n hn H
    have hn : n = nn (g 197) := hn
    rw [b_mo_towns_4]
    simp (disch := omega) only [szS_0, szS_i, szS_r, szS_l, x_cons, x_goto, ob_some, kl_i, kl_r, kl_l, kl_n, push_n, push_s, pop_0, pop_i, pop_r, Int.reduceToNat, List.length_cons, List.length_nil, Nat.reduceAdd, Nat.reduceLeDiff, Nat.zero_add, true_and, nI_n0, nat_le, Nat.add_zero, i_1, rt_mo_towns, x_al0, x_call, x_getf, x_goto, x_iaload, x_icge, x_ifeq, x_il1, x_il2, x_inc2, x_ior, x_iret, x_is1, x_is2, x_ishl, x_ldc, b_mo_towns_0, b_mo_towns_29, b_mo_towns_30, b_mo_towns_38, fd_196_0, fd_196_1, fd_196_2, fd_196_3, fd_196_4, sf_196_4, fd_196_5, sf_196_5, fd_196_6, fd_196_7, fd_196_8, fd_196_9, fd_196_10, fd_196_11, fd_196_12, sf_196_12, fd_196_13, sf_196_13, fd_196_14, sf_196_14, fd_196_15, sf_196_15, fd_196_16, sf_196_16, fd_196_17, sf_196_17, fd_196_18, sf_196_18, fd_196_19, sf_196_19, fd_196_20, sf_196_20, fd_196_21, sf_196_21, fd_196_22, sf_196_22, fd_196_23, sf_196_23, fd_196_24, sf_196_24, fd_196_25, sf_196_25, fd_196_26, sf_196_26, fd_196_27, fd_196_28, fd_196_29, fd_196_30, sf_196_30, fd_196_31, fd_196_32, fd_196_33, fd_196_34, fd_196_35, fd_196_36, fd_196_37, sf_196_37, fd_196_38, fd_196_39, sf_196_39, fd_196_40, sf_196_40, fd_196_41, sf_196_41, fd_196_42, fd_196_43, fd_196_44, ld_197, sd_197, ln_197, h0.1, nI_ltE, hn, Nat.lt_irrefl, ↓reduceIte]
    exact H
  | succ j ih =>
    intro n hn H
    have hn' : n < nn (g 197) := by omega
    have hi := ih (n + 1) (by omega) H
    rw [b_mo_towns_4]
    simp (disch := first | assumption | omega) only [szS_0, szS_i, szS_r, szS_l, x_cons, x_goto, ob_some, kl_i, kl_r, kl_l, kl_n, push_n, push_s, pop_0, pop_i, pop_r, Int.reduceToNat, List.length_cons, List.length_nil, Nat.reduceAdd, Nat.reduceLeDiff, Nat.zero_add, true_and, nI_n0, nat_le, Nat.add_zero, i_1, rt_mo_towns, x_al0, x_call, x_getf, x_goto, x_iaload, x_icge, x_ifeq, x_il1, x_il2, x_inc2, x_ior, x_iret, x_is1, x_is2, x_ishl, x_ldc, b_mo_towns_0, b_mo_towns_29, b_mo_towns_30, b_mo_towns_38, fd_196_0, fd_196_1, fd_196_2, fd_196_3, fd_196_4, sf_196_4, fd_196_5, sf_196_5, fd_196_6, fd_196_7, fd_196_8, fd_196_9, fd_196_10, fd_196_11, fd_196_12, sf_196_12, fd_196_13, sf_196_13, fd_196_14, sf_196_14, fd_196_15, sf_196_15, fd_196_16, sf_196_16, fd_196_17, sf_196_17, fd_196_18, sf_196_18, fd_196_19, sf_196_19, fd_196_20, sf_196_20, fd_196_21, sf_196_21, fd_196_22, sf_196_22, fd_196_23, sf_196_23, fd_196_24, sf_196_24, fd_196_25, sf_196_25, fd_196_26, sf_196_26, fd_196_27, fd_196_28, fd_196_29, fd_196_30, sf_196_30, fd_196_31, fd_196_32, fd_196_33, fd_196_34, fd_196_35, fd_196_36, fd_196_37, sf_196_37, fd_196_38, fd_196_39, sf_196_39, fd_196_40, sf_196_40, fd_196_41, sf_196_41, fd_196_42, fd_196_43, fd_196_44, ld_197, sd_197, ln_197, h0.1, nI_ltE, hn', ↓reduceIte, s_isTown, bI_0, townB_nI, decide_true, Bool.true_and]
    by_cases e : fd (g 197) n 0 = 1
    · simp (disch := omega) only [e, decide_true, Bool.true_eq_false, ↓reduceIte, szS_0, szS_i, szS_r, szS_l, x_cons, x_goto, ob_some, kl_i, kl_r, kl_l, kl_n, push_n, push_s, pop_0, pop_i, pop_r, Int.reduceToNat, List.length_cons, List.length_nil, Nat.reduceAdd, Nat.reduceLeDiff, Nat.zero_add, true_and, nI_n0, nat_le, Nat.add_zero, i_1, rt_mo_towns, x_al0, x_call, x_getf, x_goto, x_iaload, x_icge, x_ifeq, x_il1, x_il2, x_inc2, x_ior, x_iret, x_is1, x_is2, x_ishl, x_ldc, b_mo_towns_0, b_mo_towns_29, b_mo_towns_30, b_mo_towns_38, nI_shl1, nI_or, nI_add]
      rw [tws_1 hn' e] at hi
      exact hi
    · simp (disch := omega) only [e, decide_false, ↓reduceIte, szS_0, szS_i, szS_r, szS_l, x_cons, x_goto, ob_some, kl_i, kl_r, kl_l, kl_n, push_n, push_s, pop_0, pop_i, pop_r, Int.reduceToNat, List.length_cons, List.length_nil, Nat.reduceAdd, Nat.reduceLeDiff, Nat.zero_add, true_and, nI_n0, nat_le, Nat.add_zero, i_1, rt_mo_towns, x_al0, x_call, x_getf, x_goto, x_iaload, x_icge, x_ifeq, x_il1, x_il2, x_inc2, x_ior, x_iret, x_is1, x_is2, x_ishl, x_ldc, b_mo_towns_0, b_mo_towns_29, b_mo_towns_30, b_mo_towns_38, nI_or, nI_add]
      rw [tws_0 e] at hi
      exact hi
theorem s_towns (hw : WI (g 197)) : callC (ev (d + 4)) mo_towns [.ref 196] (E g q) P = P (some (.int (nI (tws (g 197) (nn (g 197)))))) (E g q) := by
  refine call_eq (in_mo_towns rfl ?_)
  simp (disch := omega) only [szS_0, szS_i, szS_r, szS_l, x_cons, x_goto, ob_some, kl_i, kl_r, kl_l, kl_n, push_n, push_s, pop_0, pop_i, pop_r, Int.reduceToNat, List.length_cons, List.length_nil, Nat.reduceAdd, Nat.reduceLeDiff, Nat.zero_add, true_and, nI_n0, nat_le, Nat.add_zero, i_1, rt_mo_towns, x_al0, x_call, x_getf, x_goto, x_iaload, x_icge, x_ifeq, x_il1, x_il2, x_inc2, x_ior, x_iret, x_is1, x_is2, x_ishl, x_ldc, b_mo_towns_0, b_mo_towns_29, b_mo_towns_30, b_mo_towns_38]
  exact tw_lp hw _ 0 (Nat.zero_add _) ⟨rfl, rfl⟩
theorem tws_t {w : Nat → Int32} {n m : Nat} : (tws w n).testBit m = true ↔ m < n ∧ m < nn w ∧ fd w m 0 = 1 := by
  unfold tws
  rw [bset_t, Bool.and_eq_true, decide_eq_true_eq, decide_eq_true_eq]
theorem tws_lt (w : Nat → Int32) {n : Nat} (h : n ≤ 16) : tws w n < 65536 :=
  Nat.lt_of_lt_of_le (bset_lt n) (Nat.pow_le_pow_right (n := 2) (by decide) h)
/-- what is behind more than one of the first n arms -/
def tw2 (w : Nat → Int32) (f : Nat) : Nat → Nat
  | 0 => 0
  | n + 1 => tw2 w f n ||| (bhn w f n &&& bha w f n)
theorem tw2_lt (w : Nat → Int32) (f : Nat) : ∀ n, tw2 w f n < 65536
  | 0 => by
    show 0 < 65536
    decide
  | n + 1 => Nat.or_lt_two_pow (n := 16) (tw2_lt w f n) (Nat.lt_of_le_of_lt Nat.and_le_left (bhn_lt w f n))
/-- the towns behind more than one arm of a fork -/
def twc (w : Nat → Int32) (f : Nat) : Nat := tw2 w f (am w f) &&& tws w (nn w)
theorem t2_lp (hw : WI (g 197)) {f : Nat} (hf : f < 16) : ∀ (j a : Nat), a + j = am (g 197) f → P (some (.int (nI (twc (g 197) f)))) (E g q) →
    wp (ev (d + 4)) P mo_twiceOf 7 [some (.ref 196), some (.int (nI f)), some (.int (nI (tw2 (g 197) f a))), some (.int (nI (bhn (g 197) f a))), some (.int (nI a))] [] (E g q) := by
  have h1 := wi_1 hw hf
  have h3 := am_le hw hf
  intro j
  induction j with
  | zero =>
    intro a ha H
    have ha : a = fd (g 197) f 1 := ha
    rw [b_mo_twiceOf_7]
    simp (disch := first | assumption | omega) only [szS_0, szS_i, szS_r, szS_l, x_cons, x_goto, ob_some, kl_i, kl_r, kl_l, kl_n, push_n, push_s, pop_0, pop_i, pop_r, Int.reduceToNat, List.length_cons, List.length_nil, Nat.reduceAdd, Nat.reduceLeDiff, Nat.zero_add, true_and, nI_n0, nat_le, Nat.add_zero, i_1, rt_mo_twiceOf, x_al0, x_call, x_goto, x_iand, x_icge, x_il1, x_il2, x_il3, x_il4, x_inc4, x_ior, x_iret, x_is2, x_is3, x_is4, x_ldc, b_mo_twiceOf_0, b_mo_twiceOf_46, s_own, h1.1, nI_ltE, ha, Nat.lt_irrefl, ↓reduceIte, s_towns, nI_and]
    exact H
  | succ j ih =>
    intro a ha H
    have ha' : a < am (g 197) f := by omega
    have ha2 : a < fd (g 197) f 1 := ha'
    rw [b_mo_twiceOf_7]
    simp (disch := first | assumption | omega) only [szS_0, szS_i, szS_r, szS_l, x_cons, x_goto, ob_some, kl_i, kl_r, kl_l, kl_n, push_n, push_s, pop_0, pop_i, pop_r, Int.reduceToNat, List.length_cons, List.length_nil, Nat.reduceAdd, Nat.reduceLeDiff, Nat.zero_add, true_and, nI_n0, nat_le, Nat.add_zero, i_1, rt_mo_twiceOf, x_al0, x_call, x_goto, x_iand, x_icge, x_il1, x_il2, x_il3, x_il4, x_inc4, x_ior, x_iret, x_is2, x_is3, x_is4, x_ldc, b_mo_twiceOf_0, b_mo_twiceOf_46, s_own, h1.1, nI_ltE, ha2, ↓reduceIte, s_behind, nI_or, nI_and, nI_add]
    exact ih (a + 1) (by omega) H
theorem s_twiceOf (hw : WI (g 197)) {f : Nat} (hf : f < 16) : callC (ev (d + 5)) mo_twiceOf [.ref 196, .int (nI f)] (E g q) P = P (some (.int (nI (twc (g 197) f)))) (E g q) := by
  refine call_eq (in_mo_twiceOf rfl ?_)
  simp (disch := omega) only [szS_0, szS_i, szS_r, szS_l, x_cons, x_goto, ob_some, kl_i, kl_r, kl_l, kl_n, push_n, push_s, pop_0, pop_i, pop_r, Int.reduceToNat, List.length_cons, List.length_nil, Nat.reduceAdd, Nat.reduceLeDiff, Nat.zero_add, true_and, nI_n0, nat_le, Nat.add_zero, i_1, rt_mo_twiceOf, x_al0, x_call, x_goto, x_iand, x_icge, x_il1, x_il2, x_il3, x_il4, x_inc4, x_ior, x_iret, x_is2, x_is3, x_is4, x_ldc, b_mo_twiceOf_0, b_mo_twiceOf_46]
  exact t2_lp hw hf _ 0 (Nat.zero_add _) ⟨rfl, rfl⟩
end MC
