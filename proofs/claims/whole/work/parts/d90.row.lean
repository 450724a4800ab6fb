/-! a delta's row -/
def ndL (L : List (Nat → Nat)) (n : Nat) : Nat → Nat := L.getD n fun _ => 0
def dFv (v : Nat → Nat) (f : Nat) : Nat := if f < 5 then v f else if f = 5 then 1 else if f = 10 then v 5 else if f = 11 then v 6 else 0
def dlR (w : Nat → Int32) (L : List (Nat → Nat)) : Nat → Int32 := fun x => if x = 0 then nI L.length else if x < 6 ∧ x ≠ 5 then nI 0 else if 10 ≤ x ∧ x < 10 + 20 * L.length then nI (dFv (ndL L ((x - 10) / 20)) ((x - 10) % 20)) else if 10 ≤ x ∧ x < 596 then nI 0 else w x
theorem ndL_m : ∀ {L : List (Nat → Nat)} {n : Nat}, n < L.length → ndL L n ∈ L
  | v :: L, 0, _ => List.mem_cons_self ..
  | v :: L, n + 1, h => List.mem_cons_of_mem _ (ndL_m (L := L) (by rw [List.length_cons] at h; omega))
theorem mVs_n {g : Nat → Nat → Int32} : ∀ {L : List (Nat → Nat)} {m n : Nat}, mVs g m L → n < L.length → mV (m + n) (ndL L n) g
  | v :: L, m, 0, h, _ => h.1
  | v :: L, m, n + 1, h, hn => by
    have := mVs_n (n := n) h.2 (by rw [List.length_cons] at hn; omega)
    rw [show m + 1 + n = m + (n + 1) by omega] at this
    exact this
theorem cDs_n {g : Nat → Nat → Int32} : ∀ {L : List (Nat → Nat)} {m n : Nat}, cDs g m L → n < L.length → cD (m + n) (ndL L n) g
  | v :: L, m, 0, h, _ => h.1
  | v :: L, m, n + 1, h, hn => by
    have := cDs_n (n := n) h.2 (by rw [List.length_cons] at hn; omega)
    rw [show m + 1 + n = m + (n + 1) by omega] at this
    exact this
theorem nsK_n : ∀ {L : List (Nat → Nat)} {m n G G' : Nat}, nsK m G L G' → n < L.length → ∃ G1, ndB (m + n) G1 (ndL L n)
  | v :: L, m, 0, G, G', h, _ => ⟨G, h.1⟩
  | v :: L, m, n + 1, G, G', h, hn => by
    have := nsK_n (n := n) h.2 (by rw [List.length_cons] at hn; omega)
    rw [show m + 1 + n = m + (n + 1) by omega] at this
    exact this
theorem dlR_n {w : Nat → Int32} {L : List (Nat → Nat)} {n f : Nat} (hl : L.length ≤ 16) (hn : n < 16) (hf : f < 20) : dlR w L (10 + 20 * n + f) = nI (if n < L.length then dFv (ndL L n) f else 0) := by
  unfold dlR
  rw [if_neg (by omega), if_neg (by omega)]
  by_cases h : n < L.length
  · rw [if_pos (by omega), if_pos h, show (10 + 20 * n + f - 10) / 20 = n by omega, show (10 + 20 * n + f - 10) % 20 = f by omega]
  · rw [if_neg (by omega), if_pos (by omega), if_neg h]
theorem dlR_o {w : Nat → Int32} {L : List (Nat → Nat)} {x : Nat} (hl : L.length ≤ 16) (h : x = 5 ∨ (6 ≤ x ∧ x < 10) ∨ 596 ≤ x) : dlR w L x = w x := by
  unfold dlR
  rw [if_neg (by omega), if_neg (by omega), if_neg (by omega), if_neg (by omega)]
theorem dlR_z {w : Nat → Int32} {L : List (Nat → Nat)} {x : Nat} (hl : L.length ≤ 16) (h : (1 ≤ x ∧ x < 5) ∨ (330 ≤ x ∧ x < 596)) : dlR w L x = nI 0 := by
  unfold dlR
  rw [if_neg (by omega)]
  by_cases h2 : x < 6 ∧ x ≠ 5
  · rw [if_pos h2]
  · rw [if_neg h2, if_neg (by omega), if_pos (by omega)]
theorem rg_i {w : Nat → Int32} {k m a : Nat} (h : w k = nI a) (ha : a ≤ m) (hm : m < 2147483648) : rg w k m := by
  unfold rg vN
  rw [h, ix_nI (by omega)]
  exact ⟨rfl, ha⟩
/-- what is told of a whole delta -/
def dlK (L : List (Nat → Nat)) : Prop := L.length ≤ 16 ∧ 0 < L.length ∧ (∃ G', nsK 0 0 L G') ∧ ∀ v, v ∈ L → ∀ a, a < v 1 → v (2 + a) < L.length
theorem dlF_k {T : Nat → Nat} {n : Nat} {L : List (Nat → Nat)} (h : dlF T n = .inr L) : dlK L := by
  unfold dlF at h
  cases e : nsF T n 401 0 0 0 with
  | inl x =>
    rw [e] at h
    cases h
  | inr p =>
    obtain ⟨L1, j, G'⟩ := p
    rw [e] at h
    have h : (if G' < L1.length then (.inr L1 : Sum (Nat × Nat) (List (Nat → Nat))) else .inl (4, j)) = .inr L := h
    obtain ⟨k1, k2, k3, k4, k5⟩ := nsF_k 401 0 0 0 (Nat.zero_le _) (by decide) (by decide) e
    split at h
    next hl =>
      cases h
      have := (ns_all k1).mp hl
      exact ⟨k2, this.1, ⟨G', k1⟩, this.2⟩
    next => cases h
theorem dFv_l {m G : Nat} {v : Nat → Nat} (h : ndB m G v) (f : Nat) : dFv v f ≤ 999 := by
  obtain ⟨⟨a1, a2, a3, -, -, -⟩, b0, b1, b2, b3, b5, b6, -⟩ := h
  have ha : ∀ a, a < 3 → v (2 + a) ≤ 15 := fun a ha => by
    by_cases h : a < v 1
    · exact (a2 a h).2.1
    · rw [a3 a (by omega) ha]
      omega
  unfold dFv
  split
  next hf =>
    have : f = 0 ∨ f = 1 ∨ f = 2 ∨ f = 3 ∨ f = 4 := by omega
    rcases this with rfl | rfl | rfl | rfl | rfl
    · omega
    · omega
    · have := ha 0 (by decide); exact Nat.le_trans this (by decide)
    · have := ha 1 (by decide); exact Nat.le_trans this (by decide)
    · have := ha 2 (by decide); exact Nat.le_trans this (by decide)
  next => split <;> (try split) <;> (try split) <;> omega
theorem WI_dl0 {w : Nat → Int32} {L : List (Nat → Nat)} (hs : rg w 6 999 ∧ rg w 7 33 ∧ rg w 8 1000 ∧ rg w 9 1000) (hL : dlK L) : WI (dlR w L) ∧ sumH (dlR w L) 16 ≤ 15984 := by
  obtain ⟨hl, h0, ⟨G', hk⟩, hall⟩ := hL
  obtain ⟨h6, h7, h8, h9⟩ := hs
  have enn : nn (dlR w L) = L.length := by
    unfold nn vN
    rw [show dlR w L 0 = nI L.length from rfl, ix_nI (by omega)]
  have eV : ∀ n f, n < 16 → f < 20 → fd (dlR w L) n f = (if n < L.length then dFv (ndL L n) f else 0) := fun n f hn hf => by
    unfold fd vN
    rw [dlR_n hl hn hf]
    refine ix_nI ?_
    split
    next h =>
      obtain ⟨G1, hb⟩ := nsK_n hk h
      have := dFv_l hb f
      omega
    next => decide
  have eR : ∀ n f m, n < 16 → f < 20 → m < 2147483648 → (if n < L.length then dFv (ndL L n) f else 0) ≤ m → rg (dlR w L) (10 + 20 * n + f) m := fun n f m hn hf hm hle => rg_i (dlR_n hl hn hf) hle hm
  have hNI : ∀ n, n < 16 → NI (dlR w L) n := by
    intro n hn
    by_cases h : n < L.length
    · obtain ⟨G1, hb⟩ := nsK_n hk h
      have hv := hall _ (ndL_m h)
      rw [Nat.zero_add] at hb
      obtain ⟨⟨a1, a2, a3, a4, a5, a6⟩, b0, b1, b2, b3, b5, b6, b7⟩ := hb
      have ha : ∀ a, a < 3 → ndL L n (2 + a) ≤ 15 := fun a ha => by
        by_cases h : a < ndL L n 1
        · exact (a2 a h).2.1
        · rw [a3 a (by omega) ha]
          omega
      have ev : ∀ f, f < 20 → fd (dlR w L) n f = dFv (ndL L n) f := fun f hf => by rw [eV n f hn hf, if_pos h]
      have er : ∀ f m, f < 20 → m < 2147483648 → dFv (ndL L n) f ≤ m → rg (dlR w L) (10 + 20 * n + f) m := fun f m hf hm hle => eR n f m hn hf hm (by rw [if_pos h]; exact hle)
      have z : ∀ f, 12 ≤ f → dFv (ndL L n) f = 0 := fun f hf => by
        unfold dFv
        rw [if_neg (by omega), if_neg (by omega), if_neg (by omega), if_neg (by omega)]
      have z2 : ∀ f, 6 ≤ f → f < 10 → dFv (ndL L n) f = 0 := fun f hf hf2 => by
        unfold dFv
        rw [if_neg (by omega), if_neg (by omega), if_neg (by omega), if_neg (by omega)]
      have q0 : dFv (ndL L n) 0 = ndL L n 0 := rfl
      have q1 : dFv (ndL L n) 1 = ndL L n 1 := rfl
      have q5 : dFv (ndL L n) 5 = 1 := rfl
      have q10 : dFv (ndL L n) 10 = ndL L n 5 := rfl
      have q11 : dFv (ndL L n) 11 = ndL L n 6 := rfl
      have qa : ∀ a, a < 3 → dFv (ndL L n) (2 + a) = ndL L n (2 + a) := fun a ha => by
        unfold dFv
        rw [if_pos (by omega)]
      refine ⟨⟨er 0 2 (by decide) (by decide) (by rw [q0]; exact b0), er 1 3 (by decide) (by decide) (by rw [q1]; exact a1), er 2 15 (by decide) (by decide) (ha 0 (by decide)), er 3 15 (by decide) (by decide) (ha 1 (by decide)), er 4 15 (by decide) (by decide) (ha 2 (by decide))⟩, ⟨er 5 7 (by decide) (by decide) (by rw [q5]; decide), er 6 99 (by decide) (by decide) (by rw [z2 6 (by decide) (by decide)]; exact Nat.zero_le _), er 7 999 (by decide) (by decide) (by rw [z2 7 (by decide) (by decide)]; exact Nat.zero_le _), er 8 999 (by decide) (by decide) (by rw [z2 8 (by decide) (by decide)]; exact Nat.zero_le _), er 9 999 (by decide) (by decide) (by rw [z2 9 (by decide) (by decide)]; exact Nat.zero_le _)⟩, ⟨er 10 6000000 (by decide) (by decide) (by rw [q10]; omega), er 11 999 (by decide) (by decide) (by rw [q11]; exact b6), er 12 1998 (by decide) (by decide) (by rw [z 12 (by decide)]; exact Nat.zero_le _), er 13 99 (by decide) (by decide) (by rw [z 13 (by decide)]; exact Nat.zero_le _), er 14 9 (by decide) (by decide) (by rw [z 14 (by decide)]; exact Nat.zero_le _), er 15 9 (by decide) (by decide) (by rw [z 15 (by decide)]; exact Nat.zero_le _), er 16 _ (by decide) (by rw [ev 15 (by decide), z 15 (by decide)]; decide) (by rw [z 16 (by decide)]; exact Nat.zero_le _), er 17 1 (by decide) (by decide) (by rw [z 17 (by decide)]; exact Nat.zero_le _)⟩, fun _ => ⟨fun e => ?_, fun e => ?_, fun e => ?_⟩, fun h2 => by rw [enn] at h2; omega, fun a ha2 => ?_, fun hz f hf hf2 => ?_⟩
      · rw [ev 0 (by decide), q0] at e
        rw [ev 1 (by decide), ev 5 (by decide), q1, q5]
        have h2 := b1 e
        refine ⟨h2, Nat.le_refl _, ?_⟩
        exact Nat.lt_of_lt_of_le (by decide : 1 < 2 ^ 2) (Nat.pow_le_pow_right (by decide) h2)
      · rw [ev 0 (by decide), q0] at e
        rw [ev 1 (by decide), ev 11 (by decide), q1, q11]
        exact b2 e
      · rw [ev 0 (by decide), q0] at e
        rw [ev 1 (by decide), q1]
        exact b3 e
      · rw [ev 1 (by decide), q1] at ha2
        rw [ev (2 + a) (by omega), qa a (by omega), enn]
        exact ⟨(a2 a ha2).1, hv a ha2⟩
      · rw [enn, ev 0 (by decide), q0] at hz
        have hz : ndL L n 0 ≠ 1 := hz.resolve_left (by omega)
        have hb := b7 hz
        rw [ev f (by omega)]
        by_cases f10 : f = 10
        · rw [f10, q10]; exact hb.1
        · by_cases f11 : f = 11
          · rw [f11, q11]; exact hb.2
          · exact z f (by omega)
    · have ev : ∀ f, f < 20 → fd (dlR w L) n f = 0 := fun f hf => by rw [eV n f hn hf, if_neg h]
      have er : ∀ f m, f < 20 → m < 2147483648 → rg (dlR w L) (10 + 20 * n + f) m := fun f m hf hm => eR n f m hn hf hm (by rw [if_neg h]; exact Nat.zero_le _)
      refine ⟨⟨er 0 2 (by decide) (by decide), er 1 3 (by decide) (by decide), er 2 15 (by decide) (by decide), er 3 15 (by decide) (by decide), er 4 15 (by decide) (by decide)⟩, ⟨er 5 7 (by decide) (by decide), er 6 99 (by decide) (by decide), er 7 999 (by decide) (by decide), er 8 999 (by decide) (by decide), er 9 999 (by decide) (by decide)⟩, ⟨er 10 6000000 (by decide) (by decide), er 11 999 (by decide) (by decide), er 12 1998 (by decide) (by decide), er 13 99 (by decide) (by decide), er 14 9 (by decide) (by decide), er 15 9 (by decide) (by decide), er 16 _ (by decide) (by rw [ev 15 (by decide)]; decide), er 17 1 (by decide) (by decide)⟩, fun h2 => by rw [enn] at h2; omega, fun _ => ⟨ev 0 (by decide), ev 1 (by decide), ev 5 (by decide)⟩, fun a ha => by rw [ev 1 (by decide)] at ha; omega, fun _ f _ hf2 => ev f (by omega)⟩
  have hS : ∀ n, n ≤ 16 → sumH (dlR w L) n ≤ 999 * n := by
    intro n
    induction n with
    | zero => intro _; exact Nat.le_refl 0
    | succ n ih =>
      intro hn
      have h1 := ih (by omega)
      have h2 : fd (dlR w L) n 10 ≤ 999 := by
        rw [eV n 10 (by omega) (by decide)]
        split
        next h =>
          obtain ⟨G1, hb⟩ := nsK_n hk h
          exact dFv_l hb 10
        next => omega
      show sumH (dlR w L) n + fd (dlR w L) n 10 ≤ _
      omega
  have h16 := hS 16 (Nat.le_refl _)
  refine ⟨⟨⟨rg_i (show dlR w L 0 = nI L.length from rfl) hl (by decide), by rw [enn]; exact h0⟩, rg_i (dlR_z hl (by omega)) (Nat.zero_le _) (by decide), ⟨?_, ?_, ?_, ?_⟩, hNI, by omega⟩, by omega⟩
  · exact rg_c (dlR_o hl (by omega)) h6
  · exact rg_c (dlR_o hl (by omega)) h7
  · exact rg_c (dlR_o hl (by omega)) h8
  · exact rg_c (dlR_o hl (by omega)) h9
theorem WI_dl {w : Nat → Int32} {L : List (Nat → Nat)} (hw : WI w) (hL : dlK L) : WI (dlR w L) ∧ sumH (dlR w L) 16 ≤ 15984 := WI_dl0 hw.2.2.1 hL
section PD
variable {d : Nat} {g : Nat → Nat → Int32} {q : Nat → Nat → Int64} {P : QT} {w : Nat → Int32} {L : List (Nat → Nat)}
def clr (x : Nat) : Prop := (x < 6 ∧ x ≠ 5) ∨ 10 ≤ x
theorem pd_cl (H : ∀ r, (∀ x, x < 596 → (x < 6 ∧ x ≠ 5) ∨ 10 ≤ x → r x = nI 0) → (∀ x, 596 ≤ x ∨ ¬ ((x < 6 ∧ x ≠ 5) ∨ 10 ≤ x) → r x = w x) → wp (ev d) P mo_putsDelta 39 [some (.ref 196), some (.int (nI 596)), none] [] (E (upw g 197 r) q)) : ∀ (j i : Nat) (r : Nat → Int32), i + j = 596 → (∀ x, x < i → (x < 6 ∧ x ≠ 5) ∨ 10 ≤ x → r x = nI 0) → (∀ x, i ≤ x ∨ ¬ ((x < 6 ∧ x ≠ 5) ∨ 10 ≤ x) → r x = w x) →
    wp (ev d) P mo_putsDelta 2 [some (.ref 196), some (.int (nI i)), none] [] (E (upw g 197 r) q) := by
  intro j
  induction j with
  | zero =>
    intro i r hi h1 h2
    have hi : i = 596 := hi
    subst hi
    rw [b_mo_putsDelta_2]
    simp -implicitDefEqProofs (disch := first | assumption | omega) only [szS_0, szS_i, szS_r, szS_l, x_cons, x_goto, ob_some, kl_i, kl_r, kl_l, kl_n, push_n, push_s, pop_0, pop_i, pop_r, Int.reduceToNat, List.length_cons, List.length_nil, Nat.reduceAdd, Nat.reduceLeDiff, Nat.zero_add, true_and, nI_n0, nat_le, Nat.add_zero, i_1, rt_mo_putsDelta, x_al0, x_call, x_getf, x_goto, x_iadd, x_iaload, x_iastore, x_icge, x_iclt, x_icne, x_il1, x_il2, x_imul, x_inc1, x_inc2, x_is1, x_is2, x_ldc, x_vret, nI_ltE, Nat.lt_irrefl, ↓reduceIte]
    exact H r h1 h2
  | succ j ih =>
    intro i r hi h1 h2
    have hi' : i < 596 := by omega
    have nx : ∀ r', (∀ x, x < i + 1 → (x < 6 ∧ x ≠ 5) ∨ 10 ≤ x → r' x = nI 0) → (∀ x, i + 1 ≤ x ∨ ¬ ((x < 6 ∧ x ≠ 5) ∨ 10 ≤ x) → r' x = w x) → wp (ev d) P mo_putsDelta 33 [some (.ref 196), some (.int (nI i)), none] [] (E (upw g 197 r') q) := fun r' a1 a2 => by
      rw [b_mo_putsDelta_33]
      simp -implicitDefEqProofs (disch := first | assumption | omega) only [szS_0, szS_i, szS_r, szS_l, x_cons, x_goto, ob_some, kl_i, kl_r, kl_l, kl_n, push_n, push_s, pop_0, pop_i, pop_r, Int.reduceToNat, List.length_cons, List.length_nil, Nat.reduceAdd, Nat.reduceLeDiff, Nat.zero_add, true_and, nI_n0, nat_le, Nat.add_zero, i_1, rt_mo_putsDelta, x_al0, x_call, x_getf, x_goto, x_iadd, x_iaload, x_iastore, x_icge, x_iclt, x_icne, x_il1, x_il2, x_imul, x_inc1, x_inc2, x_is1, x_is2, x_ldc, x_vret, nI_add]
      exact ih (i + 1) r' (by omega) a1 a2
    have st : (i < 6 ∧ i ≠ 5) ∨ 10 ≤ i → wp (ev d) P mo_putsDelta 26 [some (.ref 196), some (.int (nI i)), none] [] (E (upw g 197 r) q) := fun hc => by
      rw [b_mo_putsDelta_26]
      simp -implicitDefEqProofs (disch := first | assumption | omega) only [szS_0, szS_i, szS_r, szS_l, x_cons, x_goto, ob_some, kl_i, kl_r, kl_l, kl_n, push_n, push_s, pop_0, pop_i, pop_r, Int.reduceToNat, List.length_cons, List.length_nil, Nat.reduceAdd, Nat.reduceLeDiff, Nat.zero_add, true_and, nI_n0, nat_le, Nat.add_zero, i_1, rt_mo_putsDelta, x_al0, x_call, x_getf, x_goto, x_iadd, x_iaload, x_iastore, x_icge, x_iclt, x_icne, x_il1, x_il2, x_imul, x_inc1, x_inc2, x_is1, x_is2, x_ldc, x_vret, fd_196_0, fd_196_1, fd_196_2, fd_196_3, fd_196_4, sf_196_4, fd_196_5, sf_196_5, fd_196_6, fd_196_7, fd_196_8, fd_196_9, fd_196_10, fd_196_11, fd_196_12, sf_196_12, fd_196_13, sf_196_13, fd_196_14, sf_196_14, fd_196_15, sf_196_15, fd_196_16, sf_196_16, fd_196_17, sf_196_17, fd_196_18, sf_196_18, fd_196_19, sf_196_19, fd_196_20, sf_196_20, fd_196_21, sf_196_21, fd_196_22, sf_196_22, fd_196_23, sf_196_23, fd_196_24, sf_196_24, fd_196_25, sf_196_25, fd_196_26, sf_196_26, fd_196_27, fd_196_28, fd_196_29, fd_196_30, sf_196_30, fd_196_31, fd_196_32, fd_196_33, fd_196_34, fd_196_35, fd_196_36, fd_196_37, sf_196_37, fd_196_38, fd_196_39, sf_196_39, fd_196_40, sf_196_40, fd_196_41, sf_196_41, fd_196_42, fd_196_43, fd_196_44, ld_197, sd_197, ln_197, pu_w]
      refine nx _ (fun x hx hc => ?_) fun x hx => ?_
      · by_cases e : x = i
        · rw [e, pu_s]
        · rw [pu_n e]
          exact h1 x (by omega) hc
      · rw [pu_n (by omega)]
        exact h2 x (by omega)
    have no : ¬ ((i < 6 ∧ i ≠ 5) ∨ 10 ≤ i) → wp (ev d) P mo_putsDelta 33 [some (.ref 196), some (.int (nI i)), none] [] (E (upw g 197 r) q) := fun hc => nx r (fun x hx hc2 => h1 x (by
      by_cases e : x = i
      · rw [e] at hc2
        exact absurd hc2 hc
      · omega) hc2) fun x hx => h2 x (by omega)
    have b20 : 5 ≤ i → ((i < 6 ∧ i ≠ 5) → False) → wp (ev d) P mo_putsDelta 20 [some (.ref 196), some (.int (nI i)), none] [] (E (upw g 197 r) q) := fun h5 hf => by
      rw [b_mo_putsDelta_20]
      simp -implicitDefEqProofs (disch := first | assumption | omega) only [szS_0, szS_i, szS_r, szS_l, x_cons, x_goto, ob_some, kl_i, kl_r, kl_l, kl_n, push_n, push_s, pop_0, pop_i, pop_r, Int.reduceToNat, List.length_cons, List.length_nil, Nat.reduceAdd, Nat.reduceLeDiff, Nat.zero_add, true_and, nI_n0, nat_le, Nat.add_zero, i_1, rt_mo_putsDelta, x_al0, x_call, x_getf, x_goto, x_iadd, x_iaload, x_iastore, x_icge, x_iclt, x_icne, x_il1, x_il2, x_imul, x_inc1, x_inc2, x_is1, x_is2, x_ldc, x_vret, nI_ltE]
      by_cases c10 : i < 10
      · simp only [c10, ↓reduceIte]
        exact no fun h => h.elim hf (by omega)
      · simp only [c10, ↓reduceIte]
        exact st (Or.inr (by omega))
    rw [b_mo_putsDelta_2]
    simp -implicitDefEqProofs (disch := first | assumption | omega) only [szS_0, szS_i, szS_r, szS_l, x_cons, x_goto, ob_some, kl_i, kl_r, kl_l, kl_n, push_n, push_s, pop_0, pop_i, pop_r, Int.reduceToNat, List.length_cons, List.length_nil, Nat.reduceAdd, Nat.reduceLeDiff, Nat.zero_add, true_and, nI_n0, nat_le, Nat.add_zero, i_1, rt_mo_putsDelta, x_al0, x_call, x_getf, x_goto, x_iadd, x_iaload, x_iastore, x_icge, x_iclt, x_icne, x_il1, x_il2, x_imul, x_inc1, x_inc2, x_is1, x_is2, x_ldc, x_vret, nI_ltE, hi', ↓reduceIte]
    by_cases c6 : i < 6
    · simp only [c6, ↓reduceIte]
      try simp -implicitDefEqProofs (disch := first | assumption | omega) only [szS_0, szS_i, szS_r, szS_l, x_cons, x_goto, ob_some, kl_i, kl_r, kl_l, kl_n, push_n, push_s, pop_0, pop_i, pop_r, Int.reduceToNat, List.length_cons, List.length_nil, Nat.reduceAdd, Nat.reduceLeDiff, Nat.zero_add, true_and, nI_n0, nat_le, Nat.add_zero, i_1, rt_mo_putsDelta, x_al0, x_call, x_getf, x_goto, x_iadd, x_iaload, x_iastore, x_icge, x_iclt, x_icne, x_il1, x_il2, x_imul, x_inc1, x_inc2, x_is1, x_is2, x_ldc, x_vret, nI_eqE]
      by_cases c5 : i = 5
      · simp only [c5, ↓reduceIte]
        have := b20 (by omega) fun h => h.2 c5
        rw [c5] at this
        exact this
      · simp only [c5, ↓reduceIte]
        exact st (Or.inl ⟨c6, c5⟩)
    · simp only [c6, ↓reduceIte]
      exact b20 (by omega) fun h => c6 h.1
theorem pd_in {i : Nat} {v : Nat → Nat} (hi : i < 16) (hV : mV i v g) {r0 : Nat → Int32} (H : ∀ r, (∀ f, f < 5 → r (10 + 20 * i + f) = nI (v f)) → (∀ x, x < 10 + 20 * i ∨ 10 + 20 * i + 5 ≤ x → r x = r0 x) → wp (ev (d + 1)) P mo_putsDelta 89 [some (.ref 196), some (.int (nI i)), some (.int (nI 5))] [] (E (upw g 197 r) q)) : ∀ (j k : Nat) (r : Nat → Int32), k + j = 5 → (∀ f, f < k → r (10 + 20 * i + f) = nI (v f)) → (∀ x, x < 10 + 20 * i ∨ 10 + 20 * i + k ≤ x → r x = r0 x) →
    wp (ev (d + 1)) P mo_putsDelta 61 [some (.ref 196), some (.int (nI i)), some (.int (nI k))] [] (E (upw g 197 r) q) := by
  intro j
  induction j with
  | zero =>
    intro k r hk h1 h2
    have hk : k = 5 := hk
    subst hk
    rw [b_mo_putsDelta_61]
    simp -implicitDefEqProofs (disch := first | assumption | omega) only [szS_0, szS_i, szS_r, szS_l, x_cons, x_goto, ob_some, kl_i, kl_r, kl_l, kl_n, push_n, push_s, pop_0, pop_i, pop_r, Int.reduceToNat, List.length_cons, List.length_nil, Nat.reduceAdd, Nat.reduceLeDiff, Nat.zero_add, true_and, nI_n0, nat_le, Nat.add_zero, i_1, rt_mo_putsDelta, x_al0, x_call, x_getf, x_goto, x_iadd, x_iaload, x_iastore, x_icge, x_iclt, x_icne, x_il1, x_il2, x_imul, x_inc1, x_inc2, x_is1, x_is2, x_ldc, x_vret, nI_ltE, Nat.lt_irrefl, ↓reduceIte]
    exact H r h1 h2
  | succ j ih =>
    intro k r hk h1 h2
    have hk' : k < 5 := by omega
    have e := hV k (by omega)
    have l1 : 8 * i + k < 128 := by omega
    have l2 : 10 + 20 * i + k < 2955 := by omega
    rw [b_mo_putsDelta_61]
    simp -implicitDefEqProofs (disch := first | assumption | omega) only [szS_0, szS_i, szS_r, szS_l, x_cons, x_goto, ob_some, kl_i, kl_r, kl_l, kl_n, push_n, push_s, pop_0, pop_i, pop_r, Int.reduceToNat, List.length_cons, List.length_nil, Nat.reduceAdd, Nat.reduceLeDiff, Nat.zero_add, true_and, nI_n0, nat_le, Nat.add_zero, i_1, rt_mo_putsDelta, x_al0, x_call, x_getf, x_goto, x_iadd, x_iaload, x_iastore, x_icge, x_iclt, x_icne, x_il1, x_il2, x_imul, x_inc1, x_inc2, x_is1, x_is2, x_ldc, x_vret, nI_ltE, hk', ↓reduceIte, fd_196_0, fd_196_1, fd_196_2, fd_196_3, fd_196_4, sf_196_4, fd_196_5, sf_196_5, fd_196_6, fd_196_7, fd_196_8, fd_196_9, fd_196_10, fd_196_11, fd_196_12, sf_196_12, fd_196_13, sf_196_13, fd_196_14, sf_196_14, fd_196_15, sf_196_15, fd_196_16, sf_196_16, fd_196_17, sf_196_17, fd_196_18, sf_196_18, fd_196_19, sf_196_19, fd_196_20, sf_196_20, fd_196_21, sf_196_21, fd_196_22, sf_196_22, fd_196_23, sf_196_23, fd_196_24, sf_196_24, fd_196_25, sf_196_25, fd_196_26, sf_196_26, fd_196_27, fd_196_28, fd_196_29, fd_196_30, sf_196_30, fd_196_31, fd_196_32, fd_196_33, fd_196_34, fd_196_35, fd_196_36, fd_196_37, sf_196_37, fd_196_38, fd_196_39, sf_196_39, fd_196_40, sf_196_40, fd_196_41, sf_196_41, fd_196_42, fd_196_43, fd_196_44, nI_mul, nI_add, ld_203, sd_203, ln_203, upw_o, e, s_gives, pu_w]
    refine ih (k + 1) _ (by omega) (fun f hf => ?_) fun x hx => by rw [pu_n (by omega)]; exact h2 x (by omega)
    by_cases e2 : f = k
    · rw [e2, pu_s]
    · rw [pu_n (by omega)]
      exact h1 f (by omega)
theorem pd_out (hl : L.length ≤ 16) (h15 : g 196 15 = nI L.length) (hV : mVs g 0 L) {r0 : Nat → Int32} (hz : ∀ x, 10 ≤ x → x < 596 → r0 x = nI 0) (H : ∀ r, (∀ n f, n < L.length → f < 20 → r (10 + 20 * n + f) = nI (dFv (ndL L n) f)) → (∀ x, x < 10 ∨ 10 + 20 * L.length ≤ x → r x = r0 x) → wp (ev (d + 1)) P mo_putsDelta 139 [some (.ref 196), some (.int (nI L.length)), none] [] (E (upw g 197 r) q) ∧ ∀ o, wp (ev (d + 1)) P mo_putsDelta 139 [some (.ref 196), some (.int (nI L.length)), some (.int o)] [] (E (upw g 197 r) q)) : ∀ (j i : Nat) (r : Nat → Int32) (o : Option Value), i + j = L.length → (o = none ∨ ∃ x, o = some (.int x)) → (∀ n f, n < i → f < 20 → r (10 + 20 * n + f) = nI (dFv (ndL L n) f)) → (∀ x, x < 10 ∨ 10 + 20 * i ≤ x → r x = r0 x) →
    wp (ev (d + 1)) P mo_putsDelta 51 [some (.ref 196), some (.int (nI i)), o] [] (E (upw g 197 r) q) := by
  intro j
  induction j with
  | zero =>
    intro i r o hi ho h1 h2
    have hi : i = L.length := hi
    subst hi
    rw [b_mo_putsDelta_51]
    rcases ho with rfl | ⟨x, rfl⟩
    · simp -implicitDefEqProofs (disch := first | assumption | omega) only [szS_0, szS_i, szS_r, szS_l, x_cons, x_goto, ob_some, kl_i, kl_r, kl_l, kl_n, push_n, push_s, pop_0, pop_i, pop_r, Int.reduceToNat, List.length_cons, List.length_nil, Nat.reduceAdd, Nat.reduceLeDiff, Nat.zero_add, true_and, nI_n0, nat_le, Nat.add_zero, i_1, rt_mo_putsDelta, x_al0, x_call, x_getf, x_goto, x_iadd, x_iaload, x_iastore, x_icge, x_iclt, x_icne, x_il1, x_il2, x_imul, x_inc1, x_inc2, x_is1, x_is2, x_ldc, x_vret, fd_196_0, fd_196_1, fd_196_2, fd_196_3, fd_196_4, sf_196_4, fd_196_5, sf_196_5, fd_196_6, fd_196_7, fd_196_8, fd_196_9, fd_196_10, fd_196_11, fd_196_12, sf_196_12, fd_196_13, sf_196_13, fd_196_14, sf_196_14, fd_196_15, sf_196_15, fd_196_16, sf_196_16, fd_196_17, sf_196_17, fd_196_18, sf_196_18, fd_196_19, sf_196_19, fd_196_20, sf_196_20, fd_196_21, sf_196_21, fd_196_22, sf_196_22, fd_196_23, sf_196_23, fd_196_24, sf_196_24, fd_196_25, sf_196_25, fd_196_26, sf_196_26, fd_196_27, fd_196_28, fd_196_29, fd_196_30, sf_196_30, fd_196_31, fd_196_32, fd_196_33, fd_196_34, fd_196_35, fd_196_36, fd_196_37, sf_196_37, fd_196_38, fd_196_39, sf_196_39, fd_196_40, sf_196_40, fd_196_41, sf_196_41, fd_196_42, fd_196_43, fd_196_44, upw_o, h15, nI_ltE, Nat.lt_irrefl, ↓reduceIte]
      exact (H r h1 h2).1
    · simp -implicitDefEqProofs (disch := first | assumption | omega) only [szS_0, szS_i, szS_r, szS_l, x_cons, x_goto, ob_some, kl_i, kl_r, kl_l, kl_n, push_n, push_s, pop_0, pop_i, pop_r, Int.reduceToNat, List.length_cons, List.length_nil, Nat.reduceAdd, Nat.reduceLeDiff, Nat.zero_add, true_and, nI_n0, nat_le, Nat.add_zero, i_1, rt_mo_putsDelta, x_al0, x_call, x_getf, x_goto, x_iadd, x_iaload, x_iastore, x_icge, x_iclt, x_icne, x_il1, x_il2, x_imul, x_inc1, x_inc2, x_is1, x_is2, x_ldc, x_vret, fd_196_0, fd_196_1, fd_196_2, fd_196_3, fd_196_4, sf_196_4, fd_196_5, sf_196_5, fd_196_6, fd_196_7, fd_196_8, fd_196_9, fd_196_10, fd_196_11, fd_196_12, sf_196_12, fd_196_13, sf_196_13, fd_196_14, sf_196_14, fd_196_15, sf_196_15, fd_196_16, sf_196_16, fd_196_17, sf_196_17, fd_196_18, sf_196_18, fd_196_19, sf_196_19, fd_196_20, sf_196_20, fd_196_21, sf_196_21, fd_196_22, sf_196_22, fd_196_23, sf_196_23, fd_196_24, sf_196_24, fd_196_25, sf_196_25, fd_196_26, sf_196_26, fd_196_27, fd_196_28, fd_196_29, fd_196_30, sf_196_30, fd_196_31, fd_196_32, fd_196_33, fd_196_34, fd_196_35, fd_196_36, fd_196_37, sf_196_37, fd_196_38, fd_196_39, sf_196_39, fd_196_40, sf_196_40, fd_196_41, sf_196_41, fd_196_42, fd_196_43, fd_196_44, upw_o, h15, nI_ltE, Nat.lt_irrefl, ↓reduceIte]
      exact (H r h1 h2).2 x
  | succ j ih =>
    intro i r o hi ho h1 h2
    have hi' : i < L.length := by omega
    have V := mVs_n hV hi'
    rw [Nat.zero_add] at V
    have e5 := V 5 (by decide)
    have e6 := V 6 (by decide)
    have l1 : 8 * i + 5 < 128 := by omega
    have l2 : 8 * i + 6 < 128 := by omega
    have l3 : 10 + 20 * i + 5 < 2955 := by omega
    have l4 : 10 + 20 * i + 10 < 2955 := by omega
    have l5 : 10 + 20 * i + 11 < 2955 := by omega
    rw [b_mo_putsDelta_51]
    simp -implicitDefEqProofs (disch := first | assumption | omega) only [szS_0, szS_i, szS_r, szS_l, x_cons, x_goto, ob_some, kl_i, kl_r, kl_l, kl_n, push_n, push_s, pop_0, pop_i, pop_r, Int.reduceToNat, List.length_cons, List.length_nil, Nat.reduceAdd, Nat.reduceLeDiff, Nat.zero_add, true_and, nI_n0, nat_le, Nat.add_zero, i_1, rt_mo_putsDelta, x_al0, x_call, x_getf, x_goto, x_iadd, x_iaload, x_iastore, x_icge, x_iclt, x_icne, x_il1, x_il2, x_imul, x_inc1, x_inc2, x_is1, x_is2, x_ldc, x_vret, fd_196_0, fd_196_1, fd_196_2, fd_196_3, fd_196_4, sf_196_4, fd_196_5, sf_196_5, fd_196_6, fd_196_7, fd_196_8, fd_196_9, fd_196_10, fd_196_11, fd_196_12, sf_196_12, fd_196_13, sf_196_13, fd_196_14, sf_196_14, fd_196_15, sf_196_15, fd_196_16, sf_196_16, fd_196_17, sf_196_17, fd_196_18, sf_196_18, fd_196_19, sf_196_19, fd_196_20, sf_196_20, fd_196_21, sf_196_21, fd_196_22, sf_196_22, fd_196_23, sf_196_23, fd_196_24, sf_196_24, fd_196_25, sf_196_25, fd_196_26, sf_196_26, fd_196_27, fd_196_28, fd_196_29, fd_196_30, sf_196_30, fd_196_31, fd_196_32, fd_196_33, fd_196_34, fd_196_35, fd_196_36, fd_196_37, sf_196_37, fd_196_38, fd_196_39, sf_196_39, fd_196_40, sf_196_40, fd_196_41, sf_196_41, fd_196_42, fd_196_43, fd_196_44, upw_o, h15, nI_ltE, hi', ↓reduceIte]
    refine pd_in (by omega) V (r0 := r) (fun r1 a1 a2 => ?_) 5 0 r (Nat.zero_add _) (fun f hf => absurd hf (Nat.not_lt_zero f)) fun _ _ => rfl
    rw [b_mo_putsDelta_89]
    simp -implicitDefEqProofs (disch := first | assumption | omega) only [szS_0, szS_i, szS_r, szS_l, x_cons, x_goto, ob_some, kl_i, kl_r, kl_l, kl_n, push_n, push_s, pop_0, pop_i, pop_r, Int.reduceToNat, List.length_cons, List.length_nil, Nat.reduceAdd, Nat.reduceLeDiff, Nat.zero_add, true_and, nI_n0, nat_le, Nat.add_zero, i_1, rt_mo_putsDelta, x_al0, x_call, x_getf, x_goto, x_iadd, x_iaload, x_iastore, x_icge, x_iclt, x_icne, x_il1, x_il2, x_imul, x_inc1, x_inc2, x_is1, x_is2, x_ldc, x_vret, fd_196_0, fd_196_1, fd_196_2, fd_196_3, fd_196_4, sf_196_4, fd_196_5, sf_196_5, fd_196_6, fd_196_7, fd_196_8, fd_196_9, fd_196_10, fd_196_11, fd_196_12, sf_196_12, fd_196_13, sf_196_13, fd_196_14, sf_196_14, fd_196_15, sf_196_15, fd_196_16, sf_196_16, fd_196_17, sf_196_17, fd_196_18, sf_196_18, fd_196_19, sf_196_19, fd_196_20, sf_196_20, fd_196_21, sf_196_21, fd_196_22, sf_196_22, fd_196_23, sf_196_23, fd_196_24, sf_196_24, fd_196_25, sf_196_25, fd_196_26, sf_196_26, fd_196_27, fd_196_28, fd_196_29, fd_196_30, sf_196_30, fd_196_31, fd_196_32, fd_196_33, fd_196_34, fd_196_35, fd_196_36, fd_196_37, sf_196_37, fd_196_38, fd_196_39, sf_196_39, fd_196_40, sf_196_40, fd_196_41, sf_196_41, fd_196_42, fd_196_43, fd_196_44, nI_mul, nI_add, ld_203, sd_203, ln_203, upw_o, e5, e6, s_gives, pu_w]
    refine ih (i + 1) _ _ (by omega) (Or.inr ⟨_, rfl⟩) (fun n f hn hf => ?_) fun x hx => ?_
    · by_cases en : n = i
      · subst en
        unfold dFv
        by_cases f11 : f = 11
        · rw [f11, pu_s]
          rfl
        · rw [pu_n (by omega)]
          by_cases f10 : f = 10
          · rw [f10, pu_s]
            rfl
          · rw [pu_n (by omega)]
            by_cases f5 : f = 5
            · rw [f5, pu_s]
              rfl
            · rw [pu_n (by omega)]
              by_cases fl : f < 5
              · rw [a1 f fl, if_pos fl]
              · rw [a2 _ (by omega), h2 _ (by omega), hz _ (by omega) (by omega), if_neg fl, if_neg f5, if_neg f10, if_neg f11]
      · rw [pu_n (by omega), pu_n (by omega), pu_n (by omega), a2 _ (by omega)]
        exact h1 n f (by omega) hf
    · rw [pu_n (by omega), pu_n (by omega), pu_n (by omega), a2 _ (by omega)]
      exact h2 x (by omega)
theorem s_putsDelta (hl : L.length ≤ 16) (hw : g 197 = w) (h15 : g 196 15 = nI L.length) (hV : mVs g 0 L) (H : P none (E (upw (upw g 197 (dlR w L)) 196 (pu (g 196) 4 (nI 0))) q)) : callC (ev (d + 2)) mo_putsDelta [.ref 196] (E g q) P := by
  refine in_mo_putsDelta rfl ?_
  rw [b_mo_putsDelta_0]
  simp -implicitDefEqProofs (disch := first | assumption | omega) only [szS_0, szS_i, szS_r, szS_l, x_cons, x_goto, ob_some, kl_i, kl_r, kl_l, kl_n, push_n, push_s, pop_0, pop_i, pop_r, Int.reduceToNat, List.length_cons, List.length_nil, Nat.reduceAdd, Nat.reduceLeDiff, Nat.zero_add, true_and, nI_n0, nat_le, Nat.add_zero, i_1, rt_mo_putsDelta, x_al0, x_call, x_getf, x_goto, x_iadd, x_iaload, x_iastore, x_icge, x_iclt, x_icne, x_il1, x_il2, x_imul, x_inc1, x_inc2, x_is1, x_is2, x_ldc, x_vret]
  rw [show E g q = E (upw g 197 w) q by rw [← hw, upw_g]]
  refine pd_cl (w := w) (fun r r1 r2 => ?_) 596 0 w (Nat.zero_add _) (fun x hx => absurd hx (Nat.not_lt_zero x)) fun _ _ => rfl
  rw [b_mo_putsDelta_39]
  simp -implicitDefEqProofs (disch := first | assumption | omega) only [szS_0, szS_i, szS_r, szS_l, x_cons, x_goto, ob_some, kl_i, kl_r, kl_l, kl_n, push_n, push_s, pop_0, pop_i, pop_r, Int.reduceToNat, List.length_cons, List.length_nil, Nat.reduceAdd, Nat.reduceLeDiff, Nat.zero_add, true_and, nI_n0, nat_le, Nat.add_zero, i_1, rt_mo_putsDelta, x_al0, x_call, x_getf, x_goto, x_iadd, x_iaload, x_iastore, x_icge, x_iclt, x_icne, x_il1, x_il2, x_imul, x_inc1, x_inc2, x_is1, x_is2, x_ldc, x_vret, fd_196_0, fd_196_1, fd_196_2, fd_196_3, fd_196_4, sf_196_4, fd_196_5, sf_196_5, fd_196_6, fd_196_7, fd_196_8, fd_196_9, fd_196_10, fd_196_11, fd_196_12, sf_196_12, fd_196_13, sf_196_13, fd_196_14, sf_196_14, fd_196_15, sf_196_15, fd_196_16, sf_196_16, fd_196_17, sf_196_17, fd_196_18, sf_196_18, fd_196_19, sf_196_19, fd_196_20, sf_196_20, fd_196_21, sf_196_21, fd_196_22, sf_196_22, fd_196_23, sf_196_23, fd_196_24, sf_196_24, fd_196_25, sf_196_25, fd_196_26, sf_196_26, fd_196_27, fd_196_28, fd_196_29, fd_196_30, sf_196_30, fd_196_31, fd_196_32, fd_196_33, fd_196_34, fd_196_35, fd_196_36, fd_196_37, sf_196_37, fd_196_38, fd_196_39, sf_196_39, fd_196_40, sf_196_40, fd_196_41, sf_196_41, fd_196_42, fd_196_43, fd_196_44, upw_o, h15, ld_197, sd_197, ln_197, pu_w]
  refine pd_out hl h15 hV (r0 := pu r 0 (nI L.length)) (fun x x1 x2 => by rw [pu_n (by omega)]; exact r1 x x2 (Or.inr x1)) (fun r3 a1 a2 => ?_) L.length 0 _ none (Nat.zero_add _) (Or.inl rfl) (fun n f hn => absurd hn (Nat.not_lt_zero n)) fun _ _ => rfl
  have er : r3 = dlR w L := by
    funext x
    unfold dlR
    by_cases x0 : x = 0
    · rw [if_pos x0, a2 x (by omega), x0, pu_s]
    · rw [if_neg x0]
      by_cases x1 : x < 6 ∧ x ≠ 5
      · rw [if_pos x1, a2 x (by omega), pu_n x0, r1 x (by omega) (Or.inl x1)]
      · rw [if_neg x1]
        by_cases x2 : 10 ≤ x ∧ x < 10 + 20 * L.length
        · rw [if_pos x2]
          have := a1 ((x - 10) / 20) ((x - 10) % 20) (by omega) (by omega)
          rw [show 10 + 20 * ((x - 10) / 20) + (x - 10) % 20 = x by omega] at this
          exact this
        · rw [if_neg x2, a2 x (by omega), pu_n x0]
          by_cases x3 : 10 ≤ x ∧ x < 596
          · rw [if_pos x3, r1 x x3.2 (Or.inr x3.1)]
          · rw [if_neg x3, r2 x (by omega)]
  rw [er]
  have fin : ∀ o, (o = none ∨ ∃ x, o = some (.int x)) → wp (ev (d + 1)) P mo_putsDelta 139 [some (.ref 196), some (.int (nI L.length)), o] [] (E (upw g 197 (dlR w L)) q) := fun o ho => by
    rw [b_mo_putsDelta_139]
    rcases ho with rfl | ⟨x, rfl⟩
    · simp -implicitDefEqProofs (disch := first | assumption | omega) only [szS_0, szS_i, szS_r, szS_l, x_cons, x_goto, ob_some, kl_i, kl_r, kl_l, kl_n, push_n, push_s, pop_0, pop_i, pop_r, Int.reduceToNat, List.length_cons, List.length_nil, Nat.reduceAdd, Nat.reduceLeDiff, Nat.zero_add, true_and, nI_n0, nat_le, Nat.add_zero, i_1, rt_mo_putsDelta, x_al0, x_call, x_getf, x_goto, x_iadd, x_iaload, x_iastore, x_icge, x_iclt, x_icne, x_il1, x_il2, x_imul, x_inc1, x_inc2, x_is1, x_is2, x_ldc, x_vret, s_forgets, pu_g, upw_o]
      exact H
    · simp -implicitDefEqProofs (disch := first | assumption | omega) only [szS_0, szS_i, szS_r, szS_l, x_cons, x_goto, ob_some, kl_i, kl_r, kl_l, kl_n, push_n, push_s, pop_0, pop_i, pop_r, Int.reduceToNat, List.length_cons, List.length_nil, Nat.reduceAdd, Nat.reduceLeDiff, Nat.zero_add, true_and, nI_n0, nat_le, Nat.add_zero, i_1, rt_mo_putsDelta, x_al0, x_call, x_getf, x_goto, x_iadd, x_iaload, x_iastore, x_icge, x_iclt, x_icne, x_il1, x_il2, x_imul, x_inc1, x_inc2, x_is1, x_is2, x_ldc, x_vret, s_forgets, pu_g, upw_o]
      exact H
  exact ⟨fin _ (Or.inl rfl), fun o => fin _ (Or.inr ⟨o, rfl⟩)⟩
end PD
