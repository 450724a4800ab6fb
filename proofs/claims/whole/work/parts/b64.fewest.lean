/-! the fewest towns that win -/
theorem cnt_ext {p p' : Nat → Bool} : ∀ n, (∀ m, m < n → p' m = p m) → cnt p' n = cnt p n
  | 0, _ => rfl
  | n + 1, h => by
    rw [cnt_s, cnt_s, cnt_ext n fun m hm => h m (by omega), h n (by omega)]
theorem cnt_upd {p p' : Nat → Bool} {t : Nat} : ∀ n, t < n → (∀ m, m ≠ t → p' m = p m) → cnt p' n + (if p t = true then 1 else 0) = cnt p n + (if p' t = true then 1 else 0)
  | 0, h, _ => absurd h (Nat.not_lt_zero _)
  | n + 1, ht, h => by
    rw [cnt_s, cnt_s]
    by_cases e : t = n
    · subst e
      rw [cnt_ext t fun m hm => h m (by omega)]
      omega
    · have := cnt_upd n (by omega) h
      rw [h n (fun h => e h.symm)]
      omega
theorem cnt_1 {p : Nat → Bool} : ∀ n, 1 ≤ cnt p n → ∃ m, m < n ∧ p m = true
  | 0, h => absurd h (by show ¬ 1 ≤ 0; omega)
  | n + 1, h => by
    rw [cnt_s] at h
    by_cases e : p n = true
    · exact ⟨n, by omega, e⟩
    · rw [if_neg e] at h
      obtain ⟨m, hm, h2⟩ := cnt_1 n h
      exact ⟨m, by omega, h2⟩
theorem cnt_lt {x : Nat} : ∀ n, cnt (fun i => decide (i + 1 ≤ x)) n = if x ≤ n then x else n
  | 0 => by
    show 0 = _
    split <;> omega
  | n + 1 => by
    rw [cnt_s, cnt_lt n]
    by_cases h : n + 1 ≤ x
    · rw [decide_eq_true h, if_pos rfl]
      split <;> split <;> omega
    · rw [decide_eq_false h, if_neg Bool.false_ne_true]
      split <;> split <;> omega
/-- how many have so much -/
def CTh (U : Nat → Nat) (k : Nat) : Nat := cnt (fun m => decide (k ≤ U m)) 16
/-- the n-th greatest, by how many have so much -/
def sS (C : Nat → Nat) (n : Nat) : Nat := cnt (fun i => decide (n < C (i + 1))) 6000000
theorem sS_e {C : Nat → Nat} {n x : Nat} (hx : x ≤ 6000000) (h : ∀ k, 1 ≤ k → (k ≤ x ↔ n < C k)) : sS C n = x := by
  have e : sS C n = cnt (fun i => decide (i + 1 ≤ x)) 6000000 := cnt_ext _ fun i _ => decide_eq_decide.mpr (h (i + 1) (by omega)).symm
  rw [e, cnt_lt, if_pos hx]
def pfx (S : Nat → Nat) (r : Nat) : Nat → Nat → Nat → Int32
  | 0, _, _ => -1
  | j + 1, n, s => if r < s + S n then nI (n + 1) else pfx S r j (n + 1) (s + S n)
theorem pfx_0 {S : Nat → Nat} {r : Nat} : ∀ (j n s : Nat), s ≤ r → (∀ i, n ≤ i → S i = 0) → pfx S r j n s = -1
  | 0, _, _, _, _ => rfl
  | j + 1, n, s, h, h0 => by
    unfold pfx
    rw [h0 n (Nat.le_refl _), if_neg (by omega)]
    exact pfx_0 j (n + 1) _ (by omega) fun i hi => h0 i (by omega)
theorem pfx_k {S : Nat → Nat} {r : Nat} : ∀ (k j n s : Nat), s ≤ r → (∀ i, n + k ≤ i → S i = 0) → pfx S r (k + j) n s = pfx S r k n s
  | 0, j, n, s, h, h0 => by
    rw [Nat.zero_add, pfx_0 j n s h fun i hi => h0 i (by omega)]
    rfl
  | k + 1, j, n, s, h, h0 => by
    rw [show k + 1 + j = k + j + 1 by omega]
    unfold pfx
    split
    · rfl
    · exact pfx_k k j (n + 1) _ (by omega) fun i hi => h0 i (by omega)
/-- the most votes of another arm -/
def rvl (V : LW) (w : Nat → Int32) (f a : Nat) : Nat → Nat
  | 0 => 0
  | b + 1 => if b = a then rvl V w f a b else if rvl V w f a b < vfor V w f b then vfor V w f b else rvl V w f a b
theorem rvl_l {V : LW} {w : Nat → Int32} (h : WI w) {f a : Nat} : ∀ n, rvl V w f a n ≤ 6000000
  | 0 => Nat.zero_le _
  | n + 1 => by
    have h1 := rvl_l h (V := V) (f := f) (a := a) n
    have h2 := vsum_b h (V := V) (f := f) (a := n) (n := nn w) (by have := wi_n h; omega)
    unfold rvl
    split
    · exact h1
    · split
      · exact h2
      · exact h1
theorem cst_l {V : LW} {w : Nat → Int32} (h : WI w) {f m a : Nat} (hm : m < 16) : cst V w f m a ≤ 6000000 := by
  unfold cst
  split
  · have h1 := (vt_I h (V := V) (t := m) (f := f) (a := a) hm).1
    have h2 := (wi_y h hm).1.2
    omega
  · omega
/-- how many towns have so many votes for an arm -/
def fwC (V : LW) (w : Nat → Int32) (f a : Nat) : Nat → Nat := CTh fun m => cst V w f m a
def fwA (V : LW) (w : Nat → Int32) (f a : Int32) : Int32 := if armB w f a = true then pfx (sS (fwC V w (ix f) (ix a))) (rvl V w (ix f) (ix a) (am w (ix f))) 16 0 0 else -1
section FW
variable {d : Nat} {g : Nat → Nat → Int32} {q : Nat → Nat → Int64} {P : QT} {w : Nat → Int32} {V M : LW}
theorem lo_lp {U : Nat → Nat} (hU : ∀ m, m < 16 → g 192 m = nI (U m) ∧ U m ≤ 6000000) (H : ∀ t, t < 16 → (∀ m, m < 16 → U m ≤ U t) → P (some (.int (nI t))) (E g q)) : ∀ (j n t : Nat), n + j = 16 → t < n → (∀ m, m < n → U m ≤ U t) →
    wp (ev d) P co_loudestVoice 4 [some (.ref 184), some (.int (nI t)), some (.int (nI n))] [] (E g q) := by
  intro j
  induction j with
  | zero =>
    intro n t hn ht h
    have hn : n = 16 := hn
    subst hn
    rw [b_co_loudestVoice_4]
    simp -implicitDefEqProofs (disch := first | assumption | omega) only [szS_0, szS_i, szS_r, szS_l, x_cons, x_goto, ob_some, kl_i, kl_r, kl_l, kl_n, push_n, push_s, pop_0, pop_i, pop_r, Int.reduceToNat, List.length_cons, List.length_nil, Nat.reduceAdd, Nat.reduceLeDiff, Nat.zero_add, true_and, nI_n0, nat_le, Nat.add_zero, i_1, rt_co_loudestVoice, x_al0, x_getf, x_goto, x_iaload, x_icge, x_icle, x_il1, x_il2, x_inc2, x_iret, x_is1, x_is2, x_ldc, nI_ltE, Nat.lt_irrefl, ↓reduceIte, b_co_loudestVoice_33]
    exact H t ht h
  | succ j ih =>
    intro n t hn ht h
    have hn' : n < 16 := by omega
    have e1 := hU n hn'
    have e2 := hU t (by omega)
    rw [b_co_loudestVoice_4]
    simp -implicitDefEqProofs (disch := first | assumption | omega) only [szS_0, szS_i, szS_r, szS_l, x_cons, x_goto, ob_some, kl_i, kl_r, kl_l, kl_n, push_n, push_s, pop_0, pop_i, pop_r, Int.reduceToNat, List.length_cons, List.length_nil, Nat.reduceAdd, Nat.reduceLeDiff, Nat.zero_add, true_and, nI_n0, nat_le, Nat.add_zero, i_1, rt_co_loudestVoice, x_al0, x_getf, x_goto, x_iaload, x_icge, x_icle, x_il1, x_il2, x_inc2, x_iret, x_is1, x_is2, x_ldc, fd_184_0, fd_184_1, fd_184_2, fd_184_3, fd_184_4, fd_184_5, fd_184_6, fd_184_7, sf_184_7, fd_184_8, sf_184_8, fd_184_9, fd_184_10, fd_184_11, ld_192, sd_192, ln_192, nI_ltE, hn', ↓reduceIte, e1.1, e2.1]
    by_cases hl : U t < U n
    · rw [if_pos hl]
      try simp -implicitDefEqProofs (disch := first | assumption | omega) only [szS_0, szS_i, szS_r, szS_l, x_cons, x_goto, ob_some, kl_i, kl_r, kl_l, kl_n, push_n, push_s, pop_0, pop_i, pop_r, Int.reduceToNat, List.length_cons, List.length_nil, Nat.reduceAdd, Nat.reduceLeDiff, Nat.zero_add, true_and, nI_n0, nat_le, Nat.add_zero, i_1, rt_co_loudestVoice, x_al0, x_getf, x_goto, x_iaload, x_icge, x_icle, x_il1, x_il2, x_inc2, x_iret, x_is1, x_is2, x_ldc, b_co_loudestVoice_27, nI_add]
      refine ih (n + 1) n (by omega) (by omega) fun m hm => ?_
      by_cases e : m = n
      · rw [e]
        exact Nat.le_refl _
      · have := h m (by omega)
        omega
    · rw [if_neg hl]
      try simp -implicitDefEqProofs (disch := first | assumption | omega) only [b_co_loudestVoice_27, szS_0, szS_i, szS_r, szS_l, x_cons, x_goto, ob_some, kl_i, kl_r, kl_l, kl_n, push_n, push_s, pop_0, pop_i, pop_r, Int.reduceToNat, List.length_cons, List.length_nil, Nat.reduceAdd, Nat.reduceLeDiff, Nat.zero_add, true_and, nI_n0, nat_le, Nat.add_zero, i_1, rt_co_loudestVoice, x_al0, x_getf, x_goto, x_iaload, x_icge, x_icle, x_il1, x_il2, x_inc2, x_iret, x_is1, x_is2, x_ldc, nI_add]
      refine ih (n + 1) t (by omega) (by omega) fun m hm => ?_
      by_cases e : m = n
      · rw [e]
        omega
      · exact h m (by omega)
theorem s_loudest {U : Nat → Nat} (hU : ∀ m, m < 16 → g 192 m = nI (U m) ∧ U m ≤ 6000000) (H : ∀ t, t < 16 → (∀ m, m < 16 → U m ≤ U t) → P (some (.int (nI t))) (E g q)) : callC (ev (d + 1)) co_loudestVoice [.ref 184] (E g q) P := by
  refine in_co_loudestVoice rfl ?_
  rw [b_co_loudestVoice_0]
  simp -implicitDefEqProofs (disch := first | assumption | omega) only [szS_0, szS_i, szS_r, szS_l, x_cons, x_goto, ob_some, kl_i, kl_r, kl_l, kl_n, push_n, push_s, pop_0, pop_i, pop_r, Int.reduceToNat, List.length_cons, List.length_nil, Nat.reduceAdd, Nat.reduceLeDiff, Nat.zero_add, true_and, nI_n0, nat_le, Nat.add_zero, i_1, rt_co_loudestVoice, x_al0, x_getf, x_goto, x_iaload, x_icge, x_icle, x_il1, x_il2, x_inc2, x_iret, x_is1, x_is2, x_ldc]
  exact lo_lp hU H 15 1 0 rfl (by decide) fun m hm => by rw [show m = 0 by omega]; exact Nat.le_refl _
theorem fr_lp (hw : WI w) {f a : Nat} (hf : f < nn w) (ha : a < 3) (ham : g 4 f = nI (am w f)) (hS : ∀ b, b < am w f → g 179 b = nI (vfor V w f b)) (H : wp (ev (d + 1)) P co_fewestTowns 58 [some (.ref 184), some (.ref 1), some (.int (nI f)), some (.int (nI a)), some (.int (nI (rvl V w f a (am w f)))), some (.int (nI (am w f))), none, none] [] (E g q)) : ∀ (j b : Nat), b + j = am w f →
    wp (ev (d + 1)) P co_fewestTowns 15 [some (.ref 184), some (.ref 1), some (.int (nI f)), some (.int (nI a)), some (.int (nI (rvl V w f a b))), some (.int (nI b)), none, none] [] (E g q) := by
  have hN := wi_n hw
  have hf16 : f < 16 := by omega
  have ha3 := am_le hw hf16
  intro j
  induction j with
  | zero =>
    intro b hb
    have hb : b = am w f := hb
    rw [hb, b_co_fewestTowns_15]
    simp -implicitDefEqProofs (disch := first | assumption | omega) only [szS_0, szS_i, szS_r, szS_l, x_cons, x_goto, ob_some, kl_i, kl_r, kl_l, kl_n, push_n, push_s, pop_0, pop_i, pop_r, Int.reduceToNat, List.length_cons, List.length_nil, Nat.reduceAdd, Nat.reduceLeDiff, Nat.zero_add, true_and, nI_n0, nat_le, Nat.add_zero, i_1, rt_co_fewestTowns, x_al0, x_al1, x_call, x_getf, x_goto, x_iadd, x_iaload, x_iastore, x_iceq, x_icge, x_icgt, x_icle, x_il2, x_il3, x_il4, x_il5, x_il6, x_il7, x_imul, x_inc5, x_inc6, x_iret, x_is4, x_is5, x_is6, x_is7, x_ldc, x_m1, fd_1_0, fd_1_1, fd_1_2, fd_1_3, fd_1_4, fd_2_0, sf_2_0, fd_2_1, fd_2_2, fd_2_3, fd_2_4, ld_4, sd_4, ln_4, ham, nI_ltE, Nat.lt_irrefl, ↓reduceIte]
    exact H
  | succ j ih =>
    intro b hb
    have hb' : b < am w f := by omega
    have eb := hS b hb'
    have hi := ih (b + 1) (by omega)
    have l1 := rvl_l hw (V := V) (f := f) (a := a) b
    have l2 := vsum_b hw (V := V) (f := f) (a := b) (n := nn w) (by omega)
    have l2 : vfor V w f b ≤ 6000000 := l2
    have er : rvl V w f a (b + 1) = if b = a then rvl V w f a b else if rvl V w f a b < vfor V w f b then vfor V w f b else rvl V w f a b := rfl
    rw [b_co_fewestTowns_15]
    simp -implicitDefEqProofs (disch := first | assumption | omega) only [szS_0, szS_i, szS_r, szS_l, x_cons, x_goto, ob_some, kl_i, kl_r, kl_l, kl_n, push_n, push_s, pop_0, pop_i, pop_r, Int.reduceToNat, List.length_cons, List.length_nil, Nat.reduceAdd, Nat.reduceLeDiff, Nat.zero_add, true_and, nI_n0, nat_le, Nat.add_zero, i_1, rt_co_fewestTowns, x_al0, x_al1, x_call, x_getf, x_goto, x_iadd, x_iaload, x_iastore, x_iceq, x_icge, x_icgt, x_icle, x_il2, x_il3, x_il4, x_il5, x_il6, x_il7, x_imul, x_inc5, x_inc6, x_iret, x_is4, x_is5, x_is6, x_is7, x_ldc, x_m1, fd_1_0, fd_1_1, fd_1_2, fd_1_3, fd_1_4, fd_2_0, sf_2_0, fd_2_1, fd_2_2, fd_2_3, fd_2_4, ld_4, sd_4, ln_4, ham, nI_ltE, hb', ↓reduceIte, nI_eqE]
    by_cases e : b = a
    · rw [if_pos e] at er
      rw [er] at hi
      rw [if_pos e]
      try simp -implicitDefEqProofs (disch := first | assumption | omega) only [b_co_fewestTowns_52, szS_0, szS_i, szS_r, szS_l, x_cons, x_goto, ob_some, kl_i, kl_r, kl_l, kl_n, push_n, push_s, pop_0, pop_i, pop_r, Int.reduceToNat, List.length_cons, List.length_nil, Nat.reduceAdd, Nat.reduceLeDiff, Nat.zero_add, true_and, nI_n0, nat_le, Nat.add_zero, i_1, rt_co_fewestTowns, x_al0, x_al1, x_call, x_getf, x_goto, x_iadd, x_iaload, x_iastore, x_iceq, x_icge, x_icgt, x_icle, x_il2, x_il3, x_il4, x_il5, x_il6, x_il7, x_imul, x_inc5, x_inc6, x_iret, x_is4, x_is5, x_is6, x_is7, x_ldc, x_m1, nI_add]
      exact hi
    · rw [if_neg e] at er
      rw [er] at hi
      rw [if_neg e]
      try simp -implicitDefEqProofs (disch := first | assumption | omega) only [szS_0, szS_i, szS_r, szS_l, x_cons, x_goto, ob_some, kl_i, kl_r, kl_l, kl_n, push_n, push_s, pop_0, pop_i, pop_r, Int.reduceToNat, List.length_cons, List.length_nil, Nat.reduceAdd, Nat.reduceLeDiff, Nat.zero_add, true_and, nI_n0, nat_le, Nat.add_zero, i_1, rt_co_fewestTowns, x_al0, x_al1, x_call, x_getf, x_goto, x_iadd, x_iaload, x_iastore, x_iceq, x_icge, x_icgt, x_icle, x_il2, x_il3, x_il4, x_il5, x_il6, x_il7, x_imul, x_inc5, x_inc6, x_iret, x_is4, x_is5, x_is6, x_is7, x_ldc, x_m1, fd_184_0, fd_184_1, fd_184_2, fd_184_3, fd_184_4, fd_184_5, fd_184_6, fd_184_7, sf_184_7, fd_184_8, sf_184_8, fd_184_9, fd_184_10, fd_184_11, fd_174_0, fd_174_1, fd_174_2, fd_174_3, ld_179, sd_179, ln_179, eb, s_jmax, nI_ltE, nI_ite, b_co_fewestTowns_52, nI_add]
      exact hi
theorem vo_lp {f a : Nat} (ha : a < 3) {U : Nat → Nat} (hC : ∀ m, m < 16 → g 180 (m * 3 + a) = nI (U m)) {v4 : Int32} (H : ∀ r, (∀ m, m < 16 → r m = nI (U m)) → wp (ev d) P co_fewestTowns 95 [some (.ref 184), some (.ref 1), some (.int (nI f)), some (.int (nI a)), some (.int v4), some (.int (nI 16)), none, none] [] (E (upw g 192 r) q)) : ∀ (j n : Nat) (r : Nat → Int32), n + j = 16 → (∀ m, m < n → r m = nI (U m)) →
    wp (ev d) P co_fewestTowns 61 [some (.ref 184), some (.ref 1), some (.int (nI f)), some (.int (nI a)), some (.int v4), some (.int (nI n)), none, none] [] (E (upw g 192 r) q) := by
  intro j
  induction j with
  | zero =>
    intro n r hn hr
    have hn : n = 16 := hn
    subst hn
    rw [b_co_fewestTowns_61]
    simp -implicitDefEqProofs (disch := first | assumption | omega) only [szS_0, szS_i, szS_r, szS_l, x_cons, x_goto, ob_some, kl_i, kl_r, kl_l, kl_n, push_n, push_s, pop_0, pop_i, pop_r, Int.reduceToNat, List.length_cons, List.length_nil, Nat.reduceAdd, Nat.reduceLeDiff, Nat.zero_add, true_and, nI_n0, nat_le, Nat.add_zero, i_1, rt_co_fewestTowns, x_al0, x_al1, x_call, x_getf, x_goto, x_iadd, x_iaload, x_iastore, x_iceq, x_icge, x_icgt, x_icle, x_il2, x_il3, x_il4, x_il5, x_il6, x_il7, x_imul, x_inc5, x_inc6, x_iret, x_is4, x_is5, x_is6, x_is7, x_ldc, x_m1, nI_ltE, Nat.lt_irrefl, ↓reduceIte]
    exact H r hr
  | succ j ih =>
    intro n r hn hr
    have hn' : n < 16 := by omega
    have e1 := hC n hn'
    rw [b_co_fewestTowns_61]
    simp -implicitDefEqProofs (disch := first | assumption | omega) only [szS_0, szS_i, szS_r, szS_l, x_cons, x_goto, ob_some, kl_i, kl_r, kl_l, kl_n, push_n, push_s, pop_0, pop_i, pop_r, Int.reduceToNat, List.length_cons, List.length_nil, Nat.reduceAdd, Nat.reduceLeDiff, Nat.zero_add, true_and, nI_n0, nat_le, Nat.add_zero, i_1, rt_co_fewestTowns, x_al0, x_al1, x_call, x_getf, x_goto, x_iadd, x_iaload, x_iastore, x_iceq, x_icge, x_icgt, x_icle, x_il2, x_il3, x_il4, x_il5, x_il6, x_il7, x_imul, x_inc5, x_inc6, x_iret, x_is4, x_is5, x_is6, x_is7, x_ldc, x_m1, fd_184_0, fd_184_1, fd_184_2, fd_184_3, fd_184_4, fd_184_5, fd_184_6, fd_184_7, sf_184_7, fd_184_8, sf_184_8, fd_184_9, fd_184_10, fd_184_11, fd_174_0, fd_174_1, fd_174_2, fd_174_3, ld_180, sd_180, ln_180, ld_192, sd_192, ln_192, nI_ltE, hn', ↓reduceIte, nI_mul, nI_add, upw_o, e1, pu_w]
    refine ih (n + 1) _ (by omega) fun m hm => ?_
    by_cases e : m = n
    · rw [e, pu_s]
    · rw [pu_n e]
      exact hr m (by omega)
/-- a greatest one taken away -/
theorem CTh_s {U : Nat → Nat} {t k : Nat} (ht : t < 16) (hk : 1 ≤ k) : CTh (fun m => if m = t then 0 else U m) k + (if k ≤ U t then 1 else 0) = CTh U k := by
  have h := cnt_upd (p := fun m => decide (k ≤ U m)) (p' := fun m => decide (k ≤ if m = t then 0 else U m)) 16 ht fun m hm => by
    show decide (k ≤ if m = t then 0 else U m) = decide (k ≤ U m)
    rw [if_neg hm]
  have e1 : decide (k ≤ if t = t then 0 else U t) = false := decide_eq_false (by rw [if_pos rfl]; omega)
  rw [e1, if_neg Bool.false_ne_true] at h
  unfold CTh
  by_cases h2 : k ≤ U t
  · rw [decide_eq_true h2, if_pos rfl] at h
    rw [if_pos h2]
    exact h
  · rw [decide_eq_false h2, if_neg Bool.false_ne_true] at h
    rw [if_neg h2]
    exact h
theorem CTh_m {U : Nat → Nat} {t k : Nat} (ht : t < 16) (hm : ∀ m, m < 16 → U m ≤ U t) : k ≤ U t ↔ 1 ≤ CTh U k := by
  constructor
  · intro h
    have := cnt_pos (p := fun m => decide (k ≤ U m)) ht (decide_eq_true h)
    unfold CTh
    omega
  · intro h
    obtain ⟨m, h1, h2⟩ := cnt_1 16 h
    have h2 := of_decide_eq_true h2
    have := hm m h1
    omega
theorem fc_lp {f a : Nat} {C : Nat → Nat} {r : Nat} (hr : r ≤ 6000000) {g0 : Nat → Nat → Int32} (H : ∀ g', (∀ b, b ≠ 192 → g' b = g0 b) → P (some (.int (pfx (sS C) r 16 0 0))) (E g' q)) : ∀ (j n s : Nat) (g : Nat → Nat → Int32) (U : Nat → Nat) (o7 : Option Value), n + j = 16 → s ≤ r → pfx (sS C) r j n s = pfx (sS C) r 16 0 0 → (∀ b, b ≠ 192 → g b = g0 b) → (∀ m, m < 16 → g 192 m = nI (U m) ∧ U m ≤ 6000000) → (∀ k, 1 ≤ k → CTh U k = C k - n) →
    wp (ev (d + 1)) P co_fewestTowns 101 [some (.ref 184), some (.ref 1), some (.int (nI f)), some (.int (nI a)), some (.int (nI r)), some (.int (nI s)), some (.int (nI (n + 1))), o7] [] (E g q) := by
  intro j
  induction j with
  | zero =>
    intro n s g U o7 hn hs hp hg hU hC
    have hn : n = 16 := hn
    subst hn
    have hp : -1 = pfx (sS C) r 16 0 0 := hp
    have hl : (nI 16 < nI (16 + 1)) = True := eq_true (by decide)
    rw [b_co_fewestTowns_101]
    simp -implicitDefEqProofs (disch := first | assumption | omega) only [szS_0, szS_i, szS_r, szS_l, x_cons, x_goto, ob_some, kl_i, kl_r, kl_l, kl_n, push_n, push_s, pop_0, pop_i, pop_r, Int.reduceToNat, List.length_cons, List.length_nil, Nat.reduceAdd, Nat.reduceLeDiff, Nat.zero_add, true_and, nI_n0, nat_le, Nat.add_zero, i_1, rt_co_fewestTowns, x_al0, x_al1, x_call, x_getf, x_goto, x_iadd, x_iaload, x_iastore, x_iceq, x_icge, x_icgt, x_icle, x_il2, x_il3, x_il4, x_il5, x_il6, x_il7, x_imul, x_inc5, x_inc6, x_iret, x_is4, x_is5, x_is6, x_is7, x_ldc, x_m1, hl, ↓reduceIte, b_co_fewestTowns_150]
    rw [hp]
    exact H g hg
  | succ j ih =>
    intro n s g U o7 hn hs hp hg hU hC
    have hl : ¬ 16 < n + 1 := by omega
    rw [b_co_fewestTowns_101]
    simp -implicitDefEqProofs (disch := first | assumption | omega) only [szS_0, szS_i, szS_r, szS_l, x_cons, x_goto, ob_some, kl_i, kl_r, kl_l, kl_n, push_n, push_s, pop_0, pop_i, pop_r, Int.reduceToNat, List.length_cons, List.length_nil, Nat.reduceAdd, Nat.reduceLeDiff, Nat.zero_add, true_and, nI_n0, nat_le, Nat.add_zero, i_1, rt_co_fewestTowns, x_al0, x_al1, x_call, x_getf, x_goto, x_iadd, x_iaload, x_iastore, x_iceq, x_icge, x_icgt, x_icle, x_il2, x_il3, x_il4, x_il5, x_il6, x_il7, x_imul, x_inc5, x_inc6, x_iret, x_is4, x_is5, x_is6, x_is7, x_ldc, x_m1, nI_ltE, hl, ↓reduceIte]
    refine s_loudest hU fun t ht hm => ?_
    have eS : sS C n = U t := sS_e (hU t ht).2 fun k hk => by
      rw [CTh_m ht hm, hC k hk]
      omega
    have hp : (if r < s + sS C n then nI (n + 1) else pfx (sS C) r j (n + 1) (s + sS C n)) = pfx (sS C) r 16 0 0 := hp
    rw [eS] at hp
    have hu := (hU t ht).2
    simp -implicitDefEqProofs (disch := first | assumption | omega) only [szS_0, szS_i, szS_r, szS_l, x_cons, x_goto, ob_some, kl_i, kl_r, kl_l, kl_n, push_n, push_s, pop_0, pop_i, pop_r, Int.reduceToNat, List.length_cons, List.length_nil, Nat.reduceAdd, Nat.reduceLeDiff, Nat.zero_add, true_and, nI_n0, nat_le, Nat.add_zero, i_1, rt_co_fewestTowns, x_al0, x_al1, x_call, x_getf, x_goto, x_iadd, x_iaload, x_iastore, x_iceq, x_icge, x_icgt, x_icle, x_il2, x_il3, x_il4, x_il5, x_il6, x_il7, x_imul, x_inc5, x_inc6, x_iret, x_is4, x_is5, x_is6, x_is7, x_ldc, x_m1, fd_184_0, fd_184_1, fd_184_2, fd_184_3, fd_184_4, fd_184_5, fd_184_6, fd_184_7, sf_184_7, fd_184_8, sf_184_8, fd_184_9, fd_184_10, fd_184_11, ld_192, sd_192, ln_192, (hU t ht).1, nI_add, nI_ltE, pu_g, pu_w, upw_s, upw_w, pu_s]
    by_cases hlt : r < s + U t
    · rw [if_pos hlt] at hp
      rw [if_pos hlt]
      try simp -implicitDefEqProofs (disch := first | assumption | omega) only [szS_0, szS_i, szS_r, szS_l, x_cons, x_goto, ob_some, kl_i, kl_r, kl_l, kl_n, push_n, push_s, pop_0, pop_i, pop_r, Int.reduceToNat, List.length_cons, List.length_nil, Nat.reduceAdd, Nat.reduceLeDiff, Nat.zero_add, true_and, nI_n0, nat_le, Nat.add_zero, i_1, rt_co_fewestTowns, x_al0, x_al1, x_call, x_getf, x_goto, x_iadd, x_iaload, x_iastore, x_iceq, x_icge, x_icgt, x_icle, x_il2, x_il3, x_il4, x_il5, x_il6, x_il7, x_imul, x_inc5, x_inc6, x_iret, x_is4, x_is5, x_is6, x_is7, x_ldc, x_m1]
      rw [hp]
      exact H _ fun b hb => by rw [upw_o hb]; exact hg b hb
    · rw [if_neg hlt] at hp
      rw [if_neg hlt]
      try simp -implicitDefEqProofs (disch := first | assumption | omega) only [b_co_fewestTowns_144, szS_0, szS_i, szS_r, szS_l, x_cons, x_goto, ob_some, kl_i, kl_r, kl_l, kl_n, push_n, push_s, pop_0, pop_i, pop_r, Int.reduceToNat, List.length_cons, List.length_nil, Nat.reduceAdd, Nat.reduceLeDiff, Nat.zero_add, true_and, nI_n0, nat_le, Nat.add_zero, i_1, rt_co_fewestTowns, x_al0, x_al1, x_call, x_getf, x_goto, x_iadd, x_iaload, x_iastore, x_iceq, x_icge, x_icgt, x_icle, x_il2, x_il3, x_il4, x_il5, x_il6, x_il7, x_imul, x_inc5, x_inc6, x_iret, x_is4, x_is5, x_is6, x_is7, x_ldc, x_m1, nI_add]
      refine ih (n + 1) (s + U t) _ (fun m => if m = t then 0 else U m) _ (by omega) (by omega) hp (fun b hb => by rw [upw_o hb]; exact hg b hb) (fun m hm2 => ?_) fun k hk => ?_
      · rw [upw_s]
        show pu (g 192) t (nI 0) m = nI (if m = t then 0 else U m) ∧ (if m = t then 0 else U m) ≤ 6000000
        by_cases e : m = t
        · rw [if_pos e, e, pu_s]
          exact ⟨rfl, Nat.zero_le _⟩
        · rw [if_neg e, pu_n e]
          exact hU m hm2
      · have h1 := CTh_s (U := U) (t := t) (k := k) ht hk
        have h2 := CTh_m (U := U) (t := t) (k := k) ht hm
        have h3 := hC k hk
        by_cases h4 : k ≤ U t
        · rw [if_pos h4] at h1
          omega
        · rw [if_neg h4] at h1
          have : ¬ 1 ≤ CTh U k := fun h => h4 (h2.mpr h)
          omega
theorem s_vfewest (hw : WI w) (hc : Tc 1 w g) (hL : CL 1 g V M) {f a : Int32} (H : ∀ g', fQ g g' → P (some (.int (fwA V w f a))) (E g' q)) : callC (ev (d + 6)) vr_fewest [.ref 0, .int f, .int a] (E g q) P := by
  refine in_vr_fewest rfl ?_
  rw [b_vr_fewest_0]
  simp -implicitDefEqProofs (disch := first | assumption | omega) only [szS_0, szS_i, szS_r, szS_l, x_cons, x_goto, ob_some, kl_i, kl_r, kl_l, kl_n, push_n, push_s, pop_0, pop_i, pop_r, Int.reduceToNat, List.length_cons, List.length_nil, Nat.reduceAdd, Nat.reduceLeDiff, Nat.zero_add, true_and, nI_n0, nat_le, Nat.add_zero, rt_vr_fewest, x_al0, x_call, x_getf, x_goto, x_ifeq, x_il1, x_il2, x_iret, x_m1, fd_0_0, fd_0_1, fd_0_2, fd_0_3, fd_0_4, fd_0_5, fd_0_6, fd_0_7, fd_0_8, fd_0_9, sf_0_9, fd_1_0, fd_1_1, fd_1_2, fd_1_3, fd_1_4]
  rw [s_cArm (t := 1) (by decide) hw hc]
  simp -implicitDefEqProofs (disch := first | assumption | omega) only [szS_0, szS_i, szS_r, szS_l, x_cons, x_goto, ob_some, kl_i, kl_r, kl_l, kl_n, push_n, push_s, pop_0, pop_i, pop_r, Int.reduceToNat, List.length_cons, List.length_nil, Nat.reduceAdd, Nat.reduceLeDiff, Nat.zero_add, true_and, nI_n0, nat_le, Nat.add_zero, rt_vr_fewest, x_al0, x_call, x_getf, x_goto, x_ifeq, x_il1, x_il2, x_iret, x_m1, bI_0]
  unfold fwA at H
  cases h1 : armB w f a
  · rw [h1, if_neg Bool.false_ne_true] at H
    simp -implicitDefEqProofs (disch := first | assumption | omega) only [↓reduceIte, b_vr_fewest_31, b_vr_fewest_32, szS_0, szS_i, szS_r, szS_l, x_cons, x_goto, ob_some, kl_i, kl_r, kl_l, kl_n, push_n, push_s, pop_0, pop_i, pop_r, Int.reduceToNat, List.length_cons, List.length_nil, Nat.reduceAdd, Nat.reduceLeDiff, Nat.zero_add, true_and, nI_n0, nat_le, Nat.add_zero, rt_vr_fewest, x_al0, x_call, x_getf, x_goto, x_ifeq, x_il1, x_il2, x_iret, x_m1]
    exact H g fQ_r
  · obtain ⟨f', a', hf, rfl, hs, ha, rfl⟩ := armB_ex hw h1
    have h0 := wi_n hw
    have ha3 := am_le hw (n := f') (by omega)
    have ham := wi_1 hw (n := f') (by omega)
    rw [h1, if_pos rfl, ix_nI (by omega), ix_nI (by omega)] at H
    simp -implicitDefEqProofs (disch := first | assumption | omega) only [Bool.true_eq_false, ↓reduceIte, szS_0, szS_i, szS_r, szS_l, x_cons, x_goto, ob_some, kl_i, kl_r, kl_l, kl_n, push_n, push_s, pop_0, pop_i, pop_r, Int.reduceToNat, List.length_cons, List.length_nil, Nat.reduceAdd, Nat.reduceLeDiff, Nat.zero_add, true_and, nI_n0, nat_le, Nat.add_zero, rt_vr_fewest, x_al0, x_call, x_getf, x_goto, x_ifeq, x_il1, x_il2, x_iret, x_m1, fd_0_0, fd_0_1, fd_0_2, fd_0_3, fd_0_4, fd_0_5, fd_0_6, fd_0_7, fd_0_8, fd_0_9, sf_0_9]
    refine in_co_fewestTowns rfl ?_
    rw [b_co_fewestTowns_0]
    simp -implicitDefEqProofs (disch := first | assumption | omega) only [szS_0, szS_i, szS_r, szS_l, x_cons, x_goto, ob_some, kl_i, kl_r, kl_l, kl_n, push_n, push_s, pop_0, pop_i, pop_r, Int.reduceToNat, List.length_cons, List.length_nil, Nat.reduceAdd, Nat.reduceLeDiff, Nat.zero_add, true_and, nI_n0, nat_le, Nat.add_zero, i_1, rt_co_fewestTowns, x_al0, x_al1, x_call, x_getf, x_goto, x_iadd, x_iaload, x_iastore, x_iceq, x_icge, x_icgt, x_icle, x_il2, x_il3, x_il4, x_il5, x_il6, x_il7, x_imul, x_inc5, x_inc6, x_iret, x_is4, x_is5, x_is6, x_is7, x_ldc, x_m1, fd_184_0, fd_184_1, fd_184_2, fd_184_3, fd_184_4, fd_184_5, fd_184_6, fd_184_7, sf_184_7, fd_184_8, sf_184_8, fd_184_9, fd_184_10, fd_184_11]
    refine s_countVotes (t := 1) (by decide) hw hc hL hf hs fun g1 f1 c1 => ?_
    simp -implicitDefEqProofs (disch := first | assumption | omega) only [szS_0, szS_i, szS_r, szS_l, x_cons, x_goto, ob_some, kl_i, kl_r, kl_l, kl_n, push_n, push_s, pop_0, pop_i, pop_r, Int.reduceToNat, List.length_cons, List.length_nil, Nat.reduceAdd, Nat.reduceLeDiff, Nat.zero_add, true_and, nI_n0, nat_le, Nat.add_zero, i_1, rt_co_fewestTowns, x_al0, x_al1, x_call, x_getf, x_goto, x_iadd, x_iaload, x_iastore, x_iceq, x_icge, x_icgt, x_icle, x_il2, x_il3, x_il4, x_il5, x_il6, x_il7, x_imul, x_inc5, x_inc6, x_iret, x_is4, x_is5, x_is6, x_is7, x_ldc, x_m1]
    have e4 : g1 4 f' = nI (am w f') := by rw [f1 4 (by decide) (by decide) (by decide) (by decide)]; exact (tc_am hc (by omega)).trans ham.1
    refine fr_lp (V := V) hw hf (a := a') (by omega) e4 (fun b hb => by rw [c1.1 b (by omega), if_pos hb]) ?_ (am w f') 0 (Nat.zero_add _)
    rw [b_co_fewestTowns_58]
    simp -implicitDefEqProofs (disch := first | assumption | omega) only [szS_0, szS_i, szS_r, szS_l, x_cons, x_goto, ob_some, kl_i, kl_r, kl_l, kl_n, push_n, push_s, pop_0, pop_i, pop_r, Int.reduceToNat, List.length_cons, List.length_nil, Nat.reduceAdd, Nat.reduceLeDiff, Nat.zero_add, true_and, nI_n0, nat_le, Nat.add_zero, i_1, rt_co_fewestTowns, x_al0, x_al1, x_call, x_getf, x_goto, x_iadd, x_iaload, x_iastore, x_iceq, x_icge, x_icgt, x_icle, x_il2, x_il3, x_il4, x_il5, x_il6, x_il7, x_imul, x_inc5, x_inc6, x_iret, x_is4, x_is5, x_is6, x_is7, x_ldc, x_m1]
    rw [show E g1 q = E (upw g1 192 (g1 192)) q by rw [upw_g]]
    refine vo_lp (f := f') (a := a') (by omega) (U := fun m => cst V w f' m a') (fun m hm => c1.2 m a' hm (by omega)) (fun r hr => ?_) 16 0 _ rfl fun m hm => absurd hm (Nat.not_lt_zero m)
    rw [b_co_fewestTowns_95]
    simp -implicitDefEqProofs (disch := first | assumption | omega) only [szS_0, szS_i, szS_r, szS_l, x_cons, x_goto, ob_some, kl_i, kl_r, kl_l, kl_n, push_n, push_s, pop_0, pop_i, pop_r, Int.reduceToNat, List.length_cons, List.length_nil, Nat.reduceAdd, Nat.reduceLeDiff, Nat.zero_add, true_and, nI_n0, nat_le, Nat.add_zero, i_1, rt_co_fewestTowns, x_al0, x_al1, x_call, x_getf, x_goto, x_iadd, x_iaload, x_iastore, x_iceq, x_icge, x_icgt, x_icle, x_il2, x_il3, x_il4, x_il5, x_il6, x_il7, x_imul, x_inc5, x_inc6, x_iret, x_is4, x_is5, x_is6, x_is7, x_ldc, x_m1]
    refine fc_lp (C := fwC V w f' a') (rvl_l hw _) (g0 := upw g1 192 r) (fun g2 f2 => ?_) 16 0 0 _ (fun m => cst V w f' m a') none rfl (Nat.zero_le _) rfl (fun _ _ => rfl) (fun m hm => ⟨by rw [upw_s]; exact hr m hm, cst_l hw hm⟩) fun k _ => rfl
    simp -implicitDefEqProofs (disch := first | assumption | omega) only [szS_0, szS_i, szS_r, szS_l, x_cons, x_goto, ob_some, kl_i, kl_r, kl_l, kl_n, push_n, push_s, pop_0, pop_i, pop_r, Int.reduceToNat, List.length_cons, List.length_nil, Nat.reduceAdd, Nat.reduceLeDiff, Nat.zero_add, true_and, nI_n0, nat_le, Nat.add_zero, rt_vr_fewest, x_al0, x_call, x_getf, x_goto, x_ifeq, x_il1, x_il2, x_iret, x_m1, b_vr_fewest_32]
    exact H g2 <| fQ_mk fun b b1 b2 b4 => by rw [f2 b (by omega), upw_o (by omega), f1 b (by omega) (by omega) (by omega) (by omega)]
/-! the reference's -/
theorem mr_lp {g0 : Nat → Nat → Int32} {w : Nat → Int32} (hw : WI w) (hL : LK w 0 okV V) {f a : Nat} (hf : f < nn w) (ha : a < 3) (H : ∀ g', fr [205, 206, 207] g0 g' → wp (ev (d + 7)) P mo_fewest 51 [some (.ref 196), some (.int (nI f)), some (.int (nI a)), some (.int (nI (rvl V w f a (am w f)))), some (.int (nI (am w f))), none, none, none] [] (E g' q)) : ∀ (j b : Nat) (g : Nat → Nat → Int32), b + j = am w f → g 197 = w → fr [205, 206, 207] g0 g →
    wp (ev (d + 7)) P mo_fewest 16 [some (.ref 196), some (.int (nI f)), some (.int (nI a)), some (.int (nI (rvl V w f a b))), some (.int (nI b)), none, none, none] [] (E g q) := by
  have hN := wi_n hw
  have hf16 : f < 16 := by omega
  have ha3 := am_le hw hf16
  have ham := wi_1 hw hf16
  have e7 : ham = ham := rfl
  intro j
  induction j with
  | zero =>
    intro b g hb hg hr
    have hb : b = am w f := hb
    have e1 : g 197 (10 + 20 * f + 1) = nI (am w f) := by rw [hg]; exact ham.1
    rw [hb, b_mo_fewest_16]
    simp -implicitDefEqProofs (disch := first | assumption | omega) only [szS_0, szS_i, szS_r, szS_l, x_cons, x_goto, ob_some, kl_i, kl_r, kl_l, kl_n, push_n, push_s, pop_0, pop_i, pop_r, Int.reduceToNat, List.length_cons, List.length_nil, Nat.reduceAdd, Nat.reduceLeDiff, Nat.zero_add, true_and, nI_n0, nat_le, Nat.add_zero, i_1, i_m1, rt_mo_fewest, x_al0, x_call, x_getf, x_goto, x_iadd, x_iaload, x_iastore, x_iceq, x_icge, x_icle, x_ifle, x_ifne, x_il1, x_il2, x_il3, x_il4, x_il5, x_il6, x_il7, x_inc4, x_inc5, x_inc6, x_inc7, x_iret, x_is3, x_is4, x_is5, x_is6, x_is7, x_isub, x_ldc, x_m1, s_own, e1, nI_ltE, Nat.lt_irrefl, ↓reduceIte]
    exact H g hr
  | succ j ih =>
    intro b g hb hg hr
    have hb' : b < am w f := by omega
    have e1 : g 197 (10 + 20 * f + 1) = nI (am w f) := by rw [hg]; exact ham.1
    have l1 := rvl_l hw (V := V) (f := f) (a := a) b
    have l2 : vfor V w f b ≤ 6000000 := vsum_b hw (V := V) (f := f) (a := b) (n := nn w) (by omega)
    have er : rvl V w f a (b + 1) = if b = a then rvl V w f a b else if rvl V w f a b < vfor V w f b then vfor V w f b else rvl V w f a b := rfl
    rw [b_mo_fewest_16]
    simp -implicitDefEqProofs (disch := first | assumption | omega) only [szS_0, szS_i, szS_r, szS_l, x_cons, x_goto, ob_some, kl_i, kl_r, kl_l, kl_n, push_n, push_s, pop_0, pop_i, pop_r, Int.reduceToNat, List.length_cons, List.length_nil, Nat.reduceAdd, Nat.reduceLeDiff, Nat.zero_add, true_and, nI_n0, nat_le, Nat.add_zero, i_1, i_m1, rt_mo_fewest, x_al0, x_call, x_getf, x_goto, x_iadd, x_iaload, x_iastore, x_iceq, x_icge, x_icle, x_ifle, x_ifne, x_il1, x_il2, x_il3, x_il4, x_il5, x_il6, x_il7, x_inc4, x_inc5, x_inc6, x_inc7, x_iret, x_is3, x_is4, x_is5, x_is6, x_is7, x_isub, x_ldc, x_m1, s_own, e1, nI_ltE, hb', ↓reduceIte, nI_eqE]
    by_cases e : b = a
    · have hi := ih (b + 1) g (by omega) hg hr
      rw [if_pos e] at er
      rw [er] at hi
      rw [if_pos e]
      try simp -implicitDefEqProofs (disch := first | assumption | omega) only [b_mo_fewest_45, szS_0, szS_i, szS_r, szS_l, x_cons, x_goto, ob_some, kl_i, kl_r, kl_l, kl_n, push_n, push_s, pop_0, pop_i, pop_r, Int.reduceToNat, List.length_cons, List.length_nil, Nat.reduceAdd, Nat.reduceLeDiff, Nat.zero_add, true_and, nI_n0, nat_le, Nat.add_zero, i_1, i_m1, rt_mo_fewest, x_al0, x_call, x_getf, x_goto, x_iadd, x_iaload, x_iastore, x_iceq, x_icge, x_icle, x_ifle, x_ifne, x_il1, x_il2, x_il3, x_il4, x_il5, x_il6, x_il7, x_inc4, x_inc5, x_inc6, x_inc7, x_iret, x_is3, x_is4, x_is5, x_is6, x_is7, x_isub, x_ldc, x_m1, nI_add]
      exact hi
    · rw [if_neg e] at er
      rw [if_neg e]
      try simp -implicitDefEqProofs (disch := first | assumption | omega) only [szS_0, szS_i, szS_r, szS_l, x_cons, x_goto, ob_some, kl_i, kl_r, kl_l, kl_n, push_n, push_s, pop_0, pop_i, pop_r, Int.reduceToNat, List.length_cons, List.length_nil, Nat.reduceAdd, Nat.reduceLeDiff, Nat.zero_add, true_and, nI_n0, nat_le, Nat.add_zero, i_1, i_m1, rt_mo_fewest, x_al0, x_call, x_getf, x_goto, x_iadd, x_iaload, x_iastore, x_iceq, x_icge, x_icle, x_ifle, x_ifne, x_il1, x_il2, x_il3, x_il4, x_il5, x_il6, x_il7, x_inc4, x_inc5, x_inc6, x_inc7, x_iret, x_is3, x_is4, x_is5, x_is6, x_is7, x_isub, x_ldc, x_m1]
      refine s_votesFor (by rw [hg]; exact hw) (by rw [hg]; exact hL) (by rw [hg]; exact hf) (by rw [hg]; exact hb') fun g1 f1 => ?_
      have hg1 : g1 197 = w := by rw [fr_a f1 rfl]; exact hg
      have hi := ih (b + 1) g1 (by omega) hg1 (fr_t hr f1)
      rw [er, mx_s] at hi
      rw [hg]
      simp -implicitDefEqProofs (disch := first | assumption | omega) only [szS_0, szS_i, szS_r, szS_l, x_cons, x_goto, ob_some, kl_i, kl_r, kl_l, kl_n, push_n, push_s, pop_0, pop_i, pop_r, Int.reduceToNat, List.length_cons, List.length_nil, Nat.reduceAdd, Nat.reduceLeDiff, Nat.zero_add, true_and, nI_n0, nat_le, Nat.add_zero, i_1, i_m1, rt_mo_fewest, x_al0, x_call, x_getf, x_goto, x_iadd, x_iaload, x_iastore, x_iceq, x_icge, x_icle, x_ifle, x_ifne, x_il1, x_il2, x_il3, x_il4, x_il5, x_il6, x_il7, x_inc4, x_inc5, x_inc6, x_inc7, x_iret, x_is3, x_is4, x_is5, x_is6, x_is7, x_isub, x_ldc, x_m1, s_greater, nI_ltE, nI_ite, b_mo_fewest_45, nI_add]
      exact hi
/-- the sorted row: how many have so much of the towns below n -/
def soI (V : LW) (w : Nat → Int32) (f a n k : Nat) (l : Nat → Nat) : Prop :=
  (∀ p, p < k → l p ≤ 6000000 ∧ ∀ h, 1 ≤ h → (h ≤ l p ↔ p < cnt (fun m => decide (h ≤ cst V w f m a)) n)) ∧ ∀ h, 1 ≤ h → cnt (fun m => decide (h ≤ cst V w f m a)) n ≤ k
theorem soI_s {n k i v f a : Nat} {l : Nat → Nat} (hv : v = cst V w f n a) (hvl : v ≤ 6000000) (h : soI V w f a n k l) (hi : i ≤ k) (h1 : i = 0 ∨ v ≤ l (i - 1)) (h2 : ∀ p, i ≤ p → p < k → l p < v) : soI V w f a (n + 1) (k + 1) (fun p => if p < i then l p else if p = i then v else l (p - 1)) := by
  refine ⟨fun p hp => ?_, fun b hb => ?_⟩
  · refine ⟨?_, fun b hb => ?_⟩
    · show (if p < i then l p else if p = i then v else l (p - 1)) ≤ 6000000
      split
      · exact (h.1 p (by omega)).1
      · split
        · exact hvl
        · exact (h.1 (p - 1) (by omega)).1
    · show b ≤ (if p < i then l p else if p = i then v else l (p - 1)) ↔ _
      rw [cnt_s, ← hv]
      have hk := h.2 b hb
      have hpre : b ≤ v → i ≤ cnt (fun m => decide (b ≤ cst V w f m a)) n := fun hbv => by
        rcases h1 with h1 | h1
        · omega
        · by_cases i0 : i = 0
          · omega
          · have := ((h.1 (i - 1) (by omega)).2 b hb).mp (by omega)
            omega
      have hpost : ¬ b ≤ v → cnt (fun m => decide (b ≤ cst V w f m a)) n ≤ i := fun hbv => by
        refine Classical.byContradiction fun hc => ?_
        have h3 := ((h.1 i (by omega)).2 b hb).mpr (by omega)
        have h4 := h2 i (Nat.le_refl _) (by omega)
        omega
      by_cases hbv : b ≤ v
      · rw [decide_eq_true hbv, if_pos rfl]
        have := hpre hbv
        by_cases p1 : p < i
        · rw [if_pos p1]
          have := (h.1 p (by omega)).2 b hb
          omega
        · rw [if_neg p1]
          by_cases p2 : p = i
          · rw [if_pos p2]
            omega
          · rw [if_neg p2]
            have := (h.1 (p - 1) (by omega)).2 b hb
            omega
      · rw [decide_eq_false hbv, if_neg Bool.false_ne_true]
        have := hpost hbv
        by_cases p1 : p < i
        · rw [if_pos p1]
          have := (h.1 p (by omega)).2 b hb
          omega
        · rw [if_neg p1]
          by_cases p2 : p = i
          · rw [if_pos p2]
            omega
          · rw [if_neg p2]
            have := h2 (p - 1) (by omega) (by omega)
            omega
  · rw [cnt_s]
    have := h.2 b hb
    split <;> omega
theorem so_in {f a n k v : Nat} {l : Nat → Nat} (hk : k < 16) (hvl : v ≤ 6000000) (hl : ∀ p, p < k → l p ≤ 6000000) {v3 : Int32} (H : ∀ i r, i ≤ k → (i = 0 ∨ v ≤ l (i - 1)) → (∀ p, i ≤ p → p < k → l p < v) → (∀ p, p < k + 1 → r p = nI (if p < i then l p else if p = i then v else l (p - 1))) → wp (ev d) P mo_fewest 149 [some (.ref 196), some (.int (nI f)), some (.int (nI a)), some (.int v3), some (.int (nI (k + 1))), some (.int (nI n)), some (.int (nI v)), some (.int (nI i))] [] (E (upw g 211 r) q)) :
    ∀ (i : Nat) (r : Nat → Int32), i ≤ k → (∀ p, i ≤ p → p < k → l p < v) → (∀ p, p < i → r p = nI (l p)) → (∀ p, i < p → p < k + 1 → r p = nI (l (p - 1))) →
    wp (ev d) P mo_fewest 96 [some (.ref 196), some (.int (nI f)), some (.int (nI a)), some (.int v3), some (.int (nI k)), some (.int (nI n)), some (.int (nI v)), some (.int (nI i))] [] (E (upw g 211 r) q) := by
  have fin : ∀ (i : Nat) (r : Nat → Int32), i ≤ k → (i = 0 ∨ v ≤ l (i - 1)) → (∀ p, i ≤ p → p < k → l p < v) → (∀ p, p < i → r p = nI (l p)) → (∀ p, i < p → p < k + 1 → r p = nI (l (p - 1))) → wp (ev d) P mo_fewest 137 [some (.ref 196), some (.int (nI f)), some (.int (nI a)), some (.int v3), some (.int (nI k)), some (.int (nI n)), some (.int (nI v)), some (.int (nI i))] [] (E (upw g 211 r) q) := by
    intro i r hi h1 h2 h3 h4
    rw [b_mo_fewest_137]
    simp -implicitDefEqProofs (disch := first | assumption | omega) only [szS_0, szS_i, szS_r, szS_l, x_cons, x_goto, ob_some, kl_i, kl_r, kl_l, kl_n, push_n, push_s, pop_0, pop_i, pop_r, Int.reduceToNat, List.length_cons, List.length_nil, Nat.reduceAdd, Nat.reduceLeDiff, Nat.zero_add, true_and, nI_n0, nat_le, Nat.add_zero, i_1, i_m1, rt_mo_fewest, x_al0, x_call, x_getf, x_goto, x_iadd, x_iaload, x_iastore, x_iceq, x_icge, x_icle, x_ifle, x_ifne, x_il1, x_il2, x_il3, x_il4, x_il5, x_il6, x_il7, x_inc4, x_inc5, x_inc6, x_inc7, x_iret, x_is3, x_is4, x_is5, x_is6, x_is7, x_isub, x_ldc, x_m1, fd_196_0, fd_196_1, fd_196_2, fd_196_3, fd_196_4, sf_196_4, fd_196_5, sf_196_5, fd_196_6, fd_196_7, fd_196_8, fd_196_9, fd_196_10, fd_196_11, fd_196_12, sf_196_12, fd_196_13, sf_196_13, fd_196_14, sf_196_14, fd_196_15, sf_196_15, fd_196_16, sf_196_16, fd_196_17, sf_196_17, fd_196_18, sf_196_18, fd_196_19, sf_196_19, fd_196_20, sf_196_20, fd_196_21, sf_196_21, fd_196_22, sf_196_22, fd_196_23, sf_196_23, fd_196_24, sf_196_24, fd_196_25, sf_196_25, fd_196_26, sf_196_26, fd_196_27, fd_196_28, fd_196_29, fd_196_30, sf_196_30, fd_196_31, fd_196_32, fd_196_33, fd_196_34, fd_196_35, fd_196_36, fd_196_37, sf_196_37, fd_196_38, fd_196_39, sf_196_39, fd_196_40, sf_196_40, fd_196_41, sf_196_41, fd_196_42, fd_196_43, fd_196_44, ld_211, sd_211, ln_211, pu_w, nI_add]
    refine H i _ hi h1 h2 fun p hp => ?_
    by_cases e1 : p < i
    · rw [if_pos e1, pu_n (by omega)]
      exact h3 p e1
    · rw [if_neg e1]
      by_cases e2 : p = i
      · rw [if_pos e2, e2, pu_s]
      · rw [if_neg e2, pu_n e2]
        exact h4 p (by omega) hp
  intro i
  induction i with
  | zero =>
    intro r hi h2 h3 h4
    rw [b_mo_fewest_96]
    simp -implicitDefEqProofs (disch := first | assumption | omega) only [szS_0, szS_i, szS_r, szS_l, x_cons, x_goto, ob_some, kl_i, kl_r, kl_l, kl_n, push_n, push_s, pop_0, pop_i, pop_r, Int.reduceToNat, List.length_cons, List.length_nil, Nat.reduceAdd, Nat.reduceLeDiff, Nat.zero_add, true_and, nI_n0, nat_le, Nat.add_zero, i_1, i_m1, rt_mo_fewest, x_al0, x_call, x_getf, x_goto, x_iadd, x_iaload, x_iastore, x_iceq, x_icge, x_icle, x_ifle, x_ifne, x_il1, x_il2, x_il3, x_il4, x_il5, x_il6, x_il7, x_inc4, x_inc5, x_inc6, x_inc7, x_iret, x_is3, x_is4, x_is5, x_is6, x_is7, x_isub, x_ldc, x_m1, nI_leE, Nat.le_refl, ↓reduceIte]
    exact fin 0 r hi (Or.inl rfl) h2 h3 h4
  | succ i ih =>
    intro r hi h2 h3 h4
    have l1 : ¬ i + 1 ≤ 0 := by omega
    have e1 := h3 i (by omega)
    have l2 := hl i (by omega)
    rw [b_mo_fewest_96]
    simp -implicitDefEqProofs (disch := first | assumption | omega) only [szS_0, szS_i, szS_r, szS_l, x_cons, x_goto, ob_some, kl_i, kl_r, kl_l, kl_n, push_n, push_s, pop_0, pop_i, pop_r, Int.reduceToNat, List.length_cons, List.length_nil, Nat.reduceAdd, Nat.reduceLeDiff, Nat.zero_add, true_and, nI_n0, nat_le, Nat.add_zero, i_1, i_m1, rt_mo_fewest, x_al0, x_call, x_getf, x_goto, x_iadd, x_iaload, x_iastore, x_iceq, x_icge, x_icle, x_ifle, x_ifne, x_il1, x_il2, x_il3, x_il4, x_il5, x_il6, x_il7, x_inc4, x_inc5, x_inc6, x_inc7, x_iret, x_is3, x_is4, x_is5, x_is6, x_is7, x_isub, x_ldc, x_m1, nI_leE, l1, ↓reduceIte, fd_196_0, fd_196_1, fd_196_2, fd_196_3, fd_196_4, sf_196_4, fd_196_5, sf_196_5, fd_196_6, fd_196_7, fd_196_8, fd_196_9, fd_196_10, fd_196_11, fd_196_12, sf_196_12, fd_196_13, sf_196_13, fd_196_14, sf_196_14, fd_196_15, sf_196_15, fd_196_16, sf_196_16, fd_196_17, sf_196_17, fd_196_18, sf_196_18, fd_196_19, sf_196_19, fd_196_20, sf_196_20, fd_196_21, sf_196_21, fd_196_22, sf_196_22, fd_196_23, sf_196_23, fd_196_24, sf_196_24, fd_196_25, sf_196_25, fd_196_26, sf_196_26, fd_196_27, fd_196_28, fd_196_29, fd_196_30, sf_196_30, fd_196_31, fd_196_32, fd_196_33, fd_196_34, fd_196_35, fd_196_36, fd_196_37, sf_196_37, fd_196_38, fd_196_39, sf_196_39, fd_196_40, sf_196_40, fd_196_41, sf_196_41, fd_196_42, fd_196_43, fd_196_44, ld_211, sd_211, ln_211, nI_sub, Nat.add_sub_cancel, upw_s, e1, nI_ltE]
    by_cases hlt : l i < v
    · rw [if_pos hlt]
      try simp -implicitDefEqProofs (disch := first | assumption | omega) only [szS_0, szS_i, szS_r, szS_l, x_cons, x_goto, ob_some, kl_i, kl_r, kl_l, kl_n, push_n, push_s, pop_0, pop_i, pop_r, Int.reduceToNat, List.length_cons, List.length_nil, Nat.reduceAdd, Nat.reduceLeDiff, Nat.zero_add, true_and, nI_n0, nat_le, Nat.add_zero, i_1, i_m1, rt_mo_fewest, x_al0, x_call, x_getf, x_goto, x_iadd, x_iaload, x_iastore, x_iceq, x_icge, x_icle, x_ifle, x_ifne, x_il1, x_il2, x_il3, x_il4, x_il5, x_il6, x_il7, x_inc4, x_inc5, x_inc6, x_inc7, x_iret, x_is3, x_is4, x_is5, x_is6, x_is7, x_isub, x_ldc, x_m1, fd_196_0, fd_196_1, fd_196_2, fd_196_3, fd_196_4, sf_196_4, fd_196_5, sf_196_5, fd_196_6, fd_196_7, fd_196_8, fd_196_9, fd_196_10, fd_196_11, fd_196_12, sf_196_12, fd_196_13, sf_196_13, fd_196_14, sf_196_14, fd_196_15, sf_196_15, fd_196_16, sf_196_16, fd_196_17, sf_196_17, fd_196_18, sf_196_18, fd_196_19, sf_196_19, fd_196_20, sf_196_20, fd_196_21, sf_196_21, fd_196_22, sf_196_22, fd_196_23, sf_196_23, fd_196_24, sf_196_24, fd_196_25, sf_196_25, fd_196_26, sf_196_26, fd_196_27, fd_196_28, fd_196_29, fd_196_30, sf_196_30, fd_196_31, fd_196_32, fd_196_33, fd_196_34, fd_196_35, fd_196_36, fd_196_37, sf_196_37, fd_196_38, fd_196_39, sf_196_39, fd_196_40, sf_196_40, fd_196_41, sf_196_41, fd_196_42, fd_196_43, fd_196_44, ld_211, sd_211, ln_211, nI_sub, Nat.add_sub_cancel, upw_s, e1, pu_w, addm1]
      refine ih _ (by omega) (fun p hp1 hp2 => ?_) (fun p hp => by rw [pu_n (by omega)]; exact h3 p (by omega)) fun p hp1 hp2 => ?_
      · by_cases e : p = i
        · rw [e]
          exact hlt
        · exact h2 p (by omega) hp2
      · by_cases e : p = i + 1
        · rw [e, pu_s, Nat.add_sub_cancel]
        · rw [pu_n e]
          exact h4 p (by omega) hp2
    · rw [if_neg hlt]
      exact fin (i + 1) r hi (Or.inr (by rw [Nat.add_sub_cancel]; omega)) h2 h3 h4
theorem so_out {g0 : Nat → Nat → Int32} {w : Nat → Int32} (hw : WI w) (hL : LK w 0 okV V) {f a : Nat} (hf : f < nn w) (ha : a < am w f) {v3 : Int32} (H : ∀ g' k l o6 o7, k ≤ 16 → fr [205, 206, 207, 211] g0 g' → (∀ p, p < k → g' 211 p = nI (l p)) → soI V w f a (nn w) k l → wp (ev (d + 7)) P mo_fewest 155 [some (.ref 196), some (.int (nI f)), some (.int (nI a)), some (.int v3), some (.int (nI k)), some (.int (nI (nn w))), o6, o7] [] (E g' q)) :
    ∀ (j n k : Nat) (l : Nat → Nat) (g : Nat → Nat → Int32) (o6 o7 : Option Value), n + j = nn w → f < n → k ≤ n → g 197 = w → fr [205, 206, 207, 211] g0 g → (∀ p, p < k → g 211 p = nI (l p)) → soI V w f a n k l →
    wp (ev (d + 7)) P mo_fewest 59 [some (.ref 196), some (.int (nI f)), some (.int (nI a)), some (.int v3), some (.int (nI k)), some (.int (nI n)), o6, o7] [] (E g q) := by
  have hN := wi_n hw
  intro j
  induction j with
  | zero =>
    intro n k l g o6 o7 hn hfn hk hg hr hl hS
    have hn : n = nn w := hn
    have e0 : g 197 0 = nI (nn w) := by rw [hg]; exact hN.1
    subst hn
    rw [b_mo_fewest_59]
    simp -implicitDefEqProofs (disch := first | assumption | omega) only [szS_0, szS_i, szS_r, szS_l, x_cons, x_goto, ob_some, kl_i, kl_r, kl_l, kl_n, push_n, push_s, pop_0, pop_i, pop_r, Int.reduceToNat, List.length_cons, List.length_nil, Nat.reduceAdd, Nat.reduceLeDiff, Nat.zero_add, true_and, nI_n0, nat_le, Nat.add_zero, i_1, i_m1, rt_mo_fewest, x_al0, x_call, x_getf, x_goto, x_iadd, x_iaload, x_iastore, x_iceq, x_icge, x_icle, x_ifle, x_ifne, x_il1, x_il2, x_il3, x_il4, x_il5, x_il6, x_il7, x_inc4, x_inc5, x_inc6, x_inc7, x_iret, x_is3, x_is4, x_is5, x_is6, x_is7, x_isub, x_ldc, x_m1, fd_196_0, fd_196_1, fd_196_2, fd_196_3, fd_196_4, sf_196_4, fd_196_5, sf_196_5, fd_196_6, fd_196_7, fd_196_8, fd_196_9, fd_196_10, fd_196_11, fd_196_12, sf_196_12, fd_196_13, sf_196_13, fd_196_14, sf_196_14, fd_196_15, sf_196_15, fd_196_16, sf_196_16, fd_196_17, sf_196_17, fd_196_18, sf_196_18, fd_196_19, sf_196_19, fd_196_20, sf_196_20, fd_196_21, sf_196_21, fd_196_22, sf_196_22, fd_196_23, sf_196_23, fd_196_24, sf_196_24, fd_196_25, sf_196_25, fd_196_26, sf_196_26, fd_196_27, fd_196_28, fd_196_29, fd_196_30, sf_196_30, fd_196_31, fd_196_32, fd_196_33, fd_196_34, fd_196_35, fd_196_36, fd_196_37, sf_196_37, fd_196_38, fd_196_39, sf_196_39, fd_196_40, sf_196_40, fd_196_41, sf_196_41, fd_196_42, fd_196_43, fd_196_44, ld_197, sd_197, ln_197, e0, nI_ltE, Nat.lt_irrefl, ↓reduceIte]
    exact H g k l o6 o7 (by omega) hr hl hS
  | succ j ih =>
    intro n k l g o6 o7 hn hfn hk hg hr hl hS
    have hn' : n < nn w := by omega
    have hn16 : n < 16 := by omega
    have e0 : g 197 0 = nI (nn w) := by rw [hg]; exact hN.1
    rw [b_mo_fewest_59]
    simp -implicitDefEqProofs (disch := first | assumption | omega) only [szS_0, szS_i, szS_r, szS_l, x_cons, x_goto, ob_some, kl_i, kl_r, kl_l, kl_n, push_n, push_s, pop_0, pop_i, pop_r, Int.reduceToNat, List.length_cons, List.length_nil, Nat.reduceAdd, Nat.reduceLeDiff, Nat.zero_add, true_and, nI_n0, nat_le, Nat.add_zero, i_1, i_m1, rt_mo_fewest, x_al0, x_call, x_getf, x_goto, x_iadd, x_iaload, x_iastore, x_iceq, x_icge, x_icle, x_ifle, x_ifne, x_il1, x_il2, x_il3, x_il4, x_il5, x_il6, x_il7, x_inc4, x_inc5, x_inc6, x_inc7, x_iret, x_is3, x_is4, x_is5, x_is6, x_is7, x_isub, x_ldc, x_m1, fd_196_0, fd_196_1, fd_196_2, fd_196_3, fd_196_4, sf_196_4, fd_196_5, sf_196_5, fd_196_6, fd_196_7, fd_196_8, fd_196_9, fd_196_10, fd_196_11, fd_196_12, sf_196_12, fd_196_13, sf_196_13, fd_196_14, sf_196_14, fd_196_15, sf_196_15, fd_196_16, sf_196_16, fd_196_17, sf_196_17, fd_196_18, sf_196_18, fd_196_19, sf_196_19, fd_196_20, sf_196_20, fd_196_21, sf_196_21, fd_196_22, sf_196_22, fd_196_23, sf_196_23, fd_196_24, sf_196_24, fd_196_25, sf_196_25, fd_196_26, sf_196_26, fd_196_27, fd_196_28, fd_196_29, fd_196_30, sf_196_30, fd_196_31, fd_196_32, fd_196_33, fd_196_34, fd_196_35, fd_196_36, fd_196_37, sf_196_37, fd_196_38, fd_196_39, sf_196_39, fd_196_40, sf_196_40, fd_196_41, sf_196_41, fd_196_42, fd_196_43, fd_196_44, ld_197, sd_197, ln_197, e0, nI_ltE, hn', ↓reduceIte]
    rw [s_isTown (by rw [hg]; exact hw), hg, townB_nI hw (by omega), decide_eq_true hn', Bool.true_and]
    simp -implicitDefEqProofs (disch := first | assumption | omega) only [szS_0, szS_i, szS_r, szS_l, x_cons, x_goto, ob_some, kl_i, kl_r, kl_l, kl_n, push_n, push_s, pop_0, pop_i, pop_r, Int.reduceToNat, List.length_cons, List.length_nil, Nat.reduceAdd, Nat.reduceLeDiff, Nat.zero_add, true_and, nI_n0, nat_le, Nat.add_zero, i_1, i_m1, rt_mo_fewest, x_al0, x_call, x_getf, x_goto, x_iadd, x_iaload, x_iastore, x_iceq, x_icge, x_icle, x_ifle, x_ifne, x_il1, x_il2, x_il3, x_il4, x_il5, x_il6, x_il7, x_inc4, x_inc5, x_inc6, x_inc7, x_iret, x_is3, x_is4, x_is5, x_is6, x_is7, x_isub, x_ldc, x_m1, bI_0]
    by_cases hs : fd w n 0 = 1
    · rw [decide_eq_true hs]
      simp -implicitDefEqProofs (disch := first | assumption | omega) only [Bool.true_eq_false, ↓reduceIte, b_mo_fewest_82, szS_0, szS_i, szS_r, szS_l, x_cons, x_goto, ob_some, kl_i, kl_r, kl_l, kl_n, push_n, push_s, pop_0, pop_i, pop_r, Int.reduceToNat, List.length_cons, List.length_nil, Nat.reduceAdd, Nat.reduceLeDiff, Nat.zero_add, true_and, nI_n0, nat_le, Nat.add_zero, i_1, i_m1, rt_mo_fewest, x_al0, x_call, x_getf, x_goto, x_iadd, x_iaload, x_iastore, x_iceq, x_icge, x_icle, x_ifle, x_ifne, x_il1, x_il2, x_il3, x_il4, x_il5, x_il6, x_il7, x_inc4, x_inc5, x_inc6, x_inc7, x_iret, x_is3, x_is4, x_is5, x_is6, x_is7, x_isub, x_ldc, x_m1]
      refine s_votesOf (by rw [hg]; exact hw) (by rw [hg]; exact hL) hn16 (by omega) (by rw [hg]; exact ha) fun g1 f1 => ?_
      rw [hg]
      have hv : vt V w n f a = cst V w f n a := by
        unfold cst
        rw [if_pos ⟨hfn, hn', hs, ha⟩]
      have hvl := cst_l hw (V := V) (f := f) (m := n) (a := a) hn16
      have hg1 : g1 197 = w := by rw [fr_a f1 rfl]; exact hg
      have e211 : g1 211 = g 211 := fr_a f1 rfl
      simp -implicitDefEqProofs (disch := first | assumption | omega) only [szS_0, szS_i, szS_r, szS_l, x_cons, x_goto, ob_some, kl_i, kl_r, kl_l, kl_n, push_n, push_s, pop_0, pop_i, pop_r, Int.reduceToNat, List.length_cons, List.length_nil, Nat.reduceAdd, Nat.reduceLeDiff, Nat.zero_add, true_and, nI_n0, nat_le, Nat.add_zero, i_1, i_m1, rt_mo_fewest, x_al0, x_call, x_getf, x_goto, x_iadd, x_iaload, x_iastore, x_iceq, x_icge, x_icle, x_ifle, x_ifne, x_il1, x_il2, x_il3, x_il4, x_il5, x_il6, x_il7, x_inc4, x_inc5, x_inc6, x_inc7, x_iret, x_is3, x_is4, x_is5, x_is6, x_is7, x_isub, x_ldc, x_m1]
      rw [hv, show E g1 q = E (upw g1 211 (g1 211)) q by rw [upw_g]]
      refine so_in (l := l) (by omega) hvl (fun p hp => (hS.1 p hp).1) (fun i r hi h1 h2 h3 => ?_) k _ (Nat.le_refl _) (fun p hp1 hp2 => absurd hp2 (by omega)) (fun p hp => by rw [e211]; exact hl p hp) fun p hp1 hp2 => absurd hp2 (by omega)
      rw [b_mo_fewest_149]
      simp -implicitDefEqProofs (disch := first | assumption | omega) only [szS_0, szS_i, szS_r, szS_l, x_cons, x_goto, ob_some, kl_i, kl_r, kl_l, kl_n, push_n, push_s, pop_0, pop_i, pop_r, Int.reduceToNat, List.length_cons, List.length_nil, Nat.reduceAdd, Nat.reduceLeDiff, Nat.zero_add, true_and, nI_n0, nat_le, Nat.add_zero, i_1, i_m1, rt_mo_fewest, x_al0, x_call, x_getf, x_goto, x_iadd, x_iaload, x_iastore, x_iceq, x_icge, x_icle, x_ifle, x_ifne, x_il1, x_il2, x_il3, x_il4, x_il5, x_il6, x_il7, x_inc4, x_inc5, x_inc6, x_inc7, x_iret, x_is3, x_is4, x_is5, x_is6, x_is7, x_isub, x_ldc, x_m1, nI_add]
      exact ih (n + 1) (k + 1) _ _ _ _ (by omega) (by omega) (by omega) (by rw [upw_o (by decide)]; exact hg1) (fr_w rfl (fr_t hr (fr_m rfl f1))) (fun p hp => by rw [upw_s]; exact h3 p hp) (soI_s rfl hvl hS hi h1 h2)
    · rw [decide_eq_false hs]
      have hc0 : cst V w f n a = 0 := by
        unfold cst
        rw [if_neg fun h => hs h.2.2.1]
      simp -implicitDefEqProofs (disch := first | assumption | omega) only [↓reduceIte, b_mo_fewest_149, szS_0, szS_i, szS_r, szS_l, x_cons, x_goto, ob_some, kl_i, kl_r, kl_l, kl_n, push_n, push_s, pop_0, pop_i, pop_r, Int.reduceToNat, List.length_cons, List.length_nil, Nat.reduceAdd, Nat.reduceLeDiff, Nat.zero_add, true_and, nI_n0, nat_le, Nat.add_zero, i_1, i_m1, rt_mo_fewest, x_al0, x_call, x_getf, x_goto, x_iadd, x_iaload, x_iastore, x_iceq, x_icge, x_icle, x_ifle, x_ifne, x_il1, x_il2, x_il3, x_il4, x_il5, x_il6, x_il7, x_inc4, x_inc5, x_inc6, x_inc7, x_iret, x_is3, x_is4, x_is5, x_is6, x_is7, x_isub, x_ldc, x_m1, nI_add]
      refine ih (n + 1) k l g o6 o7 (by omega) (by omega) (by omega) hg hr hl ⟨fun p hp => ⟨(hS.1 p hp).1, fun b hb => ?_⟩, fun b hb => ?_⟩
      · rw [cnt_s, hc0, decide_eq_false (by omega), if_neg Bool.false_ne_true, Nat.add_zero]
        exact (hS.1 p hp).2 b hb
      · rw [cnt_s, hc0, decide_eq_false (by omega), if_neg Bool.false_ne_true, Nat.add_zero]
        exact hS.2 b hb
theorem ms_lp {S : Nat → Nat} {r k : Nat} (hr : r ≤ 6000000) (hk : k ≤ 16) (hl : ∀ p, p < k → g 211 p = nI (S p) ∧ S p ≤ 6000000) {v1 v2 : Int32} (H : P (some (.int (pfx S r k 0 0))) (E g q)) : ∀ (j n s : Nat) (o7 : Option Value), n + j = k → s ≤ r → pfx S r j n s = pfx S r k 0 0 →
    wp (ev d) P mo_fewest 161 [some (.ref 196), some (.int v1), some (.int v2), some (.int (nI r)), some (.int (nI k)), some (.int (nI s)), some (.int (nI n)), o7] [] (E g q) := by
  intro j
  induction j with
  | zero =>
    intro n s o7 hn hs hp
    have hn : n = k := hn
    subst hn
    have hp : -1 = pfx S r n 0 0 := hp
    rw [b_mo_fewest_161]
    simp -implicitDefEqProofs (disch := first | assumption | omega) only [szS_0, szS_i, szS_r, szS_l, x_cons, x_goto, ob_some, kl_i, kl_r, kl_l, kl_n, push_n, push_s, pop_0, pop_i, pop_r, Int.reduceToNat, List.length_cons, List.length_nil, Nat.reduceAdd, Nat.reduceLeDiff, Nat.zero_add, true_and, nI_n0, nat_le, Nat.add_zero, i_1, i_m1, rt_mo_fewest, x_al0, x_call, x_getf, x_goto, x_iadd, x_iaload, x_iastore, x_iceq, x_icge, x_icle, x_ifle, x_ifne, x_il1, x_il2, x_il3, x_il4, x_il5, x_il6, x_il7, x_inc4, x_inc5, x_inc6, x_inc7, x_iret, x_is3, x_is4, x_is5, x_is6, x_is7, x_isub, x_ldc, x_m1, nI_ltE, Nat.lt_irrefl, ↓reduceIte, b_mo_fewest_197]
    rw [hp]
    exact H
  | succ j ih =>
    intro n s o7 hn hs hp
    have hn' : n < k := by omega
    have e1 := hl n hn'
    have hp : (if r < s + S n then nI (n + 1) else pfx S r j (n + 1) (s + S n)) = pfx S r k 0 0 := hp
    rw [b_mo_fewest_161]
    simp -implicitDefEqProofs (disch := first | assumption | omega) only [szS_0, szS_i, szS_r, szS_l, x_cons, x_goto, ob_some, kl_i, kl_r, kl_l, kl_n, push_n, push_s, pop_0, pop_i, pop_r, Int.reduceToNat, List.length_cons, List.length_nil, Nat.reduceAdd, Nat.reduceLeDiff, Nat.zero_add, true_and, nI_n0, nat_le, Nat.add_zero, i_1, i_m1, rt_mo_fewest, x_al0, x_call, x_getf, x_goto, x_iadd, x_iaload, x_iastore, x_iceq, x_icge, x_icle, x_ifle, x_ifne, x_il1, x_il2, x_il3, x_il4, x_il5, x_il6, x_il7, x_inc4, x_inc5, x_inc6, x_inc7, x_iret, x_is3, x_is4, x_is5, x_is6, x_is7, x_isub, x_ldc, x_m1, nI_ltE, hn', ↓reduceIte, fd_196_0, fd_196_1, fd_196_2, fd_196_3, fd_196_4, sf_196_4, fd_196_5, sf_196_5, fd_196_6, fd_196_7, fd_196_8, fd_196_9, fd_196_10, fd_196_11, fd_196_12, sf_196_12, fd_196_13, sf_196_13, fd_196_14, sf_196_14, fd_196_15, sf_196_15, fd_196_16, sf_196_16, fd_196_17, sf_196_17, fd_196_18, sf_196_18, fd_196_19, sf_196_19, fd_196_20, sf_196_20, fd_196_21, sf_196_21, fd_196_22, sf_196_22, fd_196_23, sf_196_23, fd_196_24, sf_196_24, fd_196_25, sf_196_25, fd_196_26, sf_196_26, fd_196_27, fd_196_28, fd_196_29, fd_196_30, sf_196_30, fd_196_31, fd_196_32, fd_196_33, fd_196_34, fd_196_35, fd_196_36, fd_196_37, sf_196_37, fd_196_38, fd_196_39, sf_196_39, fd_196_40, sf_196_40, fd_196_41, sf_196_41, fd_196_42, fd_196_43, fd_196_44, ld_211, sd_211, ln_211, e1.1, nI_add]
    by_cases hlt : r < s + S n
    · rw [if_pos hlt] at hp
      rw [if_pos hlt]
      try simp -implicitDefEqProofs (disch := first | assumption | omega) only [szS_0, szS_i, szS_r, szS_l, x_cons, x_goto, ob_some, kl_i, kl_r, kl_l, kl_n, push_n, push_s, pop_0, pop_i, pop_r, Int.reduceToNat, List.length_cons, List.length_nil, Nat.reduceAdd, Nat.reduceLeDiff, Nat.zero_add, true_and, nI_n0, nat_le, Nat.add_zero, i_1, i_m1, rt_mo_fewest, x_al0, x_call, x_getf, x_goto, x_iadd, x_iaload, x_iastore, x_iceq, x_icge, x_icle, x_ifle, x_ifne, x_il1, x_il2, x_il3, x_il4, x_il5, x_il6, x_il7, x_inc4, x_inc5, x_inc6, x_inc7, x_iret, x_is3, x_is4, x_is5, x_is6, x_is7, x_isub, x_ldc, x_m1, nI_add]
      rw [hp]
      exact H
    · rw [if_neg hlt] at hp
      rw [if_neg hlt]
      try simp -implicitDefEqProofs (disch := first | assumption | omega) only [b_mo_fewest_191, szS_0, szS_i, szS_r, szS_l, x_cons, x_goto, ob_some, kl_i, kl_r, kl_l, kl_n, push_n, push_s, pop_0, pop_i, pop_r, Int.reduceToNat, List.length_cons, List.length_nil, Nat.reduceAdd, Nat.reduceLeDiff, Nat.zero_add, true_and, nI_n0, nat_le, Nat.add_zero, i_1, i_m1, rt_mo_fewest, x_al0, x_call, x_getf, x_goto, x_iadd, x_iaload, x_iastore, x_iceq, x_icge, x_icle, x_ifle, x_ifne, x_il1, x_il2, x_il3, x_il4, x_il5, x_il6, x_il7, x_inc4, x_inc5, x_inc6, x_inc7, x_iret, x_is3, x_is4, x_is5, x_is6, x_is7, x_isub, x_ldc, x_m1, nI_add]
      exact ih (n + 1) (s + S n) o7 (by omega) (by omega) hp
theorem s_mfewest (hw : WI (g 197)) (hL : LK (g 197) 0 okV V) {f a : Int32} (H : ∀ g', fr [205, 206, 207, 211] g g' → P (some (.int (fwA V (g 197) f a))) (E g' q)) : callC (ev (d + 8)) mo_fewest [.ref 196, .int f, .int a] (E g q) P := by
  refine in_mo_fewest rfl ?_
  rw [b_mo_fewest_0]
  simp -implicitDefEqProofs (disch := first | assumption | omega) only [szS_0, szS_i, szS_r, szS_l, x_cons, x_goto, ob_some, kl_i, kl_r, kl_l, kl_n, push_n, push_s, pop_0, pop_i, pop_r, Int.reduceToNat, List.length_cons, List.length_nil, Nat.reduceAdd, Nat.reduceLeDiff, Nat.zero_add, true_and, nI_n0, nat_le, Nat.add_zero, i_1, i_m1, rt_mo_fewest, x_al0, x_call, x_getf, x_goto, x_iadd, x_iaload, x_iastore, x_iceq, x_icge, x_icle, x_ifle, x_ifne, x_il1, x_il2, x_il3, x_il4, x_il5, x_il6, x_il7, x_inc4, x_inc5, x_inc6, x_inc7, x_iret, x_is3, x_is4, x_is5, x_is6, x_is7, x_isub, x_ldc, x_m1]
  rw [s_isArm hw]
  simp -implicitDefEqProofs (disch := first | assumption | omega) only [szS_0, szS_i, szS_r, szS_l, x_cons, x_goto, ob_some, kl_i, kl_r, kl_l, kl_n, push_n, push_s, pop_0, pop_i, pop_r, Int.reduceToNat, List.length_cons, List.length_nil, Nat.reduceAdd, Nat.reduceLeDiff, Nat.zero_add, true_and, nI_n0, nat_le, Nat.add_zero, i_1, i_m1, rt_mo_fewest, x_al0, x_call, x_getf, x_goto, x_iadd, x_iaload, x_iastore, x_iceq, x_icge, x_icle, x_ifle, x_ifne, x_il1, x_il2, x_il3, x_il4, x_il5, x_il6, x_il7, x_inc4, x_inc5, x_inc6, x_inc7, x_iret, x_is3, x_is4, x_is5, x_is6, x_is7, x_isub, x_ldc, x_m1, bI_0]
  unfold fwA at H
  cases h1 : armB (g 197) f a
  · rw [h1, if_neg Bool.false_ne_true] at H
    simp -implicitDefEqProofs (disch := first | assumption | omega) only [↓reduceIte, szS_0, szS_i, szS_r, szS_l, x_cons, x_goto, ob_some, kl_i, kl_r, kl_l, kl_n, push_n, push_s, pop_0, pop_i, pop_r, Int.reduceToNat, List.length_cons, List.length_nil, Nat.reduceAdd, Nat.reduceLeDiff, Nat.zero_add, true_and, nI_n0, nat_le, Nat.add_zero, i_1, i_m1, rt_mo_fewest, x_al0, x_call, x_getf, x_goto, x_iadd, x_iaload, x_iastore, x_iceq, x_icge, x_icle, x_ifle, x_ifne, x_il1, x_il2, x_il3, x_il4, x_il5, x_il6, x_il7, x_inc4, x_inc5, x_inc6, x_inc7, x_iret, x_is3, x_is4, x_is5, x_is6, x_is7, x_isub, x_ldc, x_m1]
    exact H g fr_r
  · obtain ⟨f', a', hf, rfl, hs, ha, rfl⟩ := armB_ex hw h1
    have h0 := wi_n hw
    have ha3 := am_le hw (n := f') (by omega)
    rw [h1, if_pos rfl, ix_nI (by omega), ix_nI (by omega)] at H
    simp -implicitDefEqProofs (disch := first | assumption | omega) only [Bool.true_eq_false, ↓reduceIte, b_mo_fewest_11, szS_0, szS_i, szS_r, szS_l, x_cons, x_goto, ob_some, kl_i, kl_r, kl_l, kl_n, push_n, push_s, pop_0, pop_i, pop_r, Int.reduceToNat, List.length_cons, List.length_nil, Nat.reduceAdd, Nat.reduceLeDiff, Nat.zero_add, true_and, nI_n0, nat_le, Nat.add_zero, i_1, i_m1, rt_mo_fewest, x_al0, x_call, x_getf, x_goto, x_iadd, x_iaload, x_iastore, x_iceq, x_icge, x_icle, x_ifle, x_ifne, x_il1, x_il2, x_il3, x_il4, x_il5, x_il6, x_il7, x_inc4, x_inc5, x_inc6, x_inc7, x_iret, x_is3, x_is4, x_is5, x_is6, x_is7, x_isub, x_ldc, x_m1]
    refine mr_lp (g0 := g) hw hL hf (a := a') (by omega) (fun g1 f1 => ?_) (am (g 197) f') 0 g (Nat.zero_add _) rfl fr_r
    rw [b_mo_fewest_51]
    simp -implicitDefEqProofs (disch := first | assumption | omega) only [szS_0, szS_i, szS_r, szS_l, x_cons, x_goto, ob_some, kl_i, kl_r, kl_l, kl_n, push_n, push_s, pop_0, pop_i, pop_r, Int.reduceToNat, List.length_cons, List.length_nil, Nat.reduceAdd, Nat.reduceLeDiff, Nat.zero_add, true_and, nI_n0, nat_le, Nat.add_zero, i_1, i_m1, rt_mo_fewest, x_al0, x_call, x_getf, x_goto, x_iadd, x_iaload, x_iastore, x_iceq, x_icge, x_icle, x_ifle, x_ifne, x_il1, x_il2, x_il3, x_il4, x_il5, x_il6, x_il7, x_inc4, x_inc5, x_inc6, x_inc7, x_iret, x_is3, x_is4, x_is5, x_is6, x_is7, x_isub, x_ldc, x_m1, nI_add]
    have hz : ∀ b n, 1 ≤ b → n ≤ f' + 1 → cnt (fun m => decide (b ≤ cst V (g 197) f' m a')) n = 0 := by
      intro b n hb
      induction n with
      | zero => exact fun _ => rfl
      | succ n ih =>
        intro hn
        have : cst V (g 197) f' n a' = 0 := by
          unfold cst
          rw [if_neg fun h => by omega]
        rw [cnt_s, ih (by omega), this, decide_eq_false (by omega)]
        rfl
    refine so_out (g0 := g1) hw hL hf ha (fun g2 k l o6 o7 hk f2 hl hS => ?_) (nn (g 197) - (f' + 1)) (f' + 1) 0 (fun _ => 0) g1 none none (by omega) (by omega) (by omega) (fr_a f1 rfl) fr_r (fun p hp => absurd hp (Nat.not_lt_zero p)) ⟨fun p hp => absurd hp (Nat.not_lt_zero p), fun b hb => by rw [hz b _ hb (Nat.le_refl _)]; exact Nat.zero_le _⟩
    rw [b_mo_fewest_155]
    simp -implicitDefEqProofs (disch := first | assumption | omega) only [szS_0, szS_i, szS_r, szS_l, x_cons, x_goto, ob_some, kl_i, kl_r, kl_l, kl_n, push_n, push_s, pop_0, pop_i, pop_r, Int.reduceToNat, List.length_cons, List.length_nil, Nat.reduceAdd, Nat.reduceLeDiff, Nat.zero_add, true_and, nI_n0, nat_le, Nat.add_zero, i_1, i_m1, rt_mo_fewest, x_al0, x_call, x_getf, x_goto, x_iadd, x_iaload, x_iastore, x_iceq, x_icge, x_icle, x_ifle, x_ifne, x_il1, x_il2, x_il3, x_il4, x_il5, x_il6, x_il7, x_inc4, x_inc5, x_inc6, x_inc7, x_iret, x_is3, x_is4, x_is5, x_is6, x_is7, x_isub, x_ldc, x_m1]
    have e16 : ∀ b, 1 ≤ b → fwC V (g 197) f' a' b = cnt (fun m => decide (b ≤ cst V (g 197) f' m a')) (nn (g 197)) := by
      intro b hb
      have : ∀ j n, nn (g 197) + j = n → cnt (fun m => decide (b ≤ cst V (g 197) f' m a')) n = cnt (fun m => decide (b ≤ cst V (g 197) f' m a')) (nn (g 197)) := by
        intro j
        induction j with
        | zero => intro n hn; rw [← hn]; rfl
        | succ j ih =>
          intro n hn
          obtain ⟨n', rfl⟩ : ∃ n', n = n' + 1 := ⟨n - 1, by omega⟩
          have : cst V (g 197) f' n' a' = 0 := by
            unfold cst
            rw [if_neg fun h => by omega]
          rw [cnt_s, ih n' (by omega), this, decide_eq_false (by omega)]
          rfl
      exact this (16 - nn (g 197)) 16 (by omega)
    have eS : ∀ p, p < k → sS (fwC V (g 197) f' a') p = l p := fun p hp => sS_e (hS.1 p hp).1 fun b hb => by
      rw [e16 b hb]
      exact (hS.1 p hp).2 b hb
    have e0 : ∀ p, k ≤ p → sS (fwC V (g 197) f' a') p = 0 := fun p hp => sS_e (Nat.zero_le _) fun b hb => by
      rw [e16 b hb]
      have := hS.2 b hb
      omega
    have hpk := pfx_k (S := sS (fwC V (g 197) f' a')) (r := rvl V (g 197) f' a' (am (g 197) f')) k (16 - k) 0 0 (Nat.zero_le _) fun i hi => e0 i (by omega)
    rw [show k + (16 - k) = 16 by omega] at hpk
    refine ms_lp (S := sS (fwC V (g 197) f' a')) (rvl_l hw _) hk (fun p hp => by rw [hl p hp, eS p hp]; exact ⟨rfl, (hS.1 p hp).1⟩) ?_ k 0 0 _ (Nat.zero_add _) (Nat.zero_le _) rfl
    rw [← hpk]
    exact H g2 (fr_t (fr_m rfl f1) f2)
end FW
theorem k_fewest {d L B : Nat} {xs : Nat → Int32} {g : Nat → Nat → Int32} {q : Nat → Nat → Int64} (hW : World B g) (hE : Env L xs g) {f a : Int32} : two (d + 8) L xs B vr_fewest mo_fewest [.ref 0, .int f, .int a] [.ref 196, .int f, .int a] g q := by
  refine k_pure hW hE fun w V M pl im R h => ⟨fwA V w f a, fun P hP => s_vfewest h.1.1.1 h.2.1.1.1 h.2.1.1.2.2 fun g' f => hP g' q f, fun g1 q1 P h1 hP => ?_⟩
  have e : g1 197 = w := h1.2.2.1.1
  refine s_mfewest (by rw [e]; exact h.1.1.1) (by rw [e]; exact h.1.1.2.1) fun g2 f2 => ?_
  rw [e]
  exact hP g2 q1 (fr_M f2 rfl) (Mc_fr h1.2.2 f2 rfl)
