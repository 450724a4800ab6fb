/-! the world at sea, where the law begins -/
def wSea : Nat → Int32 := dlR (pu (fun _ => 0) 6 (nI 100)) [vSea]
theorem wS_n : ∀ n, n < 16 → ∀ f, f < 20 → wSea (10 + 20 * n + f) = nI (if n = 0 ∧ f = 0 then 2 else if n = 0 ∧ f = 5 then 1 else 0) := by decide +kernel
theorem wS_h {x : Nat} (h : 596 ≤ x) : wSea x = 0 := by
  unfold wSea
  rw [dlR_o dlK_sea.1 (by omega), pu_n (by omega)]
theorem wS_w : WI wSea ∧ sumH wSea 16 ≤ 15984 := WI_dl0 (w := pu (fun _ => 0) 6 (nI 100)) ⟨rg_i (a := 100) rfl (by decide) (by decide), rg_i (a := 0) rfl (by decide) (by decide), rg_i (a := 0) rfl (by decide) (by decide), rg_i (a := 0) rfl (by decide) (by decide)⟩ dlK_sea
theorem wS_c : (wSea 0 = nI 1 ∧ wSea 1 = nI 0 ∧ wSea 2 = nI 0 ∧ wSea 3 = nI 0 ∧ wSea 4 = nI 0) ∧ (wSea 5 = 0 ∧ wSea 6 = nI 100 ∧ wSea 7 = 0 ∧ wSea 8 = 0 ∧ wSea 9 = 0) ∧ nn wSea = 1 ∧ fd wSea 0 0 = 2 ∧ am wSea 0 = 0 := by decide +kernel
theorem n0z : nI 0 = (0 : Int32) := rfl
section SEA
variable {L : Nat} {xs : Nat → Int32} {g0 g1 g2 : Nat → Nat → Int32}
theorem W_sea (h0 : ∀ a k, a < 300000 → g0 a k = 0) (hB : BAS (up2 (up2 g0 168 3 (-1)) 0 9 (nI 0)) g1) (f : ∀ b, b < 196 ∨ 204 ≤ b ∨ b = 198 → g2 b = g1 b) (e7 : g2 197 = dlR (pu (g1 197) 6 (nI 100)) [vSea]) (e4 : g2 196 4 = nI 0) (ek : ∀ k, k ≠ 4 → k ≠ 15 → k ≠ 26 → g2 196 k = g1 196 k) (e26 : g2 196 26 = -1) : World 159984 g2 := by
  obtain ⟨bo, b2, ⟨b70, b71, b72, b74, b73⟩, ⟨b80, b8⟩, ⟨b30, b3⟩, b4, b5, ⟨b60, b6⟩, b10, b21⟩ := hB
  obtain ⟨⟨w0, w1, w2, w3, w4⟩, ⟨w5, w6, w7, w8, w9⟩, wn, wf, wa⟩ := wS_c
  have ho : ∀ b k, b ≠ 0 → b ≠ 168 → b < 300000 → up2 (up2 g0 168 3 (-1)) 0 9 (nI 0) b k = 0 := fun b k hb hb2 hb3 => by
    rw [up2_o hb, up2_o hb2]
    exact h0 b k hb3
  have hz : ∀ b k, 22 ≤ b → b ≠ 168 → b < 300000 → g1 b k = 0 := fun b k hb hb2 hb3 => by
    rw [bo b (by omega)]
    exact ho b k (by omega) hb2 hb3
  have hz2 : ∀ b k, 22 ≤ b → b ≠ 168 → b < 196 ∨ 204 ≤ b ∨ b = 198 → b < 300000 → g2 b k = nI 0 := fun b k hb hb2 hb3 hb4 => by
    rw [f b hb3]
    exact hz b k hb hb2 hb4
  have e197 : g2 197 = wSea := by
    rw [e7, show g1 197 = fun _ => 0 from funext fun k => hz 197 k (by decide) (by decide) (by decide)]
    rfl
  have z8 : ∀ k, g1 168 k = if k = 3 then -1 else 0 := fun k => by
    rw [bo 168 (by decide), up2_o (by decide)]
    by_cases e : k = 3
    · rw [e, up2_s, if_pos rfl]
    · rw [up2_n e, if_neg e]
      exact h0 168 k (by decide)
  have z82 : ∀ k, g2 168 k = if k = 3 then -1 else 0 := fun k => by
    rw [f 168 (by decide)]
    exact z8 k
  have hn2 : ∀ n, n < 16 → ∀ a, a < 20 → (n ≠ 0 ∨ (a ≠ 0 ∧ a ≠ 5)) → wSea (10 + 20 * n + a) = nI 0 := fun n hn a ha h => by
    rw [wS_n n hn a ha, if_neg (by omega), if_neg (by omega)]
  have hfar : ∀ m, m < 16 → far wSea 0 m = if m = 0 then 0 else 99 := fun m hm => by
    by_cases e : m = 0
    · rw [if_pos e, ← rwb_e wS_w.1 (by decide), e]
      rfl
    · rw [if_neg e]
      exact far_no wS_w.1 (by rw [wn]; decide) (Or.inr (by rw [wn]; omega))
  have T1 : Tc 1 wSea g2 := by
    refine ⟨⟨?_, ?_, ?_, ?_, ?_, ?_⟩, fun n hn => ⟨?_, ?_⟩, fun n a hn ha => ?_, fun s m hs hm => ?_, fun n hn hf => ?_, fun n hn => ⟨?_, ?_, ?_, ?_, ?_, ?_, ?_, ?_⟩, fun k hk => ?_⟩
    · rw [f 2 (by decide), w0]; exact b2
    · rw [f 7 (by decide), w1]; exact b70
    · rw [f 7 (by decide), w4]; exact b71
    · rw [f 7 (by decide), w3]; exact b72
    · rw [f 8 (by decide), w6]; exact b80
    · rw [f 8 (by decide), w7]; exact (b8 1 (by decide)).trans (ho 8 1 (by decide) (by decide) (by decide))
    · rw [f 3 (by decide)]
      have := wS_n n hn 0 (by decide)
      rw [Nat.add_zero] at this
      rw [this]
      by_cases e : n = 0
      · rw [e]; exact b30
      · rw [if_neg (by omega), if_neg (by omega)]; exact b3 n (by omega) hn
    · rw [f 4 (by decide), hn2 n hn 1 (by decide) (by omega)]; exact b4 n hn
    · rw [f 5 (by decide), hn2 n hn (2 + a) (by omega) (by omega)]; exact b5 _ (by omega)
    · have hs : s = 0 := by rw [wn] at hs; omega
      rw [hs, f 6 (by decide), hfar m hm, Nat.zero_mul, Nat.zero_add]
      by_cases e : m = 0
      · rw [e, if_pos rfl]; exact b60
      · rw [if_neg e]; exact b6 m (by omega) hm
    · have hn : n = 0 := by rw [wn] at hn; omega
      rw [hn, wf] at hf
      cases hf
    · rw [f 10 (by decide), hn2 n hn 10 (by decide) (by omega)]; exact (b10 n hn).1
    · rw [f 11 (by decide), hn2 n hn 11 (by decide) (by omega)]; exact (b10 n hn).2.1
    · rw [f 12 (by decide), hn2 n hn 15 (by decide) (by omega)]; exact (b10 n hn).2.2.1
    · rw [f 13 (by decide), hn2 n hn 16 (by decide) (by omega)]; exact (b10 n hn).2.2.2.1
    · rw [f 14 (by decide), hn2 n hn 12 (by decide) (by omega)]; exact (b10 n hn).2.2.2.2.1
    · rw [f 15 (by decide), hn2 n hn 13 (by decide) (by omega)]; exact (b10 n hn).2.2.2.2.2.1
    · rw [f 16 (by decide), hn2 n hn 14 (by decide) (by omega)]; exact (b10 n hn).2.2.2.2.2.2.1
    · rw [f 17 (by decide), hn2 n hn 17 (by decide) (by omega)]; exact (b10 n hn).2.2.2.2.2.2.2
    · rw [f 21 (by decide), show wSea (340 + k) = nI 0 from dlR_z dlK_sea.1 (by omega)]; exact b21 k hk
  have T2 : Tx true 1 wSea g2 := by
    refine ⟨⟨?_, fun k hk => ?_⟩, ?_⟩
    · rw [f 7 (by decide), w2]; exact b74
    · rw [wS_h (by omega)]; exact hz2 30 k (by decide) (by decide) (by decide) (by decide)
    · show g2 7 3 = wSea 5 ∧ g2 8 2 = wSea 8 ∧ g2 8 3 = wSea 9
      rw [f 7 (by decide), f 8 (by decide), w5, w8, w9]
      exact ⟨b73.trans (ho 7 3 (by decide) (by decide) (by decide)), (b8 2 (by decide)).trans (ho 8 2 (by decide) (by decide) (by decide)), (b8 3 (by decide)).trans (ho 8 3 (by decide) (by decide) (by decide))⟩
  have hl : ∀ b k, b = 22 ∨ b = 26 → LC b k g2 [] := fun b k hb => ⟨hz2 b 0 (by omega) (by omega) (by omega) (by omega), Nat.zero_le _, trivial, hz2 (b + 2) 0 (by omega) (by omega) (by omega) (by omega)⟩
  have no : ∀ {p}, p ∈ ([] : LW) → False := fun h => absurd h List.not_mem_nil
  have T3 : CL 1 g2 [] [] := ⟨hl 22 0 (by omega), hl 26 1 (by omega), ⟨fun p hp => (no hp).elim, fun p hp => (no hp).elim⟩, ⟨fun p hp => (no hp).elim, fun p hp => (no hp).elim⟩⟩
  have hk : ∀ k ok, k < 2 → LK wSea k ok [] := fun k ok hk => ⟨⟨wS_h (by omega), Nat.zero_le _, trivial⟩, fun p hp => (no hp).elim⟩
  refine ⟨wSea, [], [], [], none, ((0, fun _ => 0), (nI 0, -1)), ⟨⟨wS_w.1, hk 0 _ (by decide), hk 1 _ (by decide), fun k hk => wS_h (by omega), Nat.le_trans wS_w.2 (by decide)⟩, plI_0, fun x hx => (by cases hx), Nat.zero_le _, fun k hk => absurd hk (Nat.not_lt_zero k)⟩, ⟨⟨T1, T2, T3⟩, ⟨0, by decide, hz2 91 2 (by decide) (by decide) (by decide) (by decide), hz2 91 1 (by decide) (by decide) (by decide) (by decide), Nat.zero_le _, fun i r hr => ?_⟩, ?_, ⟨z82 1, fun k hk => absurd hk (Nat.not_lt_zero k), z82 2, z82 3, hz2 84 0 (by decide) (by decide) (by decide) (by decide), hz2 88 0 (by decide) (by decide) (by decide) (by decide)⟩⟩, ⟨e197, e4, fun i r hr => ?_⟩, ⟨?_, fun k hk => ?_⟩, ?_, fun k hk => absurd hk (Nat.not_lt_zero k), ?_, e26⟩
  · rw [List.getElem?_nil] at hr; cases hr
  · show g2 0 9 = nI 0
    rw [f 0 (by decide), bo 0 (by decide), up2_s]
  · rw [List.getElem?_nil] at hr; cases hr
  · rw [ek 5 (by decide) (by decide) (by decide)]; exact hz 196 5 (by decide) (by decide) (by decide)
  · exact hz2 198 k (by decide) (by decide) (by decide) (by decide)
  · rw [ek 17 (by decide) (by decide) (by decide)]; exact hz 196 17 (by decide) (by decide) (by decide)
  · rw [ek 24 (by decide) (by decide) (by decide)]; exact hz 196 24 (by decide) (by decide) (by decide)
/-- the cells of the mini machine before the law -/
def g00 (L : Nat) (xs : Nat → Int32) : Nat → Nat → Int32 := fun a k => if a = 300000 then setv k else if a = 300001 then xs k else if a = 300002 then nI L else 0
theorem h00_e : h00 L xs = EC 0 0 (g00 L xs) fun _ _ => 0 := by
  have : RQ 0 = fun _ _ => none := by
    funext a k
    unfold RQ
    rw [if_neg (Nat.not_lt_zero _)]
  unfold EC
  rw [this]
  rfl
theorem g00_0 (a k : Nat) (h : a < 300000) : g00 L xs a k = 0 := by
  unfold g00
  rw [if_neg (by omega), if_neg (by omega), if_neg (by omega)]
theorem g00_E : Env L xs (g00 L xs) := ⟨fun k _ => rfl, rfl, rfl⟩
/-- the law's whole run -/
theorem law_run (hL : L ≤ 3072) : wp (ev 1900) (fun r h => r = some (.int (nI 1)) ∧ nxt h ≤ NN) lw_law 0 [some (.ref 300001), none, none, none] [] (h00 L xs) := by
  have hP : ∀ g q, (fun r h => r = some (.int (nI 1)) ∧ nxt h ≤ NN : QT) (some (.int (nI 1))) (E g q) := fun g q => ⟨rfl, by show (220 : Nat) ≤ NN; decide⟩
  generalize hQ : (fun r h => r = some (.int (nI 1)) ∧ nxt h ≤ NN : QT) = P at hP
  rw [h00_e, b_lw_law_0]
  simp -implicitDefEqProofs (disch := first | assumption | omega | decide +kernel) only [szS_0, szS_i, szS_r, szS_l, x_cons, x_goto, ob_some, kl_i, kl_r, kl_l, kl_n, push_n, push_s, pop_0, pop_i, pop_r, Int.reduceToNat, List.length_cons, List.length_nil, Nat.reduceAdd, Nat.reduceLeDiff, Nat.zero_add, true_and, nI_n0, nat_le, Nat.add_zero, i_6, rt_lw_law_0, rt_lw_law_1, rt_lw_law_b, x_al0, x_al1, x_al2, x_alen, x_as1, x_as2, x_call, x_dupi, x_dupr, x_goto, x_iadd, x_iaload, x_iand, x_iceq, x_icgt, x_ifeq, x_il3, x_inc3, x_iret, x_is3, x_isub, x_ldc, x_tsw, ce_new]
  refine s_vinit (d := 1895) fun g1 h1 => ?_
  have ho := h1.1
  simp -implicitDefEqProofs (disch := first | assumption | omega | decide +kernel) only [szS_0, szS_i, szS_r, szS_l, x_cons, x_goto, ob_some, kl_i, kl_r, kl_l, kl_n, push_n, push_s, pop_0, pop_i, pop_r, Int.reduceToNat, List.length_cons, List.length_nil, Nat.reduceAdd, Nat.reduceLeDiff, Nat.zero_add, true_and, nI_n0, nat_le, Nat.add_zero, i_6, rt_lw_law_0, rt_lw_law_1, rt_lw_law_b, x_al0, x_al1, x_al2, x_alen, x_as1, x_as2, x_call, x_dupi, x_dupr, x_goto, x_iadd, x_iaload, x_iand, x_iceq, x_icgt, x_ifeq, x_il3, x_inc3, x_iret, x_is3, x_isub, x_ldc, x_tsw, ce_new]
  refine s_minit (d := 1896) (fun k _ => ?_) fun g2 f e7 e4 ek e26 => ?_
  · rw [ho 203 (by decide), up2_o (by decide), up2_o (by decide)]
    exact g00_0 203 k (by decide)
  have hW := W_sea (fun a k h => g00_0 a k h) h1 f e7 e4 ek e26
  have hE : Env L xs g2 := by
    have e : ∀ b, 300000 ≤ b → g2 b = g00 L xs b := fun b hb => by
      rw [f b (by omega), ho b (by omega)]
      funext k
      rw [up2_o (by omega), up2_o (by omega)]
    unfold Env
    rw [e 300000 (by decide), e 300001 (by decide), e 300002 (by decide)]
    exact g00_E
  simp -implicitDefEqProofs (disch := first | assumption | omega) only [szS_0, szS_i, szS_r, szS_l, x_cons, x_goto, ob_some, kl_i, kl_r, kl_l, kl_n, push_n, push_s, pop_0, pop_i, pop_r, Int.reduceToNat, List.length_cons, List.length_nil, Nat.reduceAdd, Nat.reduceLeDiff, Nat.zero_add, true_and, nI_n0, nat_le, Nat.add_zero, i_6, rt_lw_law_0, rt_lw_law_1, rt_lw_law_b, x_al0, x_al1, x_al2, x_alen, x_as1, x_as2, x_call, x_dupi, x_dupr, x_goto, x_iadd, x_iaload, x_iand, x_iceq, x_icgt, x_ifeq, x_il3, x_inc3, x_iret, x_is3, x_isub, x_ldc, x_tsw]
  by_cases h6 : 6 ≤ L
  · exact law_lp (d := 1849) hL h6 hP 512 0 g2 _ rfl hW hE
  · exact law_lp0 (d := 1849) (by omega) hE (hP g2 _)
end SEA
