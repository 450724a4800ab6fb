/-! the class in thought -/
theorem Tc_x {t : Nat} {w : Nat → Int32} {g g' : Nat → Nat → Int32} (h : Tc t w g) (e : ∀ a, t < a → a < t + 21 → a ≠ t + 6 → a ≠ t + 7 → g' a = g a) (e6 : ∀ k, k < 3 → g' (t + 6) k = g (t + 6) k) (e7 : ∀ k, k < 2 → g' (t + 7) k = g (t + 7) k) : Tc t w g' := by
  obtain ⟨h1, h2, h3, h4, h5, h6, h7⟩ := h
  refine ⟨?_, ?_, ?_, ?_, ?_, ?_, ?_⟩
  · rw [e (t + 1) (by omega) (by omega) (by omega) (by omega), e6 0 (by decide), e6 1 (by decide), e6 2 (by decide), e7 0 (by decide), e7 1 (by decide)]
    exact h1
  · rw [e (t + 2) (by omega) (by omega) (by omega) (by omega), e (t + 3) (by omega) (by omega) (by omega) (by omega)]
    exact h2
  · rw [e (t + 4) (by omega) (by omega) (by omega) (by omega)]
    exact h3
  · rw [e (t + 5) (by omega) (by omega) (by omega) (by omega)]
    exact h4
  · rw [e (t + 17) (by omega) (by omega) (by omega) (by omega), e (t + 18) (by omega) (by omega) (by omega) (by omega), e (t + 19) (by omega) (by omega) (by omega) (by omega)]
    exact h5
  · rw [e (t + 9) (by omega) (by omega) (by omega) (by omega), e (t + 10) (by omega) (by omega) (by omega) (by omega), e (t + 11) (by omega) (by omega) (by omega) (by omega), e (t + 12) (by omega) (by omega) (by omega) (by omega), e (t + 13) (by omega) (by omega) (by omega) (by omega), e (t + 14) (by omega) (by omega) (by omega) (by omega), e (t + 15) (by omega) (by omega) (by omega) (by omega), e (t + 16) (by omega) (by omega) (by omega) (by omega)]
    exact h6
  · rw [e (t + 20) (by omega) (by omega) (by omega) (by omega)]
    exact h7
theorem tc_v {t : Nat} {w : Nat → Int32} {g : Nat → Nat → Int32} (h : Tc t w g) {k m : Nat} (hk : k < 8) (hm : m < 16) : g (t + 9 + k) m = w (10 + 20 * m + tfd k) := by
  obtain ⟨e0, e1, e2, e3, e4, e5, e6, e7⟩ := tc_t h hm
  have h : k = 0 ∨ k = 1 ∨ k = 2 ∨ k = 3 ∨ k = 4 ∨ k = 5 ∨ k = 6 ∨ k = 7 := by omega
  rcases h with rfl | rfl | rfl | rfl | rfl | rfl | rfl | rfl
  · exact e0
  · exact e1
  · exact e2
  · exact e3
  · exact e4
  · exact e5
  · exact e6
  · exact e7
/-- a mixed number's parts -/
theorem mxr {a b a' b' m : Nat} (h : a * m + b = a' * m + b') (hb : b < m) (hb' : b' < m) : a = a' ∧ b = b' := by
  have h1 : (a * m + b) / m = a := by rw [Nat.mul_comm, Nat.mul_add_div (by omega), Nat.div_eq_of_lt hb, Nat.add_zero]
  have h2 : (a' * m + b') / m = a' := by rw [Nat.mul_comm, Nat.mul_add_div (by omega), Nat.div_eq_of_lt hb', Nat.add_zero]
  have h3 : a = a' := by rw [← h1, h, h2]
  subst h3
  exact ⟨rfl, Nat.add_left_cancel h⟩
def pkF (w : Nat → Int32) (n : Nat) : Nat := (((fd w n 6 * 8 + fd w n 5) * 1000 + fd w n 7) * 1000 + fd w n 8) * 1000 + fd w n 9
def pkT (w : Nat → Int32) (n : Nat) : Nat := (((((fd w n 10 * 2048 + fd w n 12) * 128 + fd w n 13) * 16 + fd w n 14) * 16 + fd w n 15) * 512 + fd w n 16) * 2 + fd w n 17
def pkN (w : Nat → Int32) (n : Nat) : Nat := if fd w n 0 = 0 then pkF w n else pkT w n
theorem pkN_l {w : Nat → Int32} (h : WI w) {n : Nat} (hn : n < 16) : pkN w n < 2 ^ 63 := by
  obtain ⟨⟨_, a5⟩, ⟨_, a6⟩, ⟨_, a7⟩, ⟨_, a8⟩, _, a9⟩ := wi_x h hn
  obtain ⟨⟨_, b0⟩, _, ⟨_, b2⟩, ⟨_, b3⟩, ⟨_, b4⟩, ⟨_, b5⟩, ⟨_, b6⟩, _, b7⟩ := wi_y h hn
  unfold pkN pkF pkT
  split <;> omega
theorem lNE {a b : Nat} (ha : a < 2 ^ 63) (hb : b < 2 ^ 63) : (lN a = lN b) = (a = b) := propext ⟨fun h => by
  have := congrArg Int64.toInt h
  unfold lN at this
  rw [lg_ofNat_toInt ha, lg_ofNat_toInt hb] at this
  omega, fun h => by rw [h]⟩
theorem lc_eq {u v : Int64} : (lg_cmp u v = nI 0) = (u = v) := by
  unfold lg_cmp
  by_cases h : u > v
  · rw [if_pos h]
    exact propext ⟨fun e => absurd e (by decide), fun e => by
      rw [e] at h
      rw [gt_iff_lt, Int64.lt_iff_toInt_lt] at h
      omega⟩
  · rw [if_neg h]
    by_cases e : u = v
    · rw [if_pos e]
      exact propext ⟨fun _ => e, fun _ => rfl⟩
    · rw [if_neg e]
      exact propext ⟨fun h => absurd h (by decide), fun h => absurd h e⟩
/-- what thought leaves -/
def sty (w : Nat → Int32) (n f : Nat) : Prop := f = 11 ∨ f = 18 ∨ f = 19 ∨ (5 ≤ f ∧ f < 10 ∧ ¬ (n < nn w ∧ fd w n 0 = 0)) ∨ (5 ≤ f ∧ nn w ≤ n)
theorem sty_c {w w' : Nat → Int32} (h : stc w w') {n f : Nat} (hn : n < 16) (hs : sty w n f) : sty w' n f := by
  unfold sty at *
  rw [stc_nn h, stc_fd h hn (by decide)]
  exact hs
theorem alR_y {M : LW} {w : Nat → Int32} {n f : Nat} (hf : f < 20) (h : f ≠ 10 ∨ nn w ≤ n) : alR M w (10 + 20 * n + f) = w (10 + 20 * n + f) := by
  unfold alR
  split
  · rfl
  next e =>
    have := (wtt_l (w := w) (nn w)).resolve_left e
    exact mvR_o _ (fun t ht => by omega) (by omega)
theorem evS_y {V : LW} {w : Nat → Int32} (h : WI w) {n f : Nat} (hn : n < 16) (hf : f < 20) (hs : sty w n f) : ∀ k, k ≤ nn w → evS V w k (10 + 20 * n + f) = w (10 + 20 * n + f)
  | 0, _ => rfl
  | k + 1, hk => by
    have h1 := evS_wi h (V := V) k (by omega)
    have h2 := evS_y h (V := V) hn hf hs k (by omega)
    have h0 := wi_n h
    unfold evS
    split
    next e =>
      have hne : n = k → ¬ (5 ≤ f ∧ f < 10) := fun e1 e2 => by
        subst e1
        rcases hs with hs | hs | hs | hs | hs
        · omega
        · omega
        · omega
        · exact hs.2.2 ⟨by omega, e⟩
        · omega
      have hnt : ∀ t, t < nn w → n = t → f ≠ 14 ∧ f ≠ 15 := fun t ht e1 => by
        rcases hs with hs | hs | hs | hs | hs <;> omega
      rw [evR_o h1.1 (by omega) (by omega) (fun a ha => by
        by_cases e1 : n = k
        · have := hne e1
          omega
        · omega) fun t ht => by
        rw [stc_nn h1.2] at ht
        by_cases e1 : n = t
        · have := hnt t ht e1
          omega
        · omega, h2]
    · exact h2
theorem flR_y {w : Nat → Int32} (h : WI w) {fl n f : Nat} (hn : n < 16) (hf : f < 20) (hs : sty w n f) : flR w fl (10 + 20 * n + f) = w (10 + 20 * n + f) := by
  have h0 := wi_n h
  unfold flR
  rw [cmw_o (by omega)]
  refine flN_o (by omega) _ fun t ht => ?_
  have : n = t → f ≠ 12 ∧ f ≠ 13 ∧ f ≠ 16 ∧ f ≠ 17 := fun e => by
    rcases hs with hs | hs | hs | hs | hs <;> omega
  by_cases e : n = t
  · have := this e
    omega
  · omega
theorem dyR_y {V M : LW} {w : Nat → Int32} (h : WI w) {fl n f : Nat} (hfl : fl ≤ 1998) (hn : n < 16) (hf : f < 20) (hs : sty w n f) : dyR V M fl w (10 + 20 * n + f) = w (10 + 20 * n + f) := by
  have h1 := flR_wi h hfl
  have s1 := flR_stc h (fl := fl)
  have s2 := ev4_stc h1 (V := V)
  have y1 := sty_c s1 hn hs
  have hN : nn (ev4 V (flR w fl)) = nn w := (stc_nn s2).trans (stc_nn s1)
  unfold dyR
  rw [pu_n (by omega), alR_y hf (by
    rw [hN]
    rcases hs with hs | hs | hs | hs | hs <;> omega)]
  unfold ev4
  rw [pu_n (by omega), evS_y h1 hn hf y1 _ (Nat.le_refl _), flR_y h hn hf hs]
/-- a row of thought -/
def thJ (V M : LW) (w0 w : Nat → Int32) : Prop := thI V M w0 w ∧ ∀ n f, n < 16 → f < 20 → sty w0 n f → w (10 + 20 * n + f) = w0 (10 + 20 * n + f)
theorem thJ_s {V M : LW} {w0 w : Nat → Int32} (h : thJ V M w0 w) : thJ V M w0 (dyR V M (vN w 6) w) :=
  ⟨thI_s h.1, fun n f hn hf hs => by rw [dyR_y h.1.1 (thI_0 h.1).2 hn hf (sty_c h.1.2.2.2.2.1 hn hs), h.2 n f hn hf hs]⟩
theorem thJ_0 {V M : LW} {w : Nat → Int32} (h : WI w) (hV : LK w 0 okV V) (hM : LK w 1 okM M) : thJ V M (th0 w) (th0 w) := ⟨th0_I h hV hM, fun _ _ _ _ _ => rfl⟩
theorem thN_J {V M : LW} {w0 : Nat → Int32} : ∀ (n : Nat) (w : Nat → Int32), thJ V M w0 w → thJ V M w0 (thN V M n w)
  | 0, _, h => h
  | n + 1, _, h => thN_J n _ (thJ_s h)
theorem fd_w {w w' : Nat → Int32} {n f : Nat} (h : w (10 + 20 * n + f) = nI (fd w n f)) (h' : w' (10 + 20 * n + f) = nI (fd w' n f)) (e : fd w n f = fd w' n f) : w (10 + 20 * n + f) = w' (10 + 20 * n + f) := by rw [h, h', e]
/-- alike by their packed numbers -/
theorem alk_pk {V M : LW} {w0 a b : Nat → Int32} (ha : thJ V M w0 a) (hb : thJ V M w0 b) : alk a b = decide (∀ n, n < nn w0 → pkN a n = pkN b n) := by
  have sa := ha.1.2.2.2.2.1
  have sb := hb.1.2.2.2.2.1
  have h0 := wi_n ha.1.1
  rw [stc_nn sa] at h0
  have main : (∀ k, k < 320 → a (10 + k) = b (10 + k)) ↔ ∀ n, n < nn w0 → pkN a n = pkN b n := by
    constructor
    · intro h n hn
      have e : ∀ f, f < 20 → fd a n f = fd b n f := fun f hf => by
        unfold fd vN
        rw [show 10 + 20 * n + f = 10 + (20 * n + f) by omega, h _ (by omega)]
      unfold pkN pkF pkT
      rw [e 0 (by decide), e 5 (by decide), e 6 (by decide), e 7 (by decide), e 8 (by decide), e 9 (by decide), e 10 (by decide), e 12 (by decide), e 13 (by decide), e 14 (by decide), e 15 (by decide), e 16 (by decide), e 17 (by decide)]
    · intro h k hk
      obtain ⟨n, f, hn, hf, rfl⟩ : ∃ n f, n < 16 ∧ f < 20 ∧ k = 20 * n + f := ⟨k / 20, k % 20, by omega, Nat.mod_lt _ (by decide), by omega⟩
      rw [show 10 + (20 * n + f) = 10 + 20 * n + f by omega]
      by_cases f5 : f < 5
      · rw [sa.2 n f hn f5, sb.2 n f hn f5]
      · by_cases hs : sty w0 n f
        · rw [ha.2 n f hn hf hs, hb.2 n f hn hf hs]
        · have hn2 : n < nn w0 := by
            refine Classical.byContradiction fun h1 => hs (Or.inr (Or.inr (Or.inr (Or.inr ⟨by omega, by omega⟩))))
          have hp := h n hn2
          have e0 : fd a n 0 = fd w0 n 0 := stc_fd sa hn (by decide)
          have e0' : fd b n 0 = fd w0 n 0 := stc_fd sb hn (by decide)
          unfold pkN at hp
          rw [e0, e0'] at hp
          obtain ⟨⟨a5, l5⟩, ⟨a6, l6⟩, ⟨a7, l7⟩, ⟨a8, l8⟩, a9, l9⟩ := wi_x ha.1.1 hn
          obtain ⟨⟨b5, m5⟩, ⟨b6, m6⟩, ⟨b7, m7⟩, ⟨b8, m8⟩, b9, m9⟩ := wi_x hb.1.1 hn
          obtain ⟨⟨c0, n0⟩, -, ⟨c2, n2⟩, ⟨c3, n3⟩, ⟨c4, n4⟩, ⟨c5, n5⟩, ⟨c6, n6⟩, c7, n7⟩ := wi_y ha.1.1 hn
          obtain ⟨⟨d0, o0⟩, -, ⟨d2, o2⟩, ⟨d3, o3⟩, ⟨d4, o4⟩, ⟨d5, o5⟩, ⟨d6, o6⟩, d7, o7⟩ := wi_y hb.1.1 hn
          by_cases hz : fd w0 n 0 = 0
          · rw [if_pos hz, if_pos hz] at hp
            unfold pkF at hp
            obtain ⟨p1, q9⟩ := mxr hp (by omega) (by omega)
            obtain ⟨p2, q8⟩ := mxr p1 (by omega) (by omega)
            obtain ⟨p3, q7⟩ := mxr p2 (by omega) (by omega)
            obtain ⟨q6, q5⟩ := mxr p3 (by omega) (by omega)
            have z := (wi_f ha.1.1 hn).2.2.2.2.2.2 (Or.inr (by omega))
            have z' := (wi_f hb.1.1 hn).2.2.2.2.2.2 (Or.inr (by omega))
            have hfs : f = 5 ∨ f = 6 ∨ f = 7 ∨ f = 8 ∨ f = 9 ∨ (10 ≤ f ∧ f < 18) := by
              unfold sty at hs
              omega
            rcases hfs with rfl | rfl | rfl | rfl | rfl | hfs
            · exact fd_w a5 b5 q5
            · exact fd_w a6 b6 q6
            · exact fd_w a7 b7 q7
            · exact fd_w a8 b8 q8
            · exact fd_w a9 b9 q9
            · exact fd_w (NI_eq (wi_f ha.1.1 hn) f hfs.2) (NI_eq (wi_f hb.1.1 hn) f hfs.2) (by rw [z f hfs.1 hfs.2, z' f hfs.1 hfs.2])
          · rw [if_neg hz, if_neg hz] at hp
            unfold pkT at hp
            obtain ⟨p1, q17⟩ := mxr hp (by omega) (by omega)
            obtain ⟨p2, q16⟩ := mxr p1 (by omega) (by omega)
            obtain ⟨p3, q15⟩ := mxr p2 (by omega) (by omega)
            obtain ⟨p4, q14⟩ := mxr p3 (by omega) (by omega)
            obtain ⟨p5, q13⟩ := mxr p4 (by omega) (by omega)
            obtain ⟨q10, q12⟩ := mxr p5 (by omega) (by omega)
            have hfs : f = 10 ∨ f = 12 ∨ f = 13 ∨ f = 14 ∨ f = 15 ∨ f = 16 ∨ f = 17 := by
              refine Classical.byContradiction fun h1 => hs ?_
              by_cases h2 : f < 10
              · exact Or.inr (Or.inr (Or.inr (Or.inl ⟨by omega, h2, fun h => hz h.2⟩)))
              · have : f = 11 ∨ f = 18 ∨ f = 19 := by omega
                rcases this with e | e | e
                · exact Or.inl e
                · exact Or.inr (Or.inl e)
                · exact Or.inr (Or.inr (Or.inl e))
            rcases hfs with rfl | rfl | rfl | rfl | rfl | rfl | rfl
            · exact fd_w c0 d0 q10
            · exact fd_w c2 d2 q12
            · exact fd_w c3 d3 q13
            · exact fd_w c4 d4 q14
            · exact fd_w c5 d5 q15
            · exact fd_w c6 d6 q16
            · exact fd_w c7 d7 q17
  by_cases h : ∀ n, n < nn w0 → pkN a n = pkN b n
  · rw [decide_eq_true h]
    exact alk_i.mpr (main.mpr h)
  · rw [decide_eq_false h]
    refine Bool.eq_false_iff.mpr fun h1 => h (main.mp (alk_i.mp h1))
section CQ
variable {d : Nat} {g : Nat → Nat → Int32} {q : Nat → Nat → Int64} {P : QT} {w : Nat → Int32}
theorem s_begin (hw : WI w) (hc : Tc 1 w g) {V M : LW} (hL : CL 1 g V M) (hx : Tx true 1 w g) (H : ∀ g', (∀ b, (b < 61 ∨ 91 ≤ b) → g' b = g b) → Tc 61 (th0 w) g' → CL 61 g' V M → Tx false 61 (th0 w) g' → P none (E g' q)) :
    callC (ev (d + 4)) th_begin [.ref 182, .ref 1] (E g q) P := by
  refine in_th_begin rfl ?_
  rw [b_th_begin_0]
  simp -implicitDefEqProofs (disch := first | assumption | omega) only [szS_0, szS_i, szS_r, szS_l, x_cons, x_goto, ob_some, kl_i, kl_r, kl_l, kl_n, push_n, push_s, pop_0, pop_i, pop_r, Int.reduceToNat, List.length_cons, List.length_nil, Nat.reduceAdd, Nat.reduceLeDiff, Nat.zero_add, true_and, nI_n0, nat_le, Nat.add_zero, rt_th_begin, x_al0, x_al1, x_call, x_getf, x_iastore, x_ldc, x_vret, fd_182_0, fd_182_1, fd_182_2, fd_182_3, sf_182_3]
  refine s_tcopy (t := 61) (s := 1) (by decide) (by decide) (by decide) fun g1 c1 => ?_
  simp -implicitDefEqProofs (disch := first | assumption | omega) only [szS_0, szS_i, szS_r, szS_l, x_cons, x_goto, ob_some, kl_i, kl_r, kl_l, kl_n, push_n, push_s, pop_0, pop_i, pop_r, Int.reduceToNat, List.length_cons, List.length_nil, Nat.reduceAdd, Nat.reduceLeDiff, Nat.zero_add, true_and, nI_n0, nat_le, Nat.add_zero, rt_th_begin, x_al0, x_al1, x_call, x_getf, x_iastore, x_ldc, x_vret, fd_182_0, fd_182_1, fd_182_2, fd_182_3, sf_182_3, fd_61_0, fd_61_1, fd_61_2, fd_61_3, fd_61_4, fd_67_0, sf_67_0, fd_67_1, sf_67_1, fd_67_2, sf_67_2, fd_67_3, sf_67_3, fd_67_4, sf_67_4, fd_67_5, fd_67_6, fd_67_7, fd_67_8, fd_67_9, fd_67_10, ld_68, sd_68, ln_68, pu_g, pu_w, upw_s, upw_w, pu_s]
  have k1 := Tc_w (w' := th0 w) hw (Tc_cp hw c1 hc) fun k h2 _ _ _ _ => pu_n h2
  have l1 := CL_cp c1 hL
  have x1 := Tx_cp c1 hx
  have b2 := wi_2 hw
  refine H _ (fun b hb => by rw [upw_o (by omega)]; exact c1.1 b hb) (Tc_x k1 (fun a a1 a2 a3 a4 => upw_o (by omega)) (fun k hk => by rw [upw_o (by decide)]) fun k hk => by rw [show 61 + 7 = 68 from rfl, upw_s, pu_n (by omega), pu_n (by omega)]) (CL_c l1 fun a a1 a2 a3 => upw_o (by omega)) ⟨⟨pu_s, vN w 2, b2.2, ?_⟩, ?_, ?_⟩
  · have h1 : g1 (61 + 6) 4 = w 2 := x1.1.1
    rw [upw_o (by decide), h1]
    exact b2.1
  · show upw g1 68 _ 68 2 = nI 0
    rw [upw_s, pu_n (by decide), pu_s]
  · show upw g1 68 _ 68 3 = nI 0
    rw [upw_s, pu_s]
theorem tl_lp {V M : LW} {w0 wE : Nat → Int32} {N t k : Nat} (hN : N < 2147483648) (ht : t < 16) (hk : k < 8) {g0 : Nat → Nat → Int32} (H : ∀ g', fD 61 g0 g' → CL 61 g' V M → P (some (.int (wE (10 + 20 * t + tfd k)))) (E g' q)) :
    ∀ (j i : Nat) (w : Nat → Int32) (g : Nat → Nat → Int32), i + j = N → thN V M j w = wE → thI V M w0 w → fD 61 g0 g → Tc 61 w g → CL 61 g V M → Tx false 61 w g →
    wp (ev (d + 6)) P th_townLater 8 [some (.ref 182), some (.ref 1), some (.int (nI N)), some (.int (nI t)), some (.int (nI k)), some (.int (nI i))] [] (E g q) := by
  intro j
  induction j with
  | zero =>
    intro i w g hi hE hI hf hc hL hx
    have hi : i = N := hi
    have hE : w = wE := hE
    subst hi hE
    have e1 : rld (E g q) 69 (nI k) = some (.ref (70 + k)) := sr_v (s := 67) (by decide) hk
    have e2 : ild (E g q) (70 + k) (nI t) = some (.int (g (70 + k) t)) := sl_v (s := 67) (by decide) hk ht
    have e3 : g (70 + k) t = w (10 + 20 * t + tfd k) := tc_v hc hk ht
    rw [b_th_townLater_8]
    simp -implicitDefEqProofs (disch := first | assumption | omega) only [szS_0, szS_i, szS_r, szS_l, x_cons, x_goto, ob_some, kl_i, kl_r, kl_l, kl_n, push_n, push_s, pop_0, pop_i, pop_r, Int.reduceToNat, List.length_cons, List.length_nil, Nat.reduceAdd, Nat.reduceLeDiff, Nat.zero_add, true_and, nI_n0, nat_le, Nat.add_zero, i_1, rt_th_townLater, x_aaload, x_al0, x_al1, x_call, x_getf, x_goto, x_iaload, x_icge, x_il2, x_il3, x_il4, x_il5, x_inc5, x_iret, x_is5, x_ldc, nI_ltE, Nat.lt_irrefl, ↓reduceIte, b_th_townLater_31, fd_182_0, fd_182_1, fd_182_2, fd_182_3, sf_182_3, fd_61_0, fd_61_1, fd_61_2, fd_61_3, fd_61_4, fd_67_0, sf_67_0, fd_67_1, sf_67_1, fd_67_2, sf_67_2, fd_67_3, sf_67_3, fd_67_4, sf_67_4, fd_67_5, fd_67_6, fd_67_7, fd_67_8, fd_67_9, fd_67_10, e1, e2, e3]
    exact H g hf hL
  | succ j ih =>
    intro i w g hi hE hI hf hc hL hx
    have hi' : i < N := by omega
    rw [b_th_townLater_8]
    simp -implicitDefEqProofs (disch := first | assumption | omega) only [szS_0, szS_i, szS_r, szS_l, x_cons, x_goto, ob_some, kl_i, kl_r, kl_l, kl_n, push_n, push_s, pop_0, pop_i, pop_r, Int.reduceToNat, List.length_cons, List.length_nil, Nat.reduceAdd, Nat.reduceLeDiff, Nat.zero_add, true_and, nI_n0, nat_le, Nat.add_zero, i_1, rt_th_townLater, x_aaload, x_al0, x_al1, x_call, x_getf, x_goto, x_iaload, x_icge, x_il2, x_il3, x_il4, x_il5, x_inc5, x_iret, x_is5, x_ldc, nI_ltE, hi', ↓reduceIte, fd_182_0, fd_182_1, fd_182_2, fd_182_3, sf_182_3]
    refine s_passDay (t := 61) (by decide) hI.1 hc hL hx fun g1 f1 c1 l1 x1 => ?_
    simp -implicitDefEqProofs (disch := first | assumption | omega) only [szS_0, szS_i, szS_r, szS_l, x_cons, x_goto, ob_some, kl_i, kl_r, kl_l, kl_n, push_n, push_s, pop_0, pop_i, pop_r, Int.reduceToNat, List.length_cons, List.length_nil, Nat.reduceAdd, Nat.reduceLeDiff, Nat.zero_add, true_and, nI_n0, nat_le, Nat.add_zero, i_1, rt_th_townLater, x_aaload, x_al0, x_al1, x_call, x_getf, x_goto, x_iaload, x_icge, x_il2, x_il3, x_il4, x_il5, x_inc5, x_iret, x_is5, x_ldc, nI_add]
    exact ih (i + 1) (dyR V M (vN w 6) w) g1 (by omega) hE (thI_s hI) (fun b h1 h2 => by rw [f1 b h1 h2, hf b h1 h2]) c1 l1 x1
theorem s_townLater (hw : WI w) (hc : Tc 1 w g) {V M : LW} (hL : CL 1 g V M) (hV : LK w 0 okV V) (hM : LK w 1 okM M) (hx : Tx true 1 w g) {n t k : Nat} (hn : n < 2147483648) (ht : t < 16) (hk : k < 8) (H : ∀ g', fD 61 g g' → CL 61 g' V M → P (some (.int (thN V M n (th0 w) (10 + 20 * t + tfd k)))) (E g' q)) :
    callC (ev (d + 7)) th_townLater [.ref 182, .ref 1, .int (nI n), .int (nI t), .int (nI k)] (E g q) P := by
  refine in_th_townLater rfl ?_
  rw [b_th_townLater_0]
  simp -implicitDefEqProofs (disch := first | assumption | omega) only [szS_0, szS_i, szS_r, szS_l, x_cons, x_goto, ob_some, kl_i, kl_r, kl_l, kl_n, push_n, push_s, pop_0, pop_i, pop_r, Int.reduceToNat, List.length_cons, List.length_nil, Nat.reduceAdd, Nat.reduceLeDiff, Nat.zero_add, true_and, nI_n0, nat_le, Nat.add_zero, i_1, rt_th_townLater, x_aaload, x_al0, x_al1, x_call, x_getf, x_goto, x_iaload, x_icge, x_il2, x_il3, x_il4, x_il5, x_inc5, x_iret, x_is5, x_ldc]
  refine s_begin hw hc hL hx fun g1 f1 c1 l1 x1 => ?_
  simp -implicitDefEqProofs (disch := first | assumption | omega) only [szS_0, szS_i, szS_r, szS_l, x_cons, x_goto, ob_some, kl_i, kl_r, kl_l, kl_n, push_n, push_s, pop_0, pop_i, pop_r, Int.reduceToNat, List.length_cons, List.length_nil, Nat.reduceAdd, Nat.reduceLeDiff, Nat.zero_add, true_and, nI_n0, nat_le, Nat.add_zero, i_1, rt_th_townLater, x_aaload, x_al0, x_al1, x_call, x_getf, x_goto, x_iaload, x_icge, x_il2, x_il3, x_il4, x_il5, x_inc5, x_iret, x_is5, x_ldc]
  exact tl_lp (w0 := th0 w) hn ht hk (g0 := g1) (fun g2 f2 l2 => H g2 (fun b h1 h2 => by rw [f2 b h1 h2, f1 b h2]) l2) n 0 (th0 w) g1 (Nat.zero_add _) rfl (th0_I hw hV hM) (fun _ _ _ => rfl) c1 l1 x1
theorem ft_lp {V M : LW} {w0 : Nat → Int32} {t : Nat} (ht : t < 16) {A : Int32} {g0 : Nat → Nat → Int32} (H : ∀ g', fD 61 g0 g' → CL 61 g' V M → P (some (.int A)) (E g' q)) :
    ∀ (j n : Nat) (w : Nat → Int32) (g : Nat → Nat → Int32), n + j = 100 → thr V M t j n w = A → thI V M w0 w → fD 61 g0 g → Tc 61 w g → CL 61 g V M → Tx false 61 w g →
    wp (ev (d + 6)) P th_firstThirst 7 [some (.ref 182), some (.ref 1), some (.int (nI t)), some (.int (nI (n + 1)))] [] (E g q) := by
  intro j
  induction j with
  | zero =>
    intro n w g hn hA hI hf hc hL hx
    have hn : n = 100 := hn
    have hA : (-1 : Int32) = A := hA
    subst hn hA
    have h1 : (nI 100 < nI (100 + 1)) = True := eq_true (by decide)
    rw [b_th_firstThirst_7]
    simp -implicitDefEqProofs (disch := first | assumption | omega) only [szS_0, szS_i, szS_r, szS_l, x_cons, x_goto, ob_some, kl_i, kl_r, kl_l, kl_n, push_n, push_s, pop_0, pop_i, pop_r, Int.reduceToNat, List.length_cons, List.length_nil, Nat.reduceAdd, Nat.reduceLeDiff, Nat.zero_add, true_and, nI_n0, nat_le, Nat.add_zero, i_1, rt_th_firstThirst, x_aaload, x_al0, x_al1, x_call, x_getf, x_goto, x_iaload, x_icgt, x_ifne, x_il2, x_il3, x_inc3, x_iret, x_is3, x_ldc, x_m1, h1, ↓reduceIte, b_th_firstThirst_50]
    exact H g hf hL
  | succ j ih =>
    intro n w g hn hA hI hf hc hL hx
    have hn' : ¬ 100 < n + 1 := by omega
    have hA : (if fd (dyR V M (vN w 6) w) t 17 = 1 then thr V M t j (n + 1) (dyR V M (vN w 6) w) else nI (n + 1)) = A := hA
    rw [b_th_firstThirst_7]
    simp -implicitDefEqProofs (disch := first | assumption | omega) only [szS_0, szS_i, szS_r, szS_l, x_cons, x_goto, ob_some, kl_i, kl_r, kl_l, kl_n, push_n, push_s, pop_0, pop_i, pop_r, Int.reduceToNat, List.length_cons, List.length_nil, Nat.reduceAdd, Nat.reduceLeDiff, Nat.zero_add, true_and, nI_n0, nat_le, Nat.add_zero, i_1, rt_th_firstThirst, x_aaload, x_al0, x_al1, x_call, x_getf, x_goto, x_iaload, x_icgt, x_ifne, x_il2, x_il3, x_inc3, x_iret, x_is3, x_ldc, x_m1, nI_ltE, hn', ↓reduceIte, fd_182_0, fd_182_1, fd_182_2, fd_182_3, sf_182_3]
    refine s_passDay (t := 61) (by decide) hI.1 hc hL hx fun g1 f1 c1 l1 x1 => ?_
    have hI1 := thI_s hI
    have h17 := (wi_y hI1.1 ht).2.2.2.2.2.2.2
    have c1 : Tc 61 (dyR V M (vN w 6) w) g1 := c1
    have e3 : g1 77 t = nI (fd (dyR V M (vN w 6) w) t 17) := (tc_t c1 ht).2.2.2.2.2.2.2.trans h17.1
    have hf1 : fD 61 g0 g1 := fun b h1 h2 => by rw [f1 b h1 h2, hf b h1 h2]
    simp -implicitDefEqProofs (disch := first | assumption | omega) only [szS_0, szS_i, szS_r, szS_l, x_cons, x_goto, ob_some, kl_i, kl_r, kl_l, kl_n, push_n, push_s, pop_0, pop_i, pop_r, Int.reduceToNat, List.length_cons, List.length_nil, Nat.reduceAdd, Nat.reduceLeDiff, Nat.zero_add, true_and, nI_n0, nat_le, Nat.add_zero, i_1, rt_th_firstThirst, x_aaload, x_al0, x_al1, x_call, x_getf, x_goto, x_iaload, x_icgt, x_ifne, x_il2, x_il3, x_inc3, x_iret, x_is3, x_ldc, x_m1, fd_182_0, fd_182_1, fd_182_2, fd_182_3, sf_182_3, fd_61_0, fd_61_1, fd_61_2, fd_61_3, fd_61_4, fd_67_0, sf_67_0, fd_67_1, sf_67_1, fd_67_2, sf_67_2, fd_67_3, sf_67_3, fd_67_4, sf_67_4, fd_67_5, fd_67_6, fd_67_7, fd_67_8, fd_67_9, fd_67_10, ld_69_0, ld_69_1, ld_69_2, ld_69_3, ld_69_4, ld_69_5, ld_69_6, ld_69_7, ld_77, sd_77, ln_77, e3, nI_eqE]
    by_cases h0 : fd (dyR V M (vN w 6) w) t 17 = 0
    · rw [if_pos h0]
      rw [if_neg (by omega)] at hA
      try simp -implicitDefEqProofs (disch := first | assumption | omega) only [szS_0, szS_i, szS_r, szS_l, x_cons, x_goto, ob_some, kl_i, kl_r, kl_l, kl_n, push_n, push_s, pop_0, pop_i, pop_r, Int.reduceToNat, List.length_cons, List.length_nil, Nat.reduceAdd, Nat.reduceLeDiff, Nat.zero_add, true_and, nI_n0, nat_le, Nat.add_zero, i_1, rt_th_firstThirst, x_aaload, x_al0, x_al1, x_call, x_getf, x_goto, x_iaload, x_icgt, x_ifne, x_il2, x_il3, x_inc3, x_iret, x_is3, x_ldc, x_m1]
      rw [hA]
      exact H g1 hf1 l1
    · rw [if_neg h0]
      rw [if_pos (by omega)] at hA
      try simp -implicitDefEqProofs (disch := first | assumption | omega) only [szS_0, szS_i, szS_r, szS_l, x_cons, x_goto, ob_some, kl_i, kl_r, kl_l, kl_n, push_n, push_s, pop_0, pop_i, pop_r, Int.reduceToNat, List.length_cons, List.length_nil, Nat.reduceAdd, Nat.reduceLeDiff, Nat.zero_add, true_and, nI_n0, nat_le, Nat.add_zero, i_1, rt_th_firstThirst, x_aaload, x_al0, x_al1, x_call, x_getf, x_goto, x_iaload, x_icgt, x_ifne, x_il2, x_il3, x_inc3, x_iret, x_is3, x_ldc, x_m1, b_th_firstThirst_44, nI_add]
      exact ih (n + 1) _ g1 (by omega) hA hI1 hf1 c1 l1 x1
theorem s_firstThirst (hw : WI w) (hc : Tc 1 w g) {V M : LW} (hL : CL 1 g V M) (hV : LK w 0 okV V) (hM : LK w 1 okM M) (hx : Tx true 1 w g) {t : Nat} (ht : t < 16) (H : ∀ g', fD 61 g g' → CL 61 g' V M → P (some (.int (thr V M t 100 0 (th0 w)))) (E g' q)) :
    callC (ev (d + 7)) th_firstThirst [.ref 182, .ref 1, .int (nI t)] (E g q) P := by
  refine in_th_firstThirst rfl ?_
  rw [b_th_firstThirst_0]
  simp -implicitDefEqProofs (disch := first | assumption | omega) only [szS_0, szS_i, szS_r, szS_l, x_cons, x_goto, ob_some, kl_i, kl_r, kl_l, kl_n, push_n, push_s, pop_0, pop_i, pop_r, Int.reduceToNat, List.length_cons, List.length_nil, Nat.reduceAdd, Nat.reduceLeDiff, Nat.zero_add, true_and, nI_n0, nat_le, Nat.add_zero, i_1, rt_th_firstThirst, x_aaload, x_al0, x_al1, x_call, x_getf, x_goto, x_iaload, x_icgt, x_ifne, x_il2, x_il3, x_inc3, x_iret, x_is3, x_ldc, x_m1]
  refine s_begin hw hc hL hx fun g1 f1 c1 l1 x1 => ?_
  simp -implicitDefEqProofs (disch := first | assumption | omega) only [szS_0, szS_i, szS_r, szS_l, x_cons, x_goto, ob_some, kl_i, kl_r, kl_l, kl_n, push_n, push_s, pop_0, pop_i, pop_r, Int.reduceToNat, List.length_cons, List.length_nil, Nat.reduceAdd, Nat.reduceLeDiff, Nat.zero_add, true_and, nI_n0, nat_le, Nat.add_zero, i_1, rt_th_firstThirst, x_aaload, x_al0, x_al1, x_call, x_getf, x_goto, x_iaload, x_icgt, x_ifne, x_il2, x_il3, x_inc3, x_iret, x_is3, x_ldc, x_m1]
  exact ft_lp (w0 := th0 w) ht (g0 := g1) (A := thr V M t 100 0 (th0 w)) (fun g2 f2 l2 => H g2 (fun b h1 h2 => by rw [f2 b h1 h2, f1 b h2]) l2) 100 0 (th0 w) g1 rfl rfl (th0_I hw hV hM) (fun _ _ _ => rfl) c1 l1 x1
theorem s_packedFork (hw : WI w) (hc : Tc 61 w g) {n : Nat} (hn : n < nn w) (hs : fd w n 0 = 0) : callC (ev (d + 1)) th_packedFork [.ref 182, .int (nI n)] (E g q) P = P (some (.long (lN (pkF w n)))) (E g q) := by
  refine call_eq (in_th_packedFork rfl ?_)
  have h0 := wi_n hw
  have hn16 : n < 16 := by omega
  obtain ⟨⟨a5, l5⟩, ⟨a6, l6⟩, ⟨a7, l7⟩, ⟨a8, l8⟩, a9, l9⟩ := wi_x hw hn16
  obtain ⟨t5, t6, t7⟩ := tc_f hc hn hs
  have e5 : g 78 n = nI (fd w n 5) := t5.trans a5
  have e6 : g 79 n = nI (fd w n 6) := t6.trans a6
  have e7 : g 80 (n * 3 + 0) = nI (fd w n 7) := (t7 0 (by decide)).trans a7
  have e8 : g 80 (n * 3 + 1) = nI (fd w n 8) := (t7 1 (by decide)).trans a8
  have e9 : g 80 (n * 3 + 2) = nI (fd w n 9) := (t7 2 (by decide)).trans a9
  have c0 : (nI 0 < nI 3) = True := eq_true (by decide)
  have c1 : (nI 1 < nI 3) = True := eq_true (by decide)
  have c2 : (nI 2 < nI 3) = True := eq_true (by decide)
  have c3 : (nI 3 < nI 3) = False := eq_false (by decide)
  rw [Nat.add_zero] at e7
  rw [b_th_packedFork_0]
  simp -implicitDefEqProofs (disch := first | assumption | omega) only [szS_0, szS_i, szS_r, szS_l, x_cons, x_goto, ob_some, kl_i, kl_r, kl_l, kl_n, push_n, push_s, pop_0, pop_i, pop_r, Int.reduceToNat, List.length_cons, List.length_nil, Nat.reduceAdd, Nat.reduceLeDiff, Nat.zero_add, true_and, nI_n0, nat_le, Nat.add_zero, i_1, rt_th_packedFork, x_al0, x_al2, x_as2, x_getf, x_goto, x_i2l, x_iadd, x_iaload, x_icge, x_il1, x_il5, x_imul, x_inc5, x_is5, x_ladd, x_ldc, x_ldc2, x_ll3, x_lmul, x_lret, x_ls3, fd_182_0, fd_182_1, fd_182_2, fd_182_3, sf_182_3, fd_61_0, fd_61_1, fd_61_2, fd_61_3, fd_61_4, fd_67_0, sf_67_0, fd_67_1, sf_67_1, fd_67_2, sf_67_2, fd_67_3, sf_67_3, fd_67_4, sf_67_4, fd_67_5, fd_67_6, fd_67_7, fd_67_8, fd_67_9, fd_67_10, ld_78, sd_78, ln_78, ld_79, sd_79, ln_79, e5, e6, nI_mul, nI_add, nI_l]
  rw [b_th_packedFork_29]
  simp -implicitDefEqProofs (disch := first | assumption | omega) only [szS_0, szS_i, szS_r, szS_l, x_cons, x_goto, ob_some, kl_i, kl_r, kl_l, kl_n, push_n, push_s, pop_0, pop_i, pop_r, Int.reduceToNat, List.length_cons, List.length_nil, Nat.reduceAdd, Nat.reduceLeDiff, Nat.zero_add, true_and, nI_n0, nat_le, Nat.add_zero, i_1, rt_th_packedFork, x_al0, x_al2, x_as2, x_getf, x_goto, x_i2l, x_iadd, x_iaload, x_icge, x_il1, x_il5, x_imul, x_inc5, x_is5, x_ladd, x_ldc, x_ldc2, x_ll3, x_lmul, x_lret, x_ls3, fd_67_0, sf_67_0, fd_67_1, sf_67_1, fd_67_2, sf_67_2, fd_67_3, sf_67_3, fd_67_4, sf_67_4, fd_67_5, fd_67_6, fd_67_7, fd_67_8, fd_67_9, fd_67_10, ld_80, sd_80, ln_80, c0, ↓reduceIte, nI_mul, nI_add, e7, nI_l, lN_mul, lN_add]
  rw [b_th_packedFork_29]
  simp -implicitDefEqProofs (disch := first | assumption | omega) only [szS_0, szS_i, szS_r, szS_l, x_cons, x_goto, ob_some, kl_i, kl_r, kl_l, kl_n, push_n, push_s, pop_0, pop_i, pop_r, Int.reduceToNat, List.length_cons, List.length_nil, Nat.reduceAdd, Nat.reduceLeDiff, Nat.zero_add, true_and, nI_n0, nat_le, Nat.add_zero, i_1, rt_th_packedFork, x_al0, x_al2, x_as2, x_getf, x_goto, x_i2l, x_iadd, x_iaload, x_icge, x_il1, x_il5, x_imul, x_inc5, x_is5, x_ladd, x_ldc, x_ldc2, x_ll3, x_lmul, x_lret, x_ls3, fd_67_0, sf_67_0, fd_67_1, sf_67_1, fd_67_2, sf_67_2, fd_67_3, sf_67_3, fd_67_4, sf_67_4, fd_67_5, fd_67_6, fd_67_7, fd_67_8, fd_67_9, fd_67_10, ld_80, sd_80, ln_80, c1, ↓reduceIte, nI_mul, nI_add, e8, nI_l, lN_mul, lN_add]
  rw [b_th_packedFork_29]
  simp -implicitDefEqProofs (disch := first | assumption | omega) only [szS_0, szS_i, szS_r, szS_l, x_cons, x_goto, ob_some, kl_i, kl_r, kl_l, kl_n, push_n, push_s, pop_0, pop_i, pop_r, Int.reduceToNat, List.length_cons, List.length_nil, Nat.reduceAdd, Nat.reduceLeDiff, Nat.zero_add, true_and, nI_n0, nat_le, Nat.add_zero, i_1, rt_th_packedFork, x_al0, x_al2, x_as2, x_getf, x_goto, x_i2l, x_iadd, x_iaload, x_icge, x_il1, x_il5, x_imul, x_inc5, x_is5, x_ladd, x_ldc, x_ldc2, x_ll3, x_lmul, x_lret, x_ls3, fd_67_0, sf_67_0, fd_67_1, sf_67_1, fd_67_2, sf_67_2, fd_67_3, sf_67_3, fd_67_4, sf_67_4, fd_67_5, fd_67_6, fd_67_7, fd_67_8, fd_67_9, fd_67_10, ld_80, sd_80, ln_80, c2, ↓reduceIte, nI_mul, nI_add, e9, nI_l, lN_mul, lN_add]
  rw [b_th_packedFork_29]
  simp -implicitDefEqProofs (disch := first | assumption | omega) only [szS_0, szS_i, szS_r, szS_l, x_cons, x_goto, ob_some, kl_i, kl_r, kl_l, kl_n, push_n, push_s, pop_0, pop_i, pop_r, Int.reduceToNat, List.length_cons, List.length_nil, Nat.reduceAdd, Nat.reduceLeDiff, Nat.zero_add, true_and, nI_n0, nat_le, Nat.add_zero, i_1, rt_th_packedFork, x_al0, x_al2, x_as2, x_getf, x_goto, x_i2l, x_iadd, x_iaload, x_icge, x_il1, x_il5, x_imul, x_inc5, x_is5, x_ladd, x_ldc, x_ldc2, x_ll3, x_lmul, x_lret, x_ls3, c3, ↓reduceIte, b_th_packedFork_60]
  all_goals first | rfl | exact ⟨rfl, rfl⟩ | exact ⟨rfl, trivial⟩ | exact ⟨trivial, rfl⟩ | trivial
theorem s_packedTown (hw : WI w) (hc : Tc 61 w g) {n : Nat} (hn16 : n < 16) : callC (ev (d + 1)) th_packedTown [.ref 182, .int (nI n)] (E g q) P = P (some (.long (lN (pkT w n)))) (E g q) := by
  refine call_eq (in_th_packedTown rfl ?_)
  obtain ⟨⟨c0, n0⟩, -, ⟨c2, n2⟩, ⟨c3, n3⟩, ⟨c4, n4⟩, ⟨c5, n5⟩, ⟨c6, n6⟩, c7, n7⟩ := wi_y hw hn16
  obtain ⟨t0, -, t5, t6, t2, t3, t4, t7⟩ := tc_t hc hn16
  have e0 : g 70 n = nI (fd w n 10) := t0.trans c0
  have e2 : g 74 n = nI (fd w n 12) := t2.trans c2
  have e3 : g 75 n = nI (fd w n 13) := t3.trans c3
  have e4 : g 76 n = nI (fd w n 14) := t4.trans c4
  have e5 : g 72 n = nI (fd w n 15) := t5.trans c5
  have e6 : g 73 n = nI (fd w n 16) := t6.trans c6
  have e7 : g 77 n = nI (fd w n 17) := t7.trans c7
  rw [b_th_packedTown_0]
  simp -implicitDefEqProofs (disch := first | assumption | omega) only [szS_0, szS_i, szS_r, szS_l, x_cons, x_goto, ob_some, kl_i, kl_r, kl_l, kl_n, push_n, push_s, pop_0, pop_i, pop_r, Int.reduceToNat, List.length_cons, List.length_nil, Nat.reduceAdd, Nat.reduceLeDiff, Nat.zero_add, true_and, nI_n0, nat_le, Nat.add_zero, rt_th_packedTown, x_aaload, x_al0, x_al2, x_as2, x_getf, x_i2l, x_iaload, x_il1, x_ladd, x_ldc, x_ldc2, x_ll3, x_lmul, x_lret, x_ls3, fd_182_0, fd_182_1, fd_182_2, fd_182_3, sf_182_3, fd_61_0, fd_61_1, fd_61_2, fd_61_3, fd_61_4, fd_67_0, sf_67_0, fd_67_1, sf_67_1, fd_67_2, sf_67_2, fd_67_3, sf_67_3, fd_67_4, sf_67_4, fd_67_5, fd_67_6, fd_67_7, fd_67_8, fd_67_9, fd_67_10, ld_69_0, ld_69_1, ld_69_2, ld_69_3, ld_69_4, ld_69_5, ld_69_6, ld_69_7, ld_70, sd_70, ln_70, ld_72, sd_72, ln_72, ld_73, sd_73, ln_73, ld_74, sd_74, ln_74, ld_75, sd_75, ln_75, ld_76, sd_76, ln_76, ld_77, sd_77, ln_77, e0, e2, e3, e4, e5, e6, e7, nI_l, lN_mul, lN_add]
  all_goals first | rfl | exact ⟨rfl, rfl⟩ | exact ⟨rfl, trivial⟩ | exact ⟨trivial, rfl⟩ | trivial
theorem nt_lp (hw : WI w) (hc : Tc 61 w g) {day : Nat} (hd : day ≤ 200) (H : ∀ q', (∀ k, (k < day * 16 ∨ day * 16 + 16 ≤ k) → q' 183 k = q 183 k) → (∀ n, n < nn w → q' 183 (day * 16 + n) = lN (pkN w n)) → P none (E g q')) :
    ∀ (j n : Nat) (q1 : Nat → Nat → Int64), n + j = nn w → (∀ k, (k < day * 16 ∨ day * 16 + 16 ≤ k) → q1 183 k = q 183 k) → (∀ m, m < n → q1 183 (day * 16 + m) = lN (pkN w m)) →
    wp (ev (d + 1)) P th_note 2 [some (.ref 182), some (.int (nI day)), some (.int (nI n))] [] (E g q1) := by
  have h0 := wi_n hw
  have e1 : g 62 0 = nI (nn w) := (tc_n hc).trans h0.1
  intro j
  induction j with
  | zero =>
    intro n q1 hn h1 h2
    have hn : n = nn w := hn
    rw [b_th_note_2]
    simp -implicitDefEqProofs (disch := first | assumption | omega) only [szS_0, szS_i, szS_r, szS_l, x_cons, x_goto, ob_some, kl_i, kl_r, kl_l, kl_n, push_n, push_s, pop_0, pop_i, pop_r, Int.reduceToNat, List.length_cons, List.length_nil, Nat.reduceAdd, Nat.reduceLeDiff, Nat.zero_add, true_and, nI_n0, nat_le, Nat.add_zero, i_1, rt_th_note, x_al0, x_call, x_getf, x_goto, x_iadd, x_iaload, x_icge, x_ifne, x_il1, x_il2, x_imul, x_inc2, x_is2, x_lastore, x_ldc, x_vret, fd_182_0, fd_182_1, fd_182_2, fd_182_3, sf_182_3, fd_61_0, fd_61_1, fd_61_2, fd_61_3, fd_61_4, fd_62_0, sf_62_0, fd_62_1, fd_62_2, fd_62_3, fd_62_4, e1, hn, nI_ltE, Nat.lt_irrefl, ↓reduceIte, b_th_note_61]
    exact H q1 h1 (by rw [← hn]; exact h2)
  | succ j ih =>
    intro n q1 hn h1 h2
    have hn' : n < nn w := by omega
    have hn16 : n < 16 := by omega
    have hz := wi_0 hw hn16
    have e2 : g 63 n = nI (fd w n 0) := (tc_so hc hn16).trans hz.1
    have go : ∀ v, v = lN (pkN w n) → wp (ev (d + 1)) P th_note 54 [some (.ref 182), some (.int (nI day)), some (.int (nI n))] [.long v, .int (nI (day * 16 + n)), .ref 183] (E g q1) := by
      intro v hv
      rw [b_th_note_54]
      simp -implicitDefEqProofs (disch := first | assumption | omega) only [szS_0, szS_i, szS_r, szS_l, x_cons, x_goto, ob_some, kl_i, kl_r, kl_l, kl_n, push_n, push_s, pop_0, pop_i, pop_r, Int.reduceToNat, List.length_cons, List.length_nil, Nat.reduceAdd, Nat.reduceLeDiff, Nat.zero_add, true_and, nI_n0, nat_le, Nat.add_zero, i_1, rt_th_note, x_al0, x_call, x_getf, x_goto, x_iadd, x_iaload, x_icge, x_ifne, x_il1, x_il2, x_imul, x_inc2, x_is2, x_lastore, x_ldc, x_vret, ld_183, sd_183, nI_add]
      refine ih (n + 1) _ (by omega) (fun k hk => by rw [up2_n (by omega)]; exact h1 k hk) fun m hm => ?_
      by_cases e : m = n
      · rw [e, up2_s, hv]
      · rw [up2_n (by omega)]
        exact h2 m (by omega)
    rw [b_th_note_2]
    simp -implicitDefEqProofs (disch := first | assumption | omega) only [szS_0, szS_i, szS_r, szS_l, x_cons, x_goto, ob_some, kl_i, kl_r, kl_l, kl_n, push_n, push_s, pop_0, pop_i, pop_r, Int.reduceToNat, List.length_cons, List.length_nil, Nat.reduceAdd, Nat.reduceLeDiff, Nat.zero_add, true_and, nI_n0, nat_le, Nat.add_zero, i_1, rt_th_note, x_al0, x_call, x_getf, x_goto, x_iadd, x_iaload, x_icge, x_ifne, x_il1, x_il2, x_imul, x_inc2, x_is2, x_lastore, x_ldc, x_vret, fd_182_0, fd_182_1, fd_182_2, fd_182_3, sf_182_3, fd_61_0, fd_61_1, fd_61_2, fd_61_3, fd_61_4, fd_62_0, sf_62_0, fd_62_1, fd_62_2, fd_62_3, fd_62_4, ld_63, sd_63, ln_63, e1, e2, hn', nI_ltE, ↓reduceIte, nI_mul, nI_add, nI_eqE]
    by_cases hs : fd w n 0 = 0
    · rw [if_pos hs]
      try simp -implicitDefEqProofs (disch := first | assumption | omega) only [szS_0, szS_i, szS_r, szS_l, x_cons, x_goto, ob_some, kl_i, kl_r, kl_l, kl_n, push_n, push_s, pop_0, pop_i, pop_r, Int.reduceToNat, List.length_cons, List.length_nil, Nat.reduceAdd, Nat.reduceLeDiff, Nat.zero_add, true_and, nI_n0, nat_le, Nat.add_zero, i_1, rt_th_note, x_al0, x_call, x_getf, x_goto, x_iadd, x_iaload, x_icge, x_ifne, x_il1, x_il2, x_imul, x_inc2, x_is2, x_lastore, x_ldc, x_vret]
      rw [s_packedFork hw hc hn' hs]
      try simp -implicitDefEqProofs (disch := first | assumption | omega) only [szS_0, szS_i, szS_r, szS_l, x_cons, x_goto, ob_some, kl_i, kl_r, kl_l, kl_n, push_n, push_s, pop_0, pop_i, pop_r, Int.reduceToNat, List.length_cons, List.length_nil, Nat.reduceAdd, Nat.reduceLeDiff, Nat.zero_add, true_and, nI_n0, nat_le, Nat.add_zero, i_1, rt_th_note, x_al0, x_call, x_getf, x_goto, x_iadd, x_iaload, x_icge, x_ifne, x_il1, x_il2, x_imul, x_inc2, x_is2, x_lastore, x_ldc, x_vret]
      exact go _ (by unfold pkN; rw [if_pos hs])
    · rw [if_neg hs]
      try simp -implicitDefEqProofs (disch := first | assumption | omega) only [b_th_note_49, szS_0, szS_i, szS_r, szS_l, x_cons, x_goto, ob_some, kl_i, kl_r, kl_l, kl_n, push_n, push_s, pop_0, pop_i, pop_r, Int.reduceToNat, List.length_cons, List.length_nil, Nat.reduceAdd, Nat.reduceLeDiff, Nat.zero_add, true_and, nI_n0, nat_le, Nat.add_zero, i_1, rt_th_note, x_al0, x_call, x_getf, x_goto, x_iadd, x_iaload, x_icge, x_ifne, x_il1, x_il2, x_imul, x_inc2, x_is2, x_lastore, x_ldc, x_vret]
      rw [s_packedTown hw hc hn16]
      try simp -implicitDefEqProofs (disch := first | assumption | omega) only [szS_0, szS_i, szS_r, szS_l, x_cons, x_goto, ob_some, kl_i, kl_r, kl_l, kl_n, push_n, push_s, pop_0, pop_i, pop_r, Int.reduceToNat, List.length_cons, List.length_nil, Nat.reduceAdd, Nat.reduceLeDiff, Nat.zero_add, true_and, nI_n0, nat_le, Nat.add_zero, i_1, rt_th_note, x_al0, x_call, x_getf, x_goto, x_iadd, x_iaload, x_icge, x_ifne, x_il1, x_il2, x_imul, x_inc2, x_is2, x_lastore, x_ldc, x_vret]
      exact go _ (by unfold pkN; rw [if_neg hs])
theorem s_note (hw : WI w) (hc : Tc 61 w g) {day : Nat} (hd : day ≤ 200) (H : ∀ q', (∀ k, (k < day * 16 ∨ day * 16 + 16 ≤ k) → q' 183 k = q 183 k) → (∀ n, n < nn w → q' 183 (day * 16 + n) = lN (pkN w n)) → P none (E g q')) :
    callC (ev (d + 2)) th_note [.ref 182, .int (nI day)] (E g q) P := by
  refine in_th_note rfl ?_
  rw [b_th_note_0]
  simp -implicitDefEqProofs (disch := first | assumption | omega) only [szS_0, szS_i, szS_r, szS_l, x_cons, x_goto, ob_some, kl_i, kl_r, kl_l, kl_n, push_n, push_s, pop_0, pop_i, pop_r, Int.reduceToNat, List.length_cons, List.length_nil, Nat.reduceAdd, Nat.reduceLeDiff, Nat.zero_add, true_and, nI_n0, nat_le, Nat.add_zero, i_1, rt_th_note, x_al0, x_call, x_getf, x_goto, x_iadd, x_iaload, x_icge, x_ifne, x_il1, x_il2, x_imul, x_inc2, x_is2, x_lastore, x_ldc, x_vret]
  exact nt_lp hw hc hd H (nn w) 0 q (Nat.zero_add _) (fun _ _ => rfl) fun m hm => absurd hm (Nat.not_lt_zero m)
theorem is_lp {a b : Nat} (ha : a ≤ 200) (hb : b ≤ 200) {N : Nat} (hN : N ≤ 16) (e1 : g 62 0 = nI N) {A B : Nat → Nat} (hA : ∀ n, n < N → q 183 (a * 16 + n) = lN (A n) ∧ A n < 2 ^ 63) (hB : ∀ n, n < N → q 183 (b * 16 + n) = lN (B n) ∧ B n < 2 ^ 63) {X : Int32} (hX : X = nI 0 ∨ X = nI 1) (H : P (some (.int X)) (E g q)) : ∀ (j n : Nat), n + j = N → (X = nI 1 ∧ ∀ k, n ≤ k → k < N → A k = B k) ∨ (X = nI 0 ∧ ¬ ∀ k, n ≤ k → k < N → A k = B k) →
    wp (ev d) P th_isSame 2 [some (.ref 182), some (.int (nI a)), some (.int (nI b)), some (.int (nI n))] [] (E g q) := by
  intro j
  induction j with
  | zero =>
    intro n hn hX
    have hn : n = N := hn
    subst hn
    rw [b_th_isSame_2]
    simp -implicitDefEqProofs (disch := first | assumption | omega) only [szS_0, szS_i, szS_r, szS_l, x_cons, x_goto, ob_some, kl_i, kl_r, kl_l, kl_n, push_n, push_s, pop_0, pop_i, pop_r, Int.reduceToNat, List.length_cons, List.length_nil, Nat.reduceAdd, Nat.reduceLeDiff, Nat.zero_add, true_and, nI_n0, nat_le, Nat.add_zero, i_1, rt_th_isSame_0, rt_th_isSame_1, rt_th_isSame_b, x_al0, x_getf, x_goto, x_iadd, x_icge, x_ifeq, x_il1, x_il2, x_il3, x_imul, x_inc3, x_iret, x_is3, x_laload, x_lcmp, x_ldc, fd_182_0, fd_182_1, fd_182_2, fd_182_3, sf_182_3, fd_61_0, fd_61_1, fd_61_2, fd_61_3, fd_61_4, fd_62_0, sf_62_0, fd_62_1, fd_62_2, fd_62_3, fd_62_4, e1, nI_ltE, Nat.lt_irrefl, ↓reduceIte, b_th_isSame_50]
    rcases hX with h | h
    · rw [h.1] at H
      exact H
    · exact absurd (fun k h1 h2 => absurd h2 (by omega)) h.2
  | succ j ih =>
    intro n hn hX
    have hn' : n < N := by omega
    have eA := hA n hn'
    have eB := hB n hn'
    rw [b_th_isSame_2]
    simp -implicitDefEqProofs (disch := first | assumption | omega) only [szS_0, szS_i, szS_r, szS_l, x_cons, x_goto, ob_some, kl_i, kl_r, kl_l, kl_n, push_n, push_s, pop_0, pop_i, pop_r, Int.reduceToNat, List.length_cons, List.length_nil, Nat.reduceAdd, Nat.reduceLeDiff, Nat.zero_add, true_and, nI_n0, nat_le, Nat.add_zero, i_1, rt_th_isSame_0, rt_th_isSame_1, rt_th_isSame_b, x_al0, x_getf, x_goto, x_iadd, x_icge, x_ifeq, x_il1, x_il2, x_il3, x_imul, x_inc3, x_iret, x_is3, x_laload, x_lcmp, x_ldc, fd_182_0, fd_182_1, fd_182_2, fd_182_3, sf_182_3, fd_61_0, fd_61_1, fd_61_2, fd_61_3, fd_61_4, fd_62_0, sf_62_0, fd_62_1, fd_62_2, fd_62_3, fd_62_4, ld_183, sd_183, e1, nI_ltE, hn', ↓reduceIte, nI_mul, nI_add, eA.1, eB.1, lc_eq]
    simp only [lNE eA.2 eB.2]
    by_cases h : A n = B n
    · rw [if_pos h]
      try simp -implicitDefEqProofs (disch := first | assumption | omega) only [szS_0, szS_i, szS_r, szS_l, x_cons, x_goto, ob_some, kl_i, kl_r, kl_l, kl_n, push_n, push_s, pop_0, pop_i, pop_r, Int.reduceToNat, List.length_cons, List.length_nil, Nat.reduceAdd, Nat.reduceLeDiff, Nat.zero_add, true_and, nI_n0, nat_le, Nat.add_zero, i_1, rt_th_isSame_0, rt_th_isSame_1, rt_th_isSame_b, x_al0, x_getf, x_goto, x_iadd, x_icge, x_ifeq, x_il1, x_il2, x_il3, x_imul, x_inc3, x_iret, x_is3, x_laload, x_lcmp, x_ldc, b_th_isSame_44, nI_add]
      refine ih (n + 1) (by omega) ?_
      rcases hX with hX | hX
      · exact Or.inl ⟨hX.1, fun k h1 h2 => hX.2 k (by omega) h2⟩
      · refine Or.inr ⟨hX.1, fun hh => hX.2 fun k h1 h2 => ?_⟩
        by_cases e : k = n
        · rw [e]
          exact h
        · exact hh k (by omega) h2
    · rw [if_neg h]
      try simp -implicitDefEqProofs (disch := first | assumption | omega) only [szS_0, szS_i, szS_r, szS_l, x_cons, x_goto, ob_some, kl_i, kl_r, kl_l, kl_n, push_n, push_s, pop_0, pop_i, pop_r, Int.reduceToNat, List.length_cons, List.length_nil, Nat.reduceAdd, Nat.reduceLeDiff, Nat.zero_add, true_and, nI_n0, nat_le, Nat.add_zero, i_1, rt_th_isSame_0, rt_th_isSame_1, rt_th_isSame_b, x_al0, x_getf, x_goto, x_iadd, x_icge, x_ifeq, x_il1, x_il2, x_il3, x_imul, x_inc3, x_iret, x_is3, x_laload, x_lcmp, x_ldc]
      rcases hX with hX | hX
      · exact absurd (hX.2 n (Nat.le_refl _) hn') h
      · rw [hX.1] at H
        exact H
theorem s_isSame {a b : Nat} (ha : a ≤ 200) (hb : b ≤ 200) {N : Nat} (hN : N ≤ 16) (e1 : g 62 0 = nI N) {A B : Nat → Nat} (hA : ∀ n, n < N → q 183 (a * 16 + n) = lN (A n) ∧ A n < 2 ^ 63) (hB : ∀ n, n < N → q 183 (b * 16 + n) = lN (B n) ∧ B n < 2 ^ 63) : callC (ev (d + 1)) th_isSame [.ref 182, .int (nI a), .int (nI b)] (E g q) P = P (some (.int (bI (decide (∀ n, n < N → A n = B n))))) (E g q) := by
  refine call_eq (in_th_isSame rfl ?_)
  rw [b_th_isSame_0]
  simp -implicitDefEqProofs (disch := first | assumption | omega) only [szS_0, szS_i, szS_r, szS_l, x_cons, x_goto, ob_some, kl_i, kl_r, kl_l, kl_n, push_n, push_s, pop_0, pop_i, pop_r, Int.reduceToNat, List.length_cons, List.length_nil, Nat.reduceAdd, Nat.reduceLeDiff, Nat.zero_add, true_and, nI_n0, nat_le, Nat.add_zero, i_1, rt_th_isSame_0, rt_th_isSame_1, rt_th_isSame_b, x_al0, x_getf, x_goto, x_iadd, x_icge, x_ifeq, x_il1, x_il2, x_il3, x_imul, x_inc3, x_iret, x_is3, x_laload, x_lcmp, x_ldc]
  by_cases h : ∀ n, n < N → A n = B n
  · rw [bI_dt h]
    exact is_lp ha hb hN e1 hA hB (Or.inr rfl) ⟨rfl, rfl⟩ N 0 (Nat.zero_add _) (Or.inl ⟨rfl, fun k _ h2 => h k h2⟩)
  · rw [bI_df h]
    exact is_lp ha hb hN e1 hA hB (Or.inl rfl) ⟨rfl, rfl⟩ N 0 (Nat.zero_add _) (Or.inr ⟨rfl, fun hh => h fun n hn => hh n (Nat.zero_le _) hn⟩)
theorem re_in {V M : LW} {w0 : Nat → Int32} {W : Nat → Nat → Int32} (hJ : ∀ e, thJ V M w0 (W e)) {day : Nat} (hd : day ≤ 200) (h1 : 1 ≤ day) (e1 : g 62 0 = nI (nn w0)) (hq : ∀ e, e ≤ day → ∀ n, n < nn w0 → q 183 (e * 16 + n) = lN (pkN (W e) n)) {x : Nat}
    (H0 : x = 999 → wp (ev (d + 6)) P th_roundEnd 64 [some (.ref 182), some (.ref 1), some (.int (nI day)), some (.int (nI day))] [] (E g q)) (H1 : x ≠ 999 → P (some (.int (nI day))) (E (upw g 182 (pu (g 182) 3 (nI x))) q)) :
    ∀ (j e : Nat), e + j = day → fst (fun e => alk (W e) (W day)) j e = x → wp (ev (d + 6)) P th_roundEnd 37 [some (.ref 182), some (.ref 1), some (.int (nI day)), some (.int (nI e))] [] (E g q) := by
  have h0 := wi_n (hJ 0).1.1
  rw [stc_nn (hJ 0).1.2.2.2.2.1] at h0
  have hQ : ∀ e, e ≤ day → ∀ n, n < nn w0 → q 183 (e * 16 + n) = lN (pkN (W e) n) ∧ pkN (W e) n < 2 ^ 63 := fun e he n hn => ⟨hq e he n hn, pkN_l (hJ e).1.1 (by omega)⟩
  intro j
  induction j with
  | zero =>
    intro e he hx
    have he : e = day := he
    have hx : 999 = x := hx
    subst he
    rw [b_th_roundEnd_37]
    simp -implicitDefEqProofs (disch := first | assumption | omega) only [szS_0, szS_i, szS_r, szS_l, x_cons, x_goto, ob_some, kl_i, kl_r, kl_l, kl_n, push_n, push_s, pop_0, pop_i, pop_r, Int.reduceToNat, List.length_cons, List.length_nil, Nat.reduceAdd, Nat.reduceLeDiff, Nat.zero_add, true_and, nI_n0, nat_le, Nat.add_zero, i_1, rt_th_roundEnd, x_al0, x_al1, x_call, x_getf, x_goto, x_icge, x_icgt, x_ifeq, x_il2, x_il3, x_inc2, x_inc3, x_iret, x_is2, x_is3, x_ldc, x_m1, x_putf, nI_ltE, Nat.lt_irrefl, ↓reduceIte]
    exact H0 hx.symm
  | succ j ih =>
    intro e he hx
    have he' : e < day := by omega
    have hx : (if alk (W e) (W day) = true then e else fst (fun e => alk (W e) (W day)) j (e + 1)) = x := hx
    rw [alk_pk (hJ e) (hJ day)] at hx
    rw [b_th_roundEnd_37]
    simp -implicitDefEqProofs (disch := first | assumption | omega) only [szS_0, szS_i, szS_r, szS_l, x_cons, x_goto, ob_some, kl_i, kl_r, kl_l, kl_n, push_n, push_s, pop_0, pop_i, pop_r, Int.reduceToNat, List.length_cons, List.length_nil, Nat.reduceAdd, Nat.reduceLeDiff, Nat.zero_add, true_and, nI_n0, nat_le, Nat.add_zero, i_1, rt_th_roundEnd, x_al0, x_al1, x_call, x_getf, x_goto, x_icge, x_icgt, x_ifeq, x_il2, x_il3, x_inc2, x_inc3, x_iret, x_is2, x_is3, x_ldc, x_m1, x_putf, nI_ltE, he', ↓reduceIte]
    rw [s_isSame (by omega) hd h0.2.1 e1 (hQ e (by omega)) (hQ day (Nat.le_refl _))]
    simp -implicitDefEqProofs (disch := first | assumption | omega) only [szS_0, szS_i, szS_r, szS_l, x_cons, x_goto, ob_some, kl_i, kl_r, kl_l, kl_n, push_n, push_s, pop_0, pop_i, pop_r, Int.reduceToNat, List.length_cons, List.length_nil, Nat.reduceAdd, Nat.reduceLeDiff, Nat.zero_add, true_and, nI_n0, nat_le, Nat.add_zero, i_1, rt_th_roundEnd, x_al0, x_al1, x_call, x_getf, x_goto, x_icge, x_icgt, x_ifeq, x_il2, x_il3, x_inc2, x_inc3, x_iret, x_is2, x_is3, x_ldc, x_m1, x_putf, bI_0]
    cases hb : decide (∀ n, n < nn w0 → pkN (W e) n = pkN (W day) n)
    · rw [hb, if_neg Bool.false_ne_true] at hx
      simp -implicitDefEqProofs (disch := first | assumption | omega) only [↓reduceIte, szS_0, szS_i, szS_r, szS_l, x_cons, x_goto, ob_some, kl_i, kl_r, kl_l, kl_n, push_n, push_s, pop_0, pop_i, pop_r, Int.reduceToNat, List.length_cons, List.length_nil, Nat.reduceAdd, Nat.reduceLeDiff, Nat.zero_add, true_and, nI_n0, nat_le, Nat.add_zero, i_1, rt_th_roundEnd, x_al0, x_al1, x_call, x_getf, x_goto, x_icge, x_icgt, x_ifeq, x_il2, x_il3, x_inc2, x_inc3, x_iret, x_is2, x_is3, x_ldc, x_m1, x_putf, b_th_roundEnd_58, nI_add]
      exact ih (e + 1) (by omega) hx
    · rw [hb, if_pos rfl] at hx
      subst hx
      simp -implicitDefEqProofs (disch := first | assumption | omega) only [Bool.true_eq_false, ↓reduceIte, szS_0, szS_i, szS_r, szS_l, x_cons, x_goto, ob_some, kl_i, kl_r, kl_l, kl_n, push_n, push_s, pop_0, pop_i, pop_r, Int.reduceToNat, List.length_cons, List.length_nil, Nat.reduceAdd, Nat.reduceLeDiff, Nat.zero_add, true_and, nI_n0, nat_le, Nat.add_zero, i_1, rt_th_roundEnd, x_al0, x_al1, x_call, x_getf, x_goto, x_icge, x_icgt, x_ifeq, x_il2, x_il3, x_inc2, x_inc3, x_iret, x_is2, x_is3, x_ldc, x_m1, x_putf, fd_182_0, fd_182_1, fd_182_2, fd_182_3, sf_182_3, pu_g, pu_w, upw_s, upw_w, pu_s]
      exact H1 (by omega)
theorem re_out {V M : LW} {w0 : Nat → Int32} (hJ : thJ V M w0 w0) {r : Nat × Nat} {g0 : Nat → Nat → Int32}
    (H : ∀ g' q', (∀ b, b ≠ 182 → (b < 175 ∨ 181 < b) → (b < 61 ∨ 61 + 30 ≤ b) → g' b = g0 b) → CL 61 g' V M → (r.1 = 999 → P (some (.int (-1))) (E g' q')) ∧ (r.1 ≠ 999 → g' 182 3 = nI r.1 → P (some (.int (nI r.2))) (E g' q'))) :
    ∀ (j day : Nat) (g : Nat → Nat → Int32) (q : Nat → Nat → Int64) (o : Option Value), day + j = 200 → enF (fun n => thN V M n w0) j day = r → fD 61 g0 g → Tc 61 (thN V M day w0) g → CL 61 g V M → Tx false 61 (thN V M day w0) g → (∀ e, e ≤ day → ∀ n, n < nn w0 → q 183 (e * 16 + n) = lN (pkN (thN V M e w0) n)) →
    wp (ev (d + 6)) P th_roundEnd 12 [some (.ref 182), some (.ref 1), some (.int (nI (day + 1))), o] [] (E g q) := by
  intro j
  induction j with
  | zero =>
    intro day g q o hd hr hf hc hL hx hq
    have hd : day = 200 := hd
    have hr : (999, day) = r := hr
    subst hd hr
    have h1 : (nI 200 < nI (200 + 1)) = True := eq_true (by decide)
    rw [b_th_roundEnd_12]
    simp -implicitDefEqProofs (disch := first | assumption | omega) only [szS_0, szS_i, szS_r, szS_l, x_cons, x_goto, ob_some, kl_i, kl_r, kl_l, kl_n, push_n, push_s, pop_0, pop_i, pop_r, Int.reduceToNat, List.length_cons, List.length_nil, Nat.reduceAdd, Nat.reduceLeDiff, Nat.zero_add, true_and, nI_n0, nat_le, Nat.add_zero, i_1, rt_th_roundEnd, x_al0, x_al1, x_call, x_getf, x_goto, x_icge, x_icgt, x_ifeq, x_il2, x_il3, x_inc2, x_inc3, x_iret, x_is2, x_is3, x_ldc, x_m1, x_putf, h1, ↓reduceIte, b_th_roundEnd_70]
    exact (H g q (fun b _ h2 h3 => hf b h2 h3) hL).1 rfl
  | succ j ih =>
    intro day g q o hd hr hf hc hL hx hq
    have hd' : ¬ 200 < day + 1 := by omega
    have hI := thN_J day w0 hJ
    have hI1 := thN_J (day + 1) w0 hJ
    have st1 := hI1.1.2.2.2.2.1
    rw [b_th_roundEnd_12]
    simp -implicitDefEqProofs (disch := first | assumption | omega) only [szS_0, szS_i, szS_r, szS_l, x_cons, x_goto, ob_some, kl_i, kl_r, kl_l, kl_n, push_n, push_s, pop_0, pop_i, pop_r, Int.reduceToNat, List.length_cons, List.length_nil, Nat.reduceAdd, Nat.reduceLeDiff, Nat.zero_add, true_and, nI_n0, nat_le, Nat.add_zero, i_1, rt_th_roundEnd, x_al0, x_al1, x_call, x_getf, x_goto, x_icge, x_icgt, x_ifeq, x_il2, x_il3, x_inc2, x_inc3, x_iret, x_is2, x_is3, x_ldc, x_m1, x_putf, nI_ltE, hd', ↓reduceIte, fd_182_0, fd_182_1, fd_182_2, fd_182_3, sf_182_3]
    refine s_passDay (t := 61) (by decide) hI.1.1 hc hL hx fun g1 f1 c1 l1 x1 => ?_
    have eW : dyB V M false (thN V M day w0) = thN V M (day + 1) w0 := (thN_a day w0).symm
    rw [eW] at c1 x1
    simp -implicitDefEqProofs (disch := first | assumption | omega) only [szS_0, szS_i, szS_r, szS_l, x_cons, x_goto, ob_some, kl_i, kl_r, kl_l, kl_n, push_n, push_s, pop_0, pop_i, pop_r, Int.reduceToNat, List.length_cons, List.length_nil, Nat.reduceAdd, Nat.reduceLeDiff, Nat.zero_add, true_and, nI_n0, nat_le, Nat.add_zero, i_1, rt_th_roundEnd, x_al0, x_al1, x_call, x_getf, x_goto, x_icge, x_icgt, x_ifeq, x_il2, x_il3, x_inc2, x_inc3, x_iret, x_is2, x_is3, x_ldc, x_m1, x_putf]
    refine s_note hI1.1.1 c1 (by omega) fun q1 k1 k2 => ?_
    have hf1 : fD 61 g0 g1 := fun b h1 h2 => by rw [f1 b h1 h2, hf b h1 h2]
    have hq1 : ∀ e, e ≤ day + 1 → ∀ n, n < nn w0 → q1 183 (e * 16 + n) = lN (pkN (thN V M e w0) n) := fun e he n hn => by
      have h0 := wi_n hI.1.1
      rw [stc_nn hI.1.2.2.2.2.1] at h0
      by_cases ee : e = day + 1
      · rw [ee]
        exact k2 n (by rw [stc_nn st1]; exact hn)
      · rw [k1 _ (by omega)]
        exact hq e (by omega) n hn
    have e1 : g1 62 0 = nI (nn w0) := by
      have := (tc_n c1).trans (wi_n hI1.1.1).1
      rw [stc_nn st1] at this
      exact this
    have hr : (if fst (fun e => alk (thN V M e w0) (thN V M (day + 1) w0)) (day + 1) 0 = 999 then enF (fun n => thN V M n w0) j (day + 1) else (fst (fun e => alk (thN V M e w0) (thN V M (day + 1) w0)) (day + 1) 0, day + 1)) = r := hr
    simp -implicitDefEqProofs (disch := first | assumption | omega) only [szS_0, szS_i, szS_r, szS_l, x_cons, x_goto, ob_some, kl_i, kl_r, kl_l, kl_n, push_n, push_s, pop_0, pop_i, pop_r, Int.reduceToNat, List.length_cons, List.length_nil, Nat.reduceAdd, Nat.reduceLeDiff, Nat.zero_add, true_and, nI_n0, nat_le, Nat.add_zero, i_1, rt_th_roundEnd, x_al0, x_al1, x_call, x_getf, x_goto, x_icge, x_icgt, x_ifeq, x_il2, x_il3, x_inc2, x_inc3, x_iret, x_is2, x_is3, x_ldc, x_m1, x_putf]
    refine re_in (W := fun e => thN V M e w0) (fun e => thN_J e w0 hJ) (by omega) (by omega) e1 hq1 (x := fst (fun e => alk (thN V M e w0) (thN V M (day + 1) w0)) (day + 1) 0) (fun hx9 => ?_) (fun hx9 => ?_) (day + 1) 0 (Nat.zero_add _) rfl
    · rw [if_pos hx9] at hr
      rw [b_th_roundEnd_64]
      simp -implicitDefEqProofs (disch := first | assumption | omega) only [szS_0, szS_i, szS_r, szS_l, x_cons, x_goto, ob_some, kl_i, kl_r, kl_l, kl_n, push_n, push_s, pop_0, pop_i, pop_r, Int.reduceToNat, List.length_cons, List.length_nil, Nat.reduceAdd, Nat.reduceLeDiff, Nat.zero_add, true_and, nI_n0, nat_le, Nat.add_zero, i_1, rt_th_roundEnd, x_al0, x_al1, x_call, x_getf, x_goto, x_icge, x_icgt, x_ifeq, x_il2, x_il3, x_inc2, x_inc3, x_iret, x_is2, x_is3, x_ldc, x_m1, x_putf, nI_add]
      exact ih (day + 1) g1 q1 _ (by omega) hr hf1 c1 l1 x1 hq1
    · rw [if_neg hx9] at hr
      subst hr
      refine (H _ q1 (fun b h1 h2 h3 => by rw [upw_o h1]; exact hf1 b h2 h3) (CL_c l1 fun a a1 a2 a3 => upw_o (by omega))).2 hx9 ?_
      rw [upw_s, pu_s]
theorem s_roundEnd (hw : WI w) (hc : Tc 1 w g) {V M : LW} (hL : CL 1 g V M) (hV : LK w 0 okV V) (hM : LK w 1 okM M) (hx : Tx true 1 w g) {r : Nat × Nat} (hr : enF (fun n => thN V M n (th0 w)) 200 0 = r)
    (H : ∀ g' q', (∀ b, b ≠ 182 → (b < 175 ∨ 181 < b) → (b < 61 ∨ 61 + 30 ≤ b) → g' b = g b) → CL 61 g' V M → (r.1 = 999 → P (some (.int (-1))) (E g' q')) ∧ (r.1 ≠ 999 → g' 182 3 = nI r.1 → P (some (.int (nI r.2))) (E g' q'))) :
    callC (ev (d + 7)) th_roundEnd [.ref 182, .ref 1] (E g q) P := by
  refine in_th_roundEnd rfl ?_
  rw [b_th_roundEnd_0]
  simp -implicitDefEqProofs (disch := first | assumption | omega) only [szS_0, szS_i, szS_r, szS_l, x_cons, x_goto, ob_some, kl_i, kl_r, kl_l, kl_n, push_n, push_s, pop_0, pop_i, pop_r, Int.reduceToNat, List.length_cons, List.length_nil, Nat.reduceAdd, Nat.reduceLeDiff, Nat.zero_add, true_and, nI_n0, nat_le, Nat.add_zero, i_1, rt_th_roundEnd, x_al0, x_al1, x_call, x_getf, x_goto, x_icge, x_icgt, x_ifeq, x_il2, x_il3, x_inc2, x_inc3, x_iret, x_is2, x_is3, x_ldc, x_m1, x_putf]
  refine s_begin hw hc hL hx fun g1 f1 c1 l1 x1 => ?_
  simp -implicitDefEqProofs (disch := first | assumption | omega) only [szS_0, szS_i, szS_r, szS_l, x_cons, x_goto, ob_some, kl_i, kl_r, kl_l, kl_n, push_n, push_s, pop_0, pop_i, pop_r, Int.reduceToNat, List.length_cons, List.length_nil, Nat.reduceAdd, Nat.reduceLeDiff, Nat.zero_add, true_and, nI_n0, nat_le, Nat.add_zero, i_1, rt_th_roundEnd, x_al0, x_al1, x_call, x_getf, x_goto, x_icge, x_icgt, x_ifeq, x_il2, x_il3, x_inc2, x_inc3, x_iret, x_is2, x_is3, x_ldc, x_m1, x_putf]
  refine s_note (th0_wi hw) c1 (day := 0) (by decide) fun q1 k1 k2 => ?_
  simp -implicitDefEqProofs (disch := first | assumption | omega) only [szS_0, szS_i, szS_r, szS_l, x_cons, x_goto, ob_some, kl_i, kl_r, kl_l, kl_n, push_n, push_s, pop_0, pop_i, pop_r, Int.reduceToNat, List.length_cons, List.length_nil, Nat.reduceAdd, Nat.reduceLeDiff, Nat.zero_add, true_and, nI_n0, nat_le, Nat.add_zero, i_1, rt_th_roundEnd, x_al0, x_al1, x_call, x_getf, x_goto, x_icge, x_icgt, x_ifeq, x_il2, x_il3, x_inc2, x_inc3, x_iret, x_is2, x_is3, x_ldc, x_m1, x_putf]
  refine re_out (thJ_0 hw hV hM) (r := r) (g0 := g1) (fun g2 q2 f2 l2 => H g2 q2 (fun b h1 h2 h3 => by rw [f2 b h1 h2 h3, f1 b h3]) l2) 200 0 g1 q1 none rfl hr (fun _ _ _ => rfl) c1 l1 x1 fun e he n hn => ?_
  have he : e = 0 := by omega
  subst he
  exact k2 n hn
end CQ
