/-! what the class's object holds; calls that change it -/
def KA (w : Nat → Int32) (V M : LW) (g : Nat → Nat → Int32) : Prop := Tc 1 w g ∧ Tx true 1 w g ∧ CL 1 g V M
/-- an image: a row and its laws -/
abbrev IM : Type := Option ((Nat → Int32) × LW × LW)
def imK (im : IM) (g : Nat → Nat → Int32) : Prop := match im with
  | none => g 0 9 = nI 0
  | some (w, V, M) => g 0 9 = nI 1 ∧ Tc 31 w g ∧ Tx true 31 w g ∧ CL 31 g V M
/-- where the spare laws begin -/
def zS (g : Nat → Nat → Int32) : Prop := g 84 0 = nI 0 ∧ g 88 0 = nI 0
def zN (g : Nat → Nat → Int32) : Prop := g 24 0 = nI 0 ∧ g 28 0 = nI 0
/-- the tape, its length, the fault's kind and place -/
abbrev RD : Type := (Nat × (Nat → Nat)) × (Int32 × Int32)
def rdK (R : RD) (g : Nat → Nat → Int32) : Prop := g 168 1 = nI R.1.1 ∧ (∀ k, k < R.1.1 → g 169 k = nI (R.1.2 k)) ∧ g 168 2 = R.2.1 ∧ g 168 3 = R.2.2 ∧ zS g
def Kc (w : Nat → Int32) (V M : LW) (pl : PL) (im : IM) (R : RD) (g : Nat → Nat → Int32) : Prop := KA w V M g ∧ rgK pl g ∧ imK im g ∧ rdK R g
/-- nothing of the reference's cells changes -/
def fC (g g' : Nat → Nat → Int32) : Prop := ∀ b, 196 ≤ b → g' b = g b
/-- but scratch nothing changes -/
def fQ (g g' : Nat → Nat → Int32) : Prop := (∀ b, b ≠ 25 → b ≠ 29 → (b < 61 ∨ 91 ≤ b) → (b < 170 ∨ 196 ≤ b) → g' b = g b) ∧ (zN g → zS g → zS g')
theorem fQ_r {g : Nat → Nat → Int32} : fQ g g := ⟨fun _ _ _ _ _ => rfl, fun _ h => h⟩
theorem zS_c {g g' : Nat → Nat → Int32} (h : zS g) (e : ∀ b, b = 84 ∨ b = 88 → g' b = g b) : zS g' := by
  unfold zS at *
  rw [e 84 (by omega), e 88 (by omega)]
  exact h
theorem fQ_mk {g g' : Nat → Nat → Int32} (h : ∀ b, b ≠ 25 → b ≠ 29 → (b < 170 ∨ 196 ≤ b) → g' b = g b) : fQ g g' := ⟨fun b b1 b2 _ b4 => h b b1 b2 b4, fun _ z => zS_c z fun b hb => h b (by omega) (by omega) (by omega)⟩
theorem fQ_C {g g' : Nat → Nat → Int32} (h : fQ g g') : fC g g' := fun b hb => h.1 b (by omega) (by omega) (by omega) (by omega)
theorem Tx_c {t : Nat} {w w' : Nat → Int32} {g g' : Nat → Nat → Int32} (h : Tx true t w g) (e : ∀ k, k = 2 ∨ k = 5 ∨ k = 8 ∨ k = 9 ∨ (600 ≤ k ∧ k < 1200) → w' k = w k) (e6 : ∀ k, k = 3 ∨ k = 4 → g' (t + 6) k = g (t + 6) k) (e7 : ∀ k, k = 2 ∨ k = 3 → g' (t + 7) k = g (t + 7) k) (e8 : g' (t + 29) = g (t + 29)) : Tx true t w' g' := by
  have h1 : g (t + 6) 4 = w 2 ∧ ∀ k, k < 600 → g (t + 29) k = w (600 + k) := h.1
  have h2 : g (t + 6) 3 = w 5 ∧ g (t + 7) 2 = w 8 ∧ g (t + 7) 3 = w 9 := h.2
  refine ⟨⟨by rw [e6 4 (by omega), e 2 (by omega)]; exact h1.1, fun k hk => by rw [e8, e _ (by omega)]; exact h1.2 k hk⟩, ?_⟩
  show g' (t + 6) 3 = w' 5 ∧ g' (t + 7) 2 = w' 8 ∧ g' (t + 7) 3 = w' 9
  rw [e6 3 (by omega), e7 2 (by omega), e7 3 (by omega), e 5 (by omega), e 8 (by omega), e 9 (by omega)]
  exact h2
theorem imK_c {im : IM} {g g' : Nat → Nat → Int32} (h : imK im g) (e : ∀ b, b = 0 ∨ (31 ≤ b ∧ b < 61 ∧ b ≠ 55 ∧ b ≠ 59) → g' b = g b) : imK im g' := by
  match im, h with
  | none, h => exact (by rw [e 0 (by omega)]; exact h : g' 0 9 = nI 0)
  | some (w, V, M), h =>
    obtain ⟨h1, h2, h3, h4⟩ := h
    exact ⟨by rw [e 0 (by omega)]; exact h1, Tc_c h2 fun a a1 a2 => e a (by omega), Tx_c h3 (fun _ _ => rfl) (fun k _ => by rw [e _ (by omega)]) (fun k _ => by rw [e _ (by omega)]) (e _ (by omega)), CL_c h4 fun a a1 a2 a3 => e a (by omega)⟩
theorem rdK_c {R : RD} {g g' : Nat → Nat → Int32} (h : rdK R g) (e : ∀ b, b = 168 ∨ b = 169 ∨ b = 84 ∨ b = 88 → g' b = g b) : rdK R g' := by
  have hz := zS_c h.2.2.2.2 fun b hb => e b (by omega)
  unfold rdK at *
  rw [e 168 (by omega), e 169 (by omega)]
  exact ⟨h.1, h.2.1, h.2.2.1, h.2.2.2.1, hz⟩
theorem KA_c {w : Nat → Int32} {V M : LW} {g g' : Nat → Nat → Int32} (h : KA w V M g) (e : ∀ b, 1 ≤ b → b < 31 → b ≠ 25 → b ≠ 29 → g' b = g b) : KA w V M g' :=
  ⟨Tc_c h.1 fun a a1 a2 => e a (by omega) (by omega) (by omega) (by omega), Tx_c h.2.1 (fun _ _ => rfl) (fun k _ => by rw [e _ (by omega) (by omega) (by omega) (by omega)]) (fun k _ => by rw [e _ (by omega) (by omega) (by omega) (by omega)]) (e _ (by omega) (by omega) (by omega) (by omega)), CL_c h.2.2 fun a a1 a2 a3 => e a (by omega) (by omega) (by omega) (by omega)⟩
theorem Kc_q {w : Nat → Int32} {V M : LW} {pl : PL} {im : IM} {R : RD} {g g' : Nat → Nat → Int32} (h : Kc w V M pl im R g) (e : fQ g g') : Kc w V M pl im R g' :=
  ⟨KA_c h.1 fun b b1 b2 b3 b4 => e.1 b b3 b4 (by omega) (by omega), rgK_c h.2.1 fun b b1 b2 => e.1 b (by omega) (by omega) (by omega) (by omega), imK_c h.2.2.1 fun b hb => e.1 b (by omega) (by omega) (by omega) (by omega), ⟨by rw [e.1 168 (by omega) (by omega) (by omega) (by omega)]; exact h.2.2.2.1, fun k hk => by rw [e.1 169 (by omega) (by omega) (by omega) (by omega)]; exact h.2.2.2.2.1 k hk, by rw [e.1 168 (by omega) (by omega) (by omega) (by omega)]; exact h.2.2.2.2.2.1, by rw [e.1 168 (by omega) (by omega) (by omega) (by omega)]; exact h.2.2.2.2.2.2.1, e.2 ⟨h.1.2.2.1.2.2.2, h.1.2.2.2.1.2.2.2⟩ h.2.2.2.2.2.2.2⟩⟩
/-- the object behind a change of now and of the ring -/
theorem Kc_mk {w w' : Nat → Int32} {V M V' M' : LW} {pl pl' : PL} {im : IM} {R : RD} {g g' : Nat → Nat → Int32} (h : Kc w V M pl im R g) (hA : KA w' V' M' g') (hr : rgK pl' g') (e : ∀ b, b = 0 ∨ (31 ≤ b ∧ b < 61 ∧ b ≠ 55 ∧ b ≠ 59) ∨ b = 168 ∨ b = 169 ∨ b = 84 ∨ b = 88 → g' b = g b) : Kc w' V' M' pl' im R g' :=
  ⟨hA, hr, imK_c h.2.2.1 fun b hb => e b (by omega), rdK_c h.2.2.2 fun b hb => e b (by omega)⟩
/-- one field of a town anew -/
theorem Tc_tf {w0 w : Nat → Int32} {g : Nat → Nat → Int32} (hw : WI w0) (hst0 : stc w0 w) (h : Tc 1 w g) {i m : Nat} (hi : i < 8) (hm : m < 16) {v : Int32} : Tc 1 (pu w (10 + 20 * m + tfd i) v) (upw g (10 + i) (pu (g (10 + i)) m v)) := by
  have hl := tfd_l (k := i)
  have hv : ∀ k n, k < 8 → n < 16 → upw g (10 + i) (pu (g (10 + i)) m v) (1 + 9 + k) n = pu w (10 + 20 * m + tfd i) v (10 + 20 * n + tfd k) := by
    intro k n hk hn
    have hl2 := tfd_l (k := k)
    by_cases e : k = i
    · subst e
      rw [show 1 + 9 + k = 10 + k by omega, upw_s]
      by_cases e2 : n = m
      · rw [e2, pu_s, pu_s]
      · rw [pu_n e2, pu_n (by omega)]
        have := tc_v h hk hn
        rw [show 1 + 9 + k = 10 + k by omega] at this
        exact this
    · have hne : tfd k ≠ tfd i := by
        have hk8 : k = 0 ∨ k = 1 ∨ k = 2 ∨ k = 3 ∨ k = 4 ∨ k = 5 ∨ k = 6 ∨ k = 7 := by omega
        have hi8 : i = 0 ∨ i = 1 ∨ i = 2 ∨ i = 3 ∨ i = 4 ∨ i = 5 ∨ i = 6 ∨ i = 7 := by omega
        rcases hk8 with rfl | rfl | rfl | rfl | rfl | rfl | rfl | rfl <;> rcases hi8 with rfl | rfl | rfl | rfl | rfl | rfl | rfl | rfl <;> first | exact absurd rfl e | decide
      rw [upw_o (by omega), pu_n (by omega)]
      exact tc_v h hk hn
  generalize tfd i = f at *
  obtain ⟨c1, c2, c3, c4, c5, c6, c7⟩ := h
  have hN := wi_n hw
  have hNN := stc_nn hst0
  have hst : stc w (pu w (10 + 20 * m + f) v) := ⟨pu_n (by omega), fun n f' hn hf => pu_n (by omega)⟩
  refine ⟨⟨?_, ?_, ?_, ?_, ?_, ?_⟩, fun n hn => ?_, fun n a hn ha => ?_, fun s m' hs hm' => ?_, fun n hn hs => ?_, fun n hn => ⟨hv 0 n (by decide) hn, hv 1 n (by decide) hn, hv 2 n (by decide) hn, hv 3 n (by decide) hn, hv 4 n (by decide) hn, hv 5 n (by decide) hn, hv 6 n (by decide) hn, hv 7 n (by decide) hn⟩, fun k hk => ?_⟩
  · rw [upw_o (by omega), pu_n (by omega)]; exact c1.1
  · rw [upw_o (by omega), pu_n (by omega)]; exact c1.2.1
  · rw [upw_o (by omega), pu_n (by omega)]; exact c1.2.2.1
  · rw [upw_o (by omega), pu_n (by omega)]; exact c1.2.2.2.1
  · rw [upw_o (by omega), pu_n (by omega)]; exact c1.2.2.2.2.1
  · rw [upw_o (by omega), pu_n (by omega)]; exact c1.2.2.2.2.2
  · rw [upw_o (by omega), upw_o (by omega), pu_n (by omega), pu_n (by omega)]; exact c2 n hn
  · rw [upw_o (by omega), pu_n (by omega)]; exact c3 n a hn ha
  · rw [stc_nn hst] at hs
    rw [upw_o (by omega), stc_far hw (stc_t hst0 hst) (by omega), ← stc_far hw hst0 (by omega)]; exact c4 s m' hs hm'
  · rw [stc_nn hst] at hn
    rw [stc_fd hst (by omega) (by decide)] at hs
    rw [upw_o (by omega), upw_o (by omega), upw_o (by omega), pu_n (by omega), pu_n (by omega)]
    exact ⟨(c5 n hn hs).1, (c5 n hn hs).2.1, fun a ha => by rw [pu_n (by omega)]; exact (c5 n hn hs).2.2 a ha⟩
  · rw [upw_o (by omega), pu_n (by omega)]; exact c7 k hk
/-- what is bought anew -/
theorem Tc_bo {w : Nat → Int32} {g : Nat → Nat → Int32} (hw : WI w) (h : Tc 1 w g) {f b : Nat} (hf : f < 16) (hb : b < 3) {v : Int32} : Tc 1 (pu w (10 + 20 * f + (7 + b)) v) (upw g 20 (pu (g 20) (f * 3 + b) v)) := by
  obtain ⟨c1, c2, c3, c4, c5, c6, c7⟩ := h
  have hN := wi_n hw
  have hst : stc w (pu w (10 + 20 * f + (7 + b)) v) := ⟨pu_n (by omega), fun n f' hn hf => pu_n (by omega)⟩
  refine ⟨⟨?_, ?_, ?_, ?_, ?_, ?_⟩, fun n hn => ?_, fun n a hn ha => ?_, fun s m' hs hm' => ?_, fun n hn hs => ?_, fun n hn => ?_, fun k hk => ?_⟩
  · rw [upw_o (by omega), pu_n (by omega)]; exact c1.1
  · rw [upw_o (by omega), pu_n (by omega)]; exact c1.2.1
  · rw [upw_o (by omega), pu_n (by omega)]; exact c1.2.2.1
  · rw [upw_o (by omega), pu_n (by omega)]; exact c1.2.2.2.1
  · rw [upw_o (by omega), pu_n (by omega)]; exact c1.2.2.2.2.1
  · rw [upw_o (by omega), pu_n (by omega)]; exact c1.2.2.2.2.2
  · rw [upw_o (by omega), upw_o (by omega), pu_n (by omega), pu_n (by omega)]; exact c2 n hn
  · rw [upw_o (by omega), pu_n (by omega)]; exact c3 n a hn ha
  · rw [stc_nn hst] at hs
    rw [upw_o (by omega), stc_far hw hst (by omega)]; exact c4 s m' hs hm'
  · rw [stc_nn hst] at hn
    rw [stc_fd hst (by omega) (by decide)] at hs
    rw [upw_o (by omega), upw_o (by omega), show 1 + 19 = 20 from rfl, upw_s, pu_n (by omega), pu_n (by omega)]
    refine ⟨(c5 n hn hs).1, (c5 n hn hs).2.1, fun a ha => ?_⟩
    by_cases e : n = f ∧ a = b
    · rw [e.1, e.2, pu_s, pu_s]
    · rw [pu_n (by omega), pu_n (by omega)]
      exact (c5 n hn hs).2.2 a ha
  · rw [upw_o (by omega), upw_o (by omega), upw_o (by omega), upw_o (by omega), upw_o (by omega), upw_o (by omega), upw_o (by omega), upw_o (by omega), pu_n (by omega), pu_n (by omega), pu_n (by omega), pu_n (by omega), pu_n (by omega), pu_n (by omega), pu_n (by omega), pu_n (by omega)]
    exact c6 n hn
  · rw [upw_o (by omega), pu_n (by omega)]; exact c7 k hk
section CS
variable {d : Nat} {g : Nat → Nat → Int32} {q : Nat → Nat → Int64} {P : QT} {w : Nat → Int32} {V M : LW} {pl : PL} {im : IM} {R : RD}
theorem s_vstate (hK : Kc w V M pl im R g) (hw : WI w) {v : Int32} (H : ∀ g', fC g g' → Kc (pu w 5 v) V M [] im R g' → P (some (.int (w 5))) (E g' q)) : callC (ev (d + 2)) vr_state [.ref 0, .int v] (E g q) P := by
  refine in_vr_state rfl ?_
  have e5 : g 7 3 = w 5 := hK.1.2.1.2.1
  rw [b_vr_state_0]
  simp -implicitDefEqProofs (disch := first | assumption | omega) only [szS_0, szS_i, szS_r, szS_l, x_cons, x_goto, ob_some, kl_i, kl_r, kl_l, kl_n, push_n, push_s, pop_0, pop_i, pop_r, Int.reduceToNat, List.length_cons, List.length_nil, Nat.reduceAdd, Nat.reduceLeDiff, Nat.zero_add, true_and, nI_n0, nat_le, Nat.add_zero, rt_vr_state, x_al0, x_call, x_getf, x_il1, x_il2, x_iret, x_is2, x_putf, fd_0_0, fd_0_1, fd_0_2, fd_0_3, fd_0_4, fd_0_5, fd_0_6, fd_0_7, fd_0_8, fd_0_9, sf_0_9, fd_1_0, fd_1_1, fd_1_2, fd_1_3, fd_1_4, fd_7_0, sf_7_0, fd_7_1, sf_7_1, fd_7_2, sf_7_2, fd_7_3, sf_7_3, fd_7_4, sf_7_4, fd_7_5, fd_7_6, fd_7_7, fd_7_8, fd_7_9, fd_7_10, e5, s_forget, pu_g, pu_w, upw_s, upw_w, pu_s]
  refine H _ (fun b hb => by rw [upw_o (by omega), upw_o (by omega)]) (Kc_mk hK ⟨?_, ?_, ?_⟩ (rgK_0 (by rw [pu_n (by decide), pu_s]) pu_s) fun b hb => by rw [upw_o (by omega), upw_o (by omega)])
  · exact Tc_g (Tc_w hw hK.1.1 fun k _ h5 _ _ _ => pu_n h5) (fun a a1 a2 a3 => by rw [upw_o (by omega), upw_o (by omega)]) fun k hk => by rw [upw_o (by decide), show 1 + 6 = 7 from rfl, upw_s, pu_n (by omega)]
  · have h1 : g 7 4 = w 2 ∧ ∀ k, k < 600 → g 30 k = w (600 + k) := hK.1.2.1.1
    have h2 : g 7 3 = w 5 ∧ g 8 2 = w 8 ∧ g 8 3 = w 9 := hK.1.2.1.2
    refine ⟨⟨?_, fun k hk => ?_⟩, ?_, ?_, ?_⟩
    · rw [upw_o (by decide), show 1 + 6 = 7 from rfl, upw_s, pu_n (by decide), pu_n (by decide)]; exact h1.1
    · rw [upw_o (by decide), upw_o (by decide), pu_n (by omega)]; exact h1.2 k hk
    · rw [upw_o (by decide), show 1 + 6 = 7 from rfl, upw_s, pu_s, pu_s]
    · rw [upw_o (by decide), upw_o (by decide), pu_n (by decide)]; exact h2.2.1
    · rw [upw_o (by decide), upw_o (by decide), pu_n (by decide)]; exact h2.2.2
  · exact CL_c hK.1.2.2 fun a a1 a2 a3 => by rw [upw_o (by omega), upw_o (by omega)]
theorem ld_set {k : Nat} (h : k < 4) : ild (E g q) 300000 (nI k) = some (.int (g 300000 k)) := by
  unfold ild
  rw [if_pos ⟨Or.inr (Or.inl rfl), inb_E rfl h (by decide)⟩, nI_clamp (by omega)]
  rfl
theorem set_v {k : Nat} (h : k < 4) : setv k = if nI k = nI 0 then nI 999 else if nI k = nI 1 then nI 33 else nI 1000 := by
  have h : k = 0 ∨ k = 1 ∨ k = 2 ∨ k = 3 := by omega
  rcases h with rfl | rfl | rfl | rfl <;> decide
theorem s_vset0 (hS : ∀ k, k < 4 → g 300000 k = setv k) {k v : Int32} (h : setB k v = false) : callC (ev (d + 2)) vr_set [.ref 0, .int k, .int v] (E g q) P = P (some (.int (nI 0))) (E g q) := by
  refine call_eq (in_vr_set rfl ?_)
  have no : wp (ev (d + 1)) (fun r1 h1 => r1 = some (.int (nI 0)) ∧ h1 = E g q) vr_set 22 [some (.ref 0), some (.int k), some (.int v)] [] (E g q) := by
    rw [b_vr_set_22]
    simp -implicitDefEqProofs (disch := first | assumption | omega) only [szS_0, szS_i, szS_r, szS_l, x_cons, x_goto, ob_some, kl_i, kl_r, kl_l, kl_n, push_n, push_s, pop_0, pop_i, pop_r, Int.reduceToNat, List.length_cons, List.length_nil, Nat.reduceAdd, Nat.reduceLeDiff, Nat.zero_add, true_and, nI_n0, nat_le, Nat.add_zero, rt_vr_set_0, rt_vr_set_1, rt_vr_set_b, x_al0, x_call, x_getf, x_gets0, x_iaload, x_iastore, x_icge, x_iflt, x_ifne, x_il1, x_il2, x_iret, x_ldc]
    all_goals first | rfl | exact ⟨rfl, rfl⟩ | exact ⟨rfl, trivial⟩ | exact ⟨trivial, rfl⟩ | trivial
  rw [b_vr_set_0]
  simp -implicitDefEqProofs (disch := first | assumption | omega) only [szS_0, szS_i, szS_r, szS_l, x_cons, x_goto, ob_some, kl_i, kl_r, kl_l, kl_n, push_n, push_s, pop_0, pop_i, pop_r, Int.reduceToNat, List.length_cons, List.length_nil, Nat.reduceAdd, Nat.reduceLeDiff, Nat.zero_add, true_and, nI_n0, nat_le, Nat.add_zero, rt_vr_set_0, rt_vr_set_1, rt_vr_set_b, x_al0, x_call, x_getf, x_gets0, x_iaload, x_iastore, x_icge, x_iflt, x_ifne, x_il1, x_il2, x_iret, x_ldc]
  by_cases h1 : k < nI 0
  · rw [if_pos h1]
    exact no
  · rw [if_neg h1]
    try simp -implicitDefEqProofs (disch := first | assumption | omega) only [szS_0, szS_i, szS_r, szS_l, x_cons, x_goto, ob_some, kl_i, kl_r, kl_l, kl_n, push_n, push_s, pop_0, pop_i, pop_r, Int.reduceToNat, List.length_cons, List.length_nil, Nat.reduceAdd, Nat.reduceLeDiff, Nat.zero_add, true_and, nI_n0, nat_le, Nat.add_zero, rt_vr_set_0, rt_vr_set_1, rt_vr_set_b, x_al0, x_call, x_getf, x_gets0, x_iaload, x_iastore, x_icge, x_iflt, x_ifne, x_il1, x_il2, x_iret, x_ldc]
    by_cases h2 : k < nI 4
    · rw [if_pos h2]
      rw [lt_le] at h1
      obtain ⟨k', hk, rfl⟩ := nI_is h1 h2 (by decide)
      have hb : nI 0 ≤ nI k' ∧ nI k' ≤ nI 3 := ⟨h1, by rw [nI_leE (by omega) (by decide)]; omega⟩
      unfold setB at h
      rw [decide_eq_true hb, Bool.true_and, ← set_v hk] at h
      simp -implicitDefEqProofs (disch := first | assumption | omega) only [szS_0, szS_i, szS_r, szS_l, x_cons, x_goto, ob_some, kl_i, kl_r, kl_l, kl_n, push_n, push_s, pop_0, pop_i, pop_r, Int.reduceToNat, List.length_cons, List.length_nil, Nat.reduceAdd, Nat.reduceLeDiff, Nat.zero_add, true_and, nI_n0, nat_le, Nat.add_zero, rt_vr_set_0, rt_vr_set_1, rt_vr_set_b, x_al0, x_call, x_getf, x_gets0, x_iaload, x_iastore, x_icge, x_iflt, x_ifne, x_il1, x_il2, x_iret, x_ldc, ld_set, hS, s_within, bI_0, h, ↓reduceIte]
      exact no
    · rw [if_neg h2]
      exact no
theorem s_vset (hK : Kc w V M pl im R g) (hw : WI w) (hS : ∀ k, k < 4 → g 300000 k = setv k) {k : Nat} {v : Int32} (hk : k < 4) (h : setB (nI k) v = true) (H : ∀ g', fC g g' → Kc (pu w (6 + k) v) V M [] im R g' → P (some (.int (nI 1))) (E g' q)) :
    callC (ev (d + 2)) vr_set [.ref 0, .int (nI k), .int v] (E g q) P := by
  refine in_vr_set rfl ?_
  have h1 : ¬ k < 0 := by omega
  have hb : nI 0 ≤ nI k ∧ nI k ≤ nI 3 := ⟨by rw [nI_leE (by omega) (by omega)]; omega, by rw [nI_leE (by omega) (by decide)]; omega⟩
  have h2 := h
  unfold setB at h2
  rw [decide_eq_true hb, Bool.true_and, ← set_v hk] at h2
  rw [b_vr_set_0]
  simp -implicitDefEqProofs (disch := first | assumption | omega) only [szS_0, szS_i, szS_r, szS_l, x_cons, x_goto, ob_some, kl_i, kl_r, kl_l, kl_n, push_n, push_s, pop_0, pop_i, pop_r, Int.reduceToNat, List.length_cons, List.length_nil, Nat.reduceAdd, Nat.reduceLeDiff, Nat.zero_add, true_and, nI_n0, nat_le, Nat.add_zero, rt_vr_set_0, rt_vr_set_1, rt_vr_set_b, x_al0, x_call, x_getf, x_gets0, x_iaload, x_iastore, x_icge, x_iflt, x_ifne, x_il1, x_il2, x_iret, x_ldc, nI_ltE, h1, hk, ↓reduceIte, ld_set, hS, s_within, bI_0, h2, Bool.true_eq_false]
  rw [b_vr_set_24]
  simp -implicitDefEqProofs (disch := first | assumption | omega) only [szS_0, szS_i, szS_r, szS_l, x_cons, x_goto, ob_some, kl_i, kl_r, kl_l, kl_n, push_n, push_s, pop_0, pop_i, pop_r, Int.reduceToNat, List.length_cons, List.length_nil, Nat.reduceAdd, Nat.reduceLeDiff, Nat.zero_add, true_and, nI_n0, nat_le, Nat.add_zero, rt_vr_set_0, rt_vr_set_1, rt_vr_set_b, x_al0, x_call, x_getf, x_gets0, x_iaload, x_iastore, x_icge, x_iflt, x_ifne, x_il1, x_il2, x_iret, x_ldc, fd_0_0, fd_0_1, fd_0_2, fd_0_3, fd_0_4, fd_0_5, fd_0_6, fd_0_7, fd_0_8, fd_0_9, sf_0_9, fd_1_0, fd_1_1, fd_1_2, fd_1_3, fd_1_4, fd_7_0, sf_7_0, fd_7_1, sf_7_1, fd_7_2, sf_7_2, fd_7_3, sf_7_3, fd_7_4, sf_7_4, fd_7_5, fd_7_6, fd_7_7, fd_7_8, fd_7_9, fd_7_10, ld_8, sd_8, ln_8, s_forget, pu_g, pu_w, upw_s, upw_w, pu_s]
  refine H _ (fun b hb => by rw [upw_o (by omega), upw_o (by omega)]) (Kc_mk hK ⟨?_, ?_, ?_⟩ (rgK_0 (by rw [pu_n (by decide), pu_s]) pu_s) fun b hb => by rw [upw_o (by omega), upw_o (by omega)])
  · obtain ⟨c1, c2, c3, c4, c5, c6, c7⟩ := hK.1.1
    have hN := wi_n hw
    have hst : stc w (pu w (6 + k) v) := ⟨pu_n (by omega), fun n f' hn hf => pu_n (by omega)⟩
    refine ⟨⟨?_, ?_, ?_, ?_, ?_, ?_⟩, fun n hn => ?_, fun n a hn ha => ?_, fun s m' hs hm' => ?_, fun n hn hs => ?_, fun n hn => ?_, fun k hk => ?_⟩
    · rw [upw_o (by omega), upw_o (by omega), pu_n (by omega)]; exact c1.1
    · rw [upw_o (by omega), upw_o (by omega), pu_n (by omega)]; exact c1.2.1
    · rw [upw_o (by omega), upw_o (by omega), pu_n (by omega)]; exact c1.2.2.1
    · rw [upw_o (by omega), upw_o (by omega), pu_n (by omega)]; exact c1.2.2.2.1
    · rw [upw_o (by omega), show 1 + 7 = 8 from rfl, upw_s]
      by_cases e : k = 0
      · subst e
        rw [pu_s, pu_s]
      · rw [pu_n (by omega), pu_n (by omega)]; exact c1.2.2.2.2.1
    · rw [upw_o (by omega), show 1 + 7 = 8 from rfl, upw_s]
      by_cases e : k = 1
      · subst e
        rw [pu_s, pu_s]
      · rw [pu_n (by omega), pu_n (by omega)]; exact c1.2.2.2.2.2
    · rw [upw_o (by omega), upw_o (by omega), upw_o (by omega), upw_o (by omega), pu_n (by omega), pu_n (by omega)]; exact c2 n hn
    · rw [upw_o (by omega), upw_o (by omega), pu_n (by omega)]; exact c3 n a hn ha
    · rw [stc_nn hst] at hs
      rw [upw_o (by omega), upw_o (by omega), stc_far hw hst (by omega)]; exact c4 s m' hs hm'
    · rw [stc_nn hst] at hn
      rw [stc_fd hst (by omega) (by decide)] at hs
      rw [upw_o (by omega), upw_o (by omega), upw_o (by omega), upw_o (by omega), upw_o (by omega), upw_o (by omega), pu_n (by omega), pu_n (by omega)]
      exact ⟨(c5 n hn hs).1, (c5 n hn hs).2.1, fun a ha => by rw [pu_n (by omega)]; exact (c5 n hn hs).2.2 a ha⟩
    · have e : ∀ (rr : Nat → Int32) b, 10 ≤ b → b < 20 → upw (upw g 8 (pu (g 8) k v)) 91 rr b = g b := fun rr b b1 b2 => by rw [upw_o (by omega), upw_o (by omega)]
      rw [e _ (1 + 9) (by omega) (by omega), e _ (1 + 10) (by omega) (by omega), e _ (1 + 11) (by omega) (by omega), e _ (1 + 12) (by omega) (by omega), e _ (1 + 13) (by omega) (by omega), e _ (1 + 14) (by omega) (by omega), e _ (1 + 15) (by omega) (by omega), e _ (1 + 16) (by omega) (by omega), pu_n (by omega), pu_n (by omega), pu_n (by omega), pu_n (by omega), pu_n (by omega), pu_n (by omega), pu_n (by omega), pu_n (by omega)]
      exact c6 n hn
    · rw [upw_o (by omega), upw_o (by omega), pu_n (by omega)]; exact c7 k hk
  · have h3 : g 7 4 = w 2 ∧ ∀ k, k < 600 → g 30 k = w (600 + k) := hK.1.2.1.1
    have h4 : g 7 3 = w 5 ∧ g 8 2 = w 8 ∧ g 8 3 = w 9 := hK.1.2.1.2
    refine ⟨⟨?_, fun k hk => ?_⟩, ?_, ?_, ?_⟩
    · rw [upw_o (by decide), upw_o (by decide), pu_n (by omega)]; exact h3.1
    · rw [upw_o (by decide), upw_o (by decide), pu_n (by omega)]; exact h3.2 k hk
    · rw [upw_o (by decide), upw_o (by decide), pu_n (by omega)]; exact h4.1
    · rw [upw_o (by decide), show 1 + 7 = 8 from rfl, upw_s]
      by_cases e : k = 2
      · subst e
        rw [pu_s, pu_s]
      · rw [pu_n (by omega), pu_n (by omega)]; exact h4.2.1
    · rw [upw_o (by decide), show 1 + 7 = 8 from rfl, upw_s]
      by_cases e : k = 3
      · subst e
        rw [pu_s, pu_s]
      · rw [pu_n (by omega), pu_n (by omega)]; exact h4.2.2
  · exact CL_c hK.1.2.2 fun a a1 a2 a3 => by rw [upw_o (by omega), upw_o (by omega)]
theorem s_vbuy0 (hw : WI w) (hc : Tc 1 w g) {f a n : Int32} (h : buyB w f a n = false) : callC (ev (d + 4)) vr_buy [.ref 0, .int f, .int a, .int n] (E g q) P = P (some (.int (nI 0))) (E g q) := by
  refine call_eq (in_vr_buy rfl ?_)
  have no : wp (ev (d + 3)) (fun r1 h1 => r1 = some (.int (nI 0)) ∧ h1 = E g q) vr_buy 26 [some (.ref 0), some (.int f), some (.int a), some (.int n)] [] (E g q) := by
    rw [b_vr_buy_26]
    simp -implicitDefEqProofs (disch := first | assumption | omega) only [szS_0, szS_i, szS_r, szS_l, x_cons, x_goto, ob_some, kl_i, kl_r, kl_l, kl_n, push_n, push_s, pop_0, pop_i, pop_r, Int.reduceToNat, List.length_cons, List.length_nil, Nat.reduceAdd, Nat.reduceLeDiff, Nat.zero_add, true_and, nI_n0, nat_le, Nat.add_zero, rt_vr_buy_0, rt_vr_buy_1, rt_vr_buy_b, x_al0, x_call, x_getf, x_iadd, x_iastore, x_ifeq, x_ifne, x_il1, x_il2, x_il3, x_imul, x_iret, x_ldc]
    all_goals first | rfl | exact ⟨rfl, rfl⟩ | exact ⟨rfl, trivial⟩ | exact ⟨trivial, rfl⟩ | trivial
  unfold buyB at h
  rw [b_vr_buy_0]
  simp -implicitDefEqProofs (disch := first | assumption | omega) only [szS_0, szS_i, szS_r, szS_l, x_cons, x_goto, ob_some, kl_i, kl_r, kl_l, kl_n, push_n, push_s, pop_0, pop_i, pop_r, Int.reduceToNat, List.length_cons, List.length_nil, Nat.reduceAdd, Nat.reduceLeDiff, Nat.zero_add, true_and, nI_n0, nat_le, Nat.add_zero, rt_vr_buy_0, rt_vr_buy_1, rt_vr_buy_b, x_al0, x_call, x_getf, x_iadd, x_iastore, x_ifeq, x_ifne, x_il1, x_il2, x_il3, x_imul, x_iret, x_ldc, fd_0_0, fd_0_1, fd_0_2, fd_0_3, fd_0_4, fd_0_5, fd_0_6, fd_0_7, fd_0_8, fd_0_9, sf_0_9, fd_1_0, fd_1_1, fd_1_2, fd_1_3, fd_1_4]
  rw [s_cArm (t := 1) (by decide) hw hc]
  simp -implicitDefEqProofs (disch := first | assumption | omega) only [szS_0, szS_i, szS_r, szS_l, x_cons, x_goto, ob_some, kl_i, kl_r, kl_l, kl_n, push_n, push_s, pop_0, pop_i, pop_r, Int.reduceToNat, List.length_cons, List.length_nil, Nat.reduceAdd, Nat.reduceLeDiff, Nat.zero_add, true_and, nI_n0, nat_le, Nat.add_zero, rt_vr_buy_0, rt_vr_buy_1, rt_vr_buy_b, x_al0, x_call, x_getf, x_iadd, x_iastore, x_ifeq, x_ifne, x_il1, x_il2, x_il3, x_imul, x_iret, x_ldc, bI_0]
  cases h1 : armB w f a
  · simp -implicitDefEqProofs (disch := first | assumption | omega) only [↓reduceIte]
    exact no
  · rw [h1, Bool.true_and] at h
    simp -implicitDefEqProofs (disch := first | assumption | omega) only [Bool.true_eq_false, ↓reduceIte, szS_0, szS_i, szS_r, szS_l, x_cons, x_goto, ob_some, kl_i, kl_r, kl_l, kl_n, push_n, push_s, pop_0, pop_i, pop_r, Int.reduceToNat, List.length_cons, List.length_nil, Nat.reduceAdd, Nat.reduceLeDiff, Nat.zero_add, true_and, nI_n0, nat_le, Nat.add_zero, rt_vr_buy_0, rt_vr_buy_1, rt_vr_buy_b, x_al0, x_call, x_getf, x_iadd, x_iastore, x_ifeq, x_ifne, x_il1, x_il2, x_il3, x_imul, x_iret, x_ldc, s_within, bI_0, h]
    exact no
theorem s_vbuy (hK : Kc w V M pl im R g) (hw : WI w) {f a : Nat} {n : Int32} (hf : f < 16) (ha : a < 3) (h : buyB w (nI f) (nI a) n = true) (H : ∀ g', fC g g' → Kc (pu w (10 + 20 * f + (7 + a)) n) V M [] im R g' → P (some (.int (nI 1))) (E g' q)) :
    callC (ev (d + 4)) vr_buy [.ref 0, .int (nI f), .int (nI a), .int n] (E g q) P := by
  refine in_vr_buy rfl ?_
  unfold buyB at h
  rw [Bool.and_eq_true] at h
  rw [b_vr_buy_0]
  simp -implicitDefEqProofs (disch := first | assumption | omega) only [szS_0, szS_i, szS_r, szS_l, x_cons, x_goto, ob_some, kl_i, kl_r, kl_l, kl_n, push_n, push_s, pop_0, pop_i, pop_r, Int.reduceToNat, List.length_cons, List.length_nil, Nat.reduceAdd, Nat.reduceLeDiff, Nat.zero_add, true_and, nI_n0, nat_le, Nat.add_zero, rt_vr_buy_0, rt_vr_buy_1, rt_vr_buy_b, x_al0, x_call, x_getf, x_iadd, x_iastore, x_ifeq, x_ifne, x_il1, x_il2, x_il3, x_imul, x_iret, x_ldc, fd_0_0, fd_0_1, fd_0_2, fd_0_3, fd_0_4, fd_0_5, fd_0_6, fd_0_7, fd_0_8, fd_0_9, sf_0_9, fd_1_0, fd_1_1, fd_1_2, fd_1_3, fd_1_4]
  rw [s_cArm (t := 1) (by decide) hw hK.1.1]
  simp -implicitDefEqProofs (disch := first | assumption | omega) only [szS_0, szS_i, szS_r, szS_l, x_cons, x_goto, ob_some, kl_i, kl_r, kl_l, kl_n, push_n, push_s, pop_0, pop_i, pop_r, Int.reduceToNat, List.length_cons, List.length_nil, Nat.reduceAdd, Nat.reduceLeDiff, Nat.zero_add, true_and, nI_n0, nat_le, Nat.add_zero, rt_vr_buy_0, rt_vr_buy_1, rt_vr_buy_b, x_al0, x_call, x_getf, x_iadd, x_iastore, x_ifeq, x_ifne, x_il1, x_il2, x_il3, x_imul, x_iret, x_ldc, bI_0, h.1, Bool.true_eq_false, ↓reduceIte, s_within, h.2, b_vr_buy_28, fd_0_0, fd_0_1, fd_0_2, fd_0_3, fd_0_4, fd_0_5, fd_0_6, fd_0_7, fd_0_8, fd_0_9, sf_0_9, fd_1_0, fd_1_1, fd_1_2, fd_1_3, fd_1_4, fd_7_0, sf_7_0, fd_7_1, sf_7_1, fd_7_2, sf_7_2, fd_7_3, sf_7_3, fd_7_4, sf_7_4, fd_7_5, fd_7_6, fd_7_7, fd_7_8, fd_7_9, fd_7_10, ld_20, sd_20, ln_20, nI_mul, nI_add, s_forget, pu_g, pu_w, upw_s, upw_w, pu_s]
  refine H _ (fun b hb => by rw [upw_o (by omega), upw_o (by omega)]) (Kc_mk hK ⟨?_, ?_, ?_⟩ (rgK_0 (by rw [pu_n (by decide), pu_s]) pu_s) fun b hb => by rw [upw_o (by omega), upw_o (by omega)])
  · exact Tc_c (Tc_bo hw hK.1.1 hf ha) fun a a1 a2 => by rw [upw_o (by omega)]
  · exact Tx_c hK.1.2.1 (fun k hk => pu_n (by omega)) (fun k _ => by rw [upw_o (by omega), upw_o (by omega)]) (fun k _ => by rw [upw_o (by omega), upw_o (by omega)]) (by rw [upw_o (by omega), upw_o (by omega)])
  · exact CL_c hK.1.2.2 fun a a1 a2 a3 => by rw [upw_o (by omega), upw_o (by omega)]
/-- whether a town may have it -/
def tmB (w : Nat → Int32) (t k v : Int32) : Bool := (decide (k = nI 0) && decide (nI 0 ≤ v ∧ v ≤ nI 9999)) || (decide (k = nI 1) && decide (nI 1 ≤ v ∧ v ≤ nI 999)) || (decide (k = nI 2) && decide (nI 0 ≤ v ∧ v ≤ nI 9)) || (decide (k = nI 3) && decide (nI 0 ≤ v ∧ v ≤ nI 50 * w (10 + 20 * ix t + 15)))
theorem s_mayHave (hc : Tc 1 w g) {t : Nat} (ht : t < 16) {k v : Int32} : callC (ev (d + 2)) vr_townMayHave [.ref 0, .int (nI t), .int k, .int v] (E g q) P = P (some (.int (bI (tmB w (nI t) k v)))) (E g q) := by
  refine call_eq (in_vr_townMayHave rfl ?_)
  have e15 : g 12 t = w (10 + 20 * t + 15) := (tc_t hc ht).2.2.1
  have n01 : decide (nI 0 = nI 1) = false := by decide
  have n02 : decide (nI 0 = nI 2) = false := by decide
  have n03 : decide (nI 0 = nI 3) = false := by decide
  have n10 : decide (nI 1 = nI 0) = false := by decide
  have n12 : decide (nI 1 = nI 2) = false := by decide
  have n13 : decide (nI 1 = nI 3) = false := by decide
  have n20 : decide (nI 2 = nI 0) = false := by decide
  have n21 : decide (nI 2 = nI 1) = false := by decide
  have n23 : decide (nI 2 = nI 3) = false := by decide
  have n30 : decide (nI 3 = nI 0) = false := by decide
  have n31 : decide (nI 3 = nI 1) = false := by decide
  have n32 : decide (nI 3 = nI 2) = false := by decide
  have y0 : decide (nI 0 = nI 0) = true := by decide
  have y1 : decide (nI 1 = nI 1) = true := by decide
  have y2 : decide (nI 2 = nI 2) = true := by decide
  have y3 : decide (nI 3 = nI 3) = true := by decide
  rw [b_vr_townMayHave_0]
  simp only [x_cons, x_il2, x_tsw]
  unfold tmB
  rw [ix_nI (by omega)]
  by_cases h1 : nI 0 ≤ k ∧ k ≤ nI 3
  · obtain ⟨k', hk, rfl⟩ := int_is h1 (by decide)
    have : k' = 0 ∨ k' = 1 ∨ k' = 2 ∨ k' = 3 := by omega
    rcases this with rfl | rfl | rfl | rfl
    · show wp (ev (d + 1)) _ vr_townMayHave 32 _ _ _
      rw [y0, n01, n02, n03, Bool.true_and, Bool.false_and, Bool.false_and, Bool.false_and, Bool.or_false, Bool.or_false, Bool.or_false]
      simp -implicitDefEqProofs (disch := first | assumption | omega) only [szS_0, szS_i, szS_r, szS_l, x_cons, x_goto, ob_some, kl_i, kl_r, kl_l, kl_n, push_n, push_s, pop_0, pop_i, pop_r, Int.reduceToNat, List.length_cons, List.length_nil, Nat.reduceAdd, Nat.reduceLeDiff, Nat.zero_add, true_and, nI_n0, nat_le, Nat.add_zero, rt_vr_townMayHave_0, rt_vr_townMayHave_1, rt_vr_townMayHave_b, x_aaload, x_al0, x_call, x_getf, x_iaload, x_il1, x_il2, x_il3, x_imul, x_iret, x_ldc, x_tsw, b_vr_townMayHave_0, b_vr_townMayHave_32, b_vr_townMayHave_41, b_vr_townMayHave_50, b_vr_townMayHave_58, b_vr_townMayHave_81, s_within]
      all_goals first | rfl | exact ⟨rfl, rfl⟩ | exact ⟨rfl, trivial⟩ | trivial
    · show wp (ev (d + 1)) _ vr_townMayHave 41 _ _ _
      rw [n10, y1, n12, n13, Bool.true_and, Bool.false_and, Bool.false_and, Bool.false_and, Bool.or_false, Bool.or_false, Bool.false_or]
      simp -implicitDefEqProofs (disch := first | assumption | omega) only [szS_0, szS_i, szS_r, szS_l, x_cons, x_goto, ob_some, kl_i, kl_r, kl_l, kl_n, push_n, push_s, pop_0, pop_i, pop_r, Int.reduceToNat, List.length_cons, List.length_nil, Nat.reduceAdd, Nat.reduceLeDiff, Nat.zero_add, true_and, nI_n0, nat_le, Nat.add_zero, rt_vr_townMayHave_0, rt_vr_townMayHave_1, rt_vr_townMayHave_b, x_aaload, x_al0, x_call, x_getf, x_iaload, x_il1, x_il2, x_il3, x_imul, x_iret, x_ldc, x_tsw, b_vr_townMayHave_0, b_vr_townMayHave_32, b_vr_townMayHave_41, b_vr_townMayHave_50, b_vr_townMayHave_58, b_vr_townMayHave_81, s_within]
      all_goals first | rfl | exact ⟨rfl, rfl⟩ | exact ⟨rfl, trivial⟩ | trivial
    · show wp (ev (d + 1)) _ vr_townMayHave 50 _ _ _
      rw [n20, n21, y2, n23, Bool.true_and, Bool.false_and, Bool.false_and, Bool.false_and, Bool.or_false, Bool.or_false, Bool.false_or]
      simp -implicitDefEqProofs (disch := first | assumption | omega) only [szS_0, szS_i, szS_r, szS_l, x_cons, x_goto, ob_some, kl_i, kl_r, kl_l, kl_n, push_n, push_s, pop_0, pop_i, pop_r, Int.reduceToNat, List.length_cons, List.length_nil, Nat.reduceAdd, Nat.reduceLeDiff, Nat.zero_add, true_and, nI_n0, nat_le, Nat.add_zero, rt_vr_townMayHave_0, rt_vr_townMayHave_1, rt_vr_townMayHave_b, x_aaload, x_al0, x_call, x_getf, x_iaload, x_il1, x_il2, x_il3, x_imul, x_iret, x_ldc, x_tsw, b_vr_townMayHave_0, b_vr_townMayHave_32, b_vr_townMayHave_41, b_vr_townMayHave_50, b_vr_townMayHave_58, b_vr_townMayHave_81, s_within]
      all_goals first | rfl | exact ⟨rfl, rfl⟩ | exact ⟨rfl, trivial⟩ | trivial
    · show wp (ev (d + 1)) _ vr_townMayHave 58 _ _ _
      rw [n30, n31, n32, y3, Bool.true_and, Bool.false_and, Bool.false_and, Bool.false_and, Bool.or_false, Bool.or_false, Bool.false_or]
      simp -implicitDefEqProofs (disch := first | assumption | omega) only [szS_0, szS_i, szS_r, szS_l, x_cons, x_goto, ob_some, kl_i, kl_r, kl_l, kl_n, push_n, push_s, pop_0, pop_i, pop_r, Int.reduceToNat, List.length_cons, List.length_nil, Nat.reduceAdd, Nat.reduceLeDiff, Nat.zero_add, true_and, nI_n0, nat_le, Nat.add_zero, rt_vr_townMayHave_0, rt_vr_townMayHave_1, rt_vr_townMayHave_b, x_aaload, x_al0, x_call, x_getf, x_iaload, x_il1, x_il2, x_il3, x_imul, x_iret, x_ldc, x_tsw, b_vr_townMayHave_0, b_vr_townMayHave_32, b_vr_townMayHave_41, b_vr_townMayHave_50, b_vr_townMayHave_58, b_vr_townMayHave_81, fd_0_0, fd_0_1, fd_0_2, fd_0_3, fd_0_4, fd_0_5, fd_0_6, fd_0_7, fd_0_8, fd_0_9, sf_0_9, fd_1_0, fd_1_1, fd_1_2, fd_1_3, fd_1_4, fd_7_0, sf_7_0, fd_7_1, sf_7_1, fd_7_2, sf_7_2, fd_7_3, sf_7_3, fd_7_4, sf_7_4, fd_7_5, fd_7_6, fd_7_7, fd_7_8, fd_7_9, fd_7_10, ld_9_0, ld_9_1, ld_9_2, ld_9_3, ld_9_4, ld_9_5, ld_9_6, ld_9_7, ld_12, sd_12, ln_12, e15, s_within]
      all_goals first | rfl | exact ⟨rfl, rfl⟩ | exact ⟨rfl, trivial⟩ | trivial
  · have hcx : k.toInt < 0 ∨ 3 < k.toInt := by
      rw [leE, leE, nI_I (by decide), nI_I (by decide)] at h1
      omega
    have ne : ∀ j, j < 4 → decide (k = nI j) = false := fun j hj => decide_eq_false fun e => by
      rw [e, nI_I (by omega)] at hcx
      omega
    rw [if_pos hcx, ne 0 (by decide), ne 1 (by decide), ne 2 (by decide), ne 3 (by decide), Bool.false_and, Bool.false_and, Bool.false_and, Bool.false_and, Bool.or_false, Bool.or_false, Bool.or_false]
    simp -implicitDefEqProofs (disch := first | assumption | omega) only [szS_0, szS_i, szS_r, szS_l, x_cons, x_goto, ob_some, kl_i, kl_r, kl_l, kl_n, push_n, push_s, pop_0, pop_i, pop_r, Int.reduceToNat, List.length_cons, List.length_nil, Nat.reduceAdd, Nat.reduceLeDiff, Nat.zero_add, true_and, nI_n0, nat_le, Nat.add_zero, rt_vr_townMayHave_0, rt_vr_townMayHave_1, rt_vr_townMayHave_b, x_aaload, x_al0, x_call, x_getf, x_iaload, x_il1, x_il2, x_il3, x_imul, x_iret, x_ldc, x_tsw, b_vr_townMayHave_0, b_vr_townMayHave_32, b_vr_townMayHave_41, b_vr_townMayHave_50, b_vr_townMayHave_58, b_vr_townMayHave_81, bI, Bool.false_eq_true, ↓reduceIte]
    all_goals first | rfl | exact ⟨rfl, rfl⟩ | exact ⟨rfl, trivial⟩ | trivial
theorem s_vtown0 (hw : WI w) (hc : Tc 1 w g) {t k v : Int32} (h : tnB w t k v = false) : callC (ev (d + 4)) vr_town [.ref 0, .int t, .int k, .int v] (E g q) P = P (some (.int (nI 0))) (E g q) := by
  refine call_eq (in_vr_town rfl ?_)
  have hN := wi_n hw
  have no : wp (ev (d + 3)) (fun r1 h1 => r1 = some (.int (nI 0)) ∧ h1 = E g q) vr_town 24 [some (.ref 0), some (.int t), some (.int k), some (.int v), none] [] (E g q) := by
    rw [b_vr_town_24]
    simp -implicitDefEqProofs (disch := first | assumption | omega) only [szS_0, szS_i, szS_r, szS_l, x_cons, x_goto, ob_some, kl_i, kl_r, kl_l, kl_n, push_n, push_s, pop_0, pop_i, pop_r, Int.reduceToNat, List.length_cons, List.length_nil, Nat.reduceAdd, Nat.reduceLeDiff, Nat.zero_add, true_and, nI_n0, nat_le, Nat.add_zero, rt_vr_town_0, rt_vr_town_1, rt_vr_town_b, x_aaload, x_al0, x_al4, x_as4, x_call, x_getf, x_iaload, x_iastore, x_ifeq, x_ifne, x_il1, x_il2, x_il3, x_imul, x_iret, x_ldc]
    all_goals first | rfl | exact ⟨rfl, rfl⟩ | exact ⟨rfl, trivial⟩ | exact ⟨trivial, rfl⟩ | trivial
  have h : (townB w t && tmB w t k v) = false := h
  rw [b_vr_town_0]
  simp -implicitDefEqProofs (disch := first | assumption | omega) only [szS_0, szS_i, szS_r, szS_l, x_cons, x_goto, ob_some, kl_i, kl_r, kl_l, kl_n, push_n, push_s, pop_0, pop_i, pop_r, Int.reduceToNat, List.length_cons, List.length_nil, Nat.reduceAdd, Nat.reduceLeDiff, Nat.zero_add, true_and, nI_n0, nat_le, Nat.add_zero, rt_vr_town_0, rt_vr_town_1, rt_vr_town_b, x_aaload, x_al0, x_al4, x_as4, x_call, x_getf, x_iaload, x_iastore, x_ifeq, x_ifne, x_il1, x_il2, x_il3, x_imul, x_iret, x_ldc, fd_0_0, fd_0_1, fd_0_2, fd_0_3, fd_0_4, fd_0_5, fd_0_6, fd_0_7, fd_0_8, fd_0_9, sf_0_9, fd_1_0, fd_1_1, fd_1_2, fd_1_3, fd_1_4]
  rw [s_cTown (t := 1) (by decide) hw hc]
  simp -implicitDefEqProofs (disch := first | assumption | omega) only [szS_0, szS_i, szS_r, szS_l, x_cons, x_goto, ob_some, kl_i, kl_r, kl_l, kl_n, push_n, push_s, pop_0, pop_i, pop_r, Int.reduceToNat, List.length_cons, List.length_nil, Nat.reduceAdd, Nat.reduceLeDiff, Nat.zero_add, true_and, nI_n0, nat_le, Nat.add_zero, rt_vr_town_0, rt_vr_town_1, rt_vr_town_b, x_aaload, x_al0, x_al4, x_as4, x_call, x_getf, x_iaload, x_iastore, x_ifeq, x_ifne, x_il1, x_il2, x_il3, x_imul, x_iret, x_ldc, bI_0]
  cases h1 : townB w t
  · simp -implicitDefEqProofs (disch := first | assumption | omega) only [↓reduceIte]
    exact no
  · obtain ⟨t', ht, rfl, hs⟩ := townB_ex hw h1
    rw [h1, Bool.true_and] at h
    simp -implicitDefEqProofs (disch := first | assumption | omega) only [Bool.true_eq_false, ↓reduceIte, szS_0, szS_i, szS_r, szS_l, x_cons, x_goto, ob_some, kl_i, kl_r, kl_l, kl_n, push_n, push_s, pop_0, pop_i, pop_r, Int.reduceToNat, List.length_cons, List.length_nil, Nat.reduceAdd, Nat.reduceLeDiff, Nat.zero_add, true_and, nI_n0, nat_le, Nat.add_zero, rt_vr_town_0, rt_vr_town_1, rt_vr_town_b, x_aaload, x_al0, x_al4, x_as4, x_call, x_getf, x_iaload, x_iastore, x_ifeq, x_ifne, x_il1, x_il2, x_il3, x_imul, x_iret, x_ldc]
    rw [s_mayHave hc (by omega)]
    simp -implicitDefEqProofs (disch := first | assumption | omega) only [szS_0, szS_i, szS_r, szS_l, x_cons, x_goto, ob_some, kl_i, kl_r, kl_l, kl_n, push_n, push_s, pop_0, pop_i, pop_r, Int.reduceToNat, List.length_cons, List.length_nil, Nat.reduceAdd, Nat.reduceLeDiff, Nat.zero_add, true_and, nI_n0, nat_le, Nat.add_zero, rt_vr_town_0, rt_vr_town_1, rt_vr_town_b, x_aaload, x_al0, x_al4, x_as4, x_call, x_getf, x_iaload, x_iastore, x_ifeq, x_ifne, x_il1, x_il2, x_il3, x_imul, x_iret, x_ldc, bI_0, h, ↓reduceIte]
    exact no
theorem min3 {a b : Int32} : (if b < a then b else a) = (if a < b then a else b) := by
  by_cases h1 : b < a
  · rw [if_pos h1, if_neg (fun h => by rw [Int32.lt_iff_toInt_lt] at h h1; omega)]
  · by_cases h2 : a < b
    · rw [if_neg h1, if_pos h2]
    · rw [if_neg h1, if_neg h2]
      rw [Int32.lt_iff_toInt_lt] at h1 h2
      exact Int32.toInt_inj.mp (by omega)
theorem s_vtown (hK : Kc w V M pl im R g) (hw : WI w) {t : Nat} {k v : Int32} (ht : t < 16) (h : tnB w (nI t) k v = true) (H : ∀ g', fC g g' → Kc (tnR w (nI t) k v) V M [] im R g' → P (some (.int (nI 1))) (E g' q)) :
    callC (ev (d + 4)) vr_town [.ref 0, .int (nI t), .int k, .int v] (E g q) P := by
  refine in_vr_town rfl ?_
  have hc := hK.1.1
  have h : (townB w (nI t) && tmB w (nI t) k v) = true := h
  rw [Bool.and_eq_true] at h
  obtain ⟨h1, h2⟩ := h
  have ex : ix (nI t) = t := ix_nI (by omega)
  obtain ⟨⟨c0, n0⟩, -, ⟨c2, n2⟩, ⟨c3, n3⟩, ⟨c4, n4⟩, ⟨c5, n5⟩, ⟨c6, n6⟩, c7, n7⟩ := wi_y hw ht
  have tt := tc_t hc ht
  have e11 : g 12 t = nI (fd w t 15) := tt.2.2.1.trans c5
  have e12 : g 13 t = nI (fd w t 16) := tt.2.2.2.1.trans c6
  have n10 : (nI 1 = nI 0) = False := eq_false (by decide)
  have n20 : (nI 2 = nI 0) = False := eq_false (by decide)
  have n21 : (nI 2 = nI 1) = False := eq_false (by decide)
  have n30 : (nI 3 = nI 0) = False := eq_false (by decide)
  have n31 : (nI 3 = nI 1) = False := eq_false (by decide)
  have n32 : (nI 3 = nI 2) = False := eq_false (by decide)
  -- the object behind the two writes: row i, then the store
  have fin : ∀ i x y, i < 8 → tnR w (nI t) k v = pu (pu w (10 + 20 * t + tfd i) x) (10 + 20 * t + 16) y → P (some (.int (nI 1))) (E (upw (upw (upw g (10 + i) (pu (g (10 + i)) t x)) 13 (pu (upw g (10 + i) (pu (g (10 + i)) t x) 13) t y)) 91 (pu (pu (g 91) 1 (nI 0)) 2 (nI 0))) q) := by
    intro i x y hi hr
    have hl := tfd_l (k := i)
    refine H _ (fun b hb => by rw [upw_o (by omega), upw_o (by omega), upw_o (by omega)]) (Kc_mk hK ⟨?_, ?_, ?_⟩ (rgK_0 (by rw [pu_n (by decide), pu_s]) pu_s) fun b hb => by rw [upw_o (by omega), upw_o (by omega), upw_o (by omega)])
    · rw [hr]
      exact Tc_c (Tc_tf (i := 3) hw ⟨pu_n (by omega), fun n f hn hf => pu_n (by omega)⟩ (Tc_tf hw stc_r hc hi ht) (by decide) ht) fun a a1 a2 => by rw [upw_o (by omega)]
    · rw [hr]
      exact Tx_c hK.1.2.1 (fun k hk => by rw [pu_n (by omega), pu_n (by omega)]) (fun k _ => by rw [upw_o (by omega), upw_o (by omega), upw_o (by omega)]) (fun k _ => by rw [upw_o (by omega), upw_o (by omega), upw_o (by omega)]) (by rw [upw_o (by omega), upw_o (by omega), upw_o (by omega)])
    · exact CL_c hK.1.2.2 fun a a1 a2 a3 => by rw [upw_o (by omega), upw_o (by omega), upw_o (by omega)]
  -- a store that stays
  have stay : ∀ {f : Nat} {x : Int32}, f < 20 → f ≠ 16 → pu (pu w (10 + 20 * t + f) x) (10 + 20 * t + 16) (nI (fd w t 16)) = pu w (10 + 20 * t + f) x := by
    intro f x hf hf2
    funext j
    by_cases e : j = 10 + 20 * t + 16
    · rw [e, pu_s, pu_n (by omega)]
      exact c6.symm
    · rw [pu_n e]
  have hml : ∀ m, nI 50 * nI m = nI (50 * m) := fun m => nI_mul _ _
  have hnl : ¬ 50 * fd w t 15 < fd w t 16 := by omega
  rw [b_vr_town_0]
  simp -implicitDefEqProofs (disch := first | assumption | omega) only [szS_0, szS_i, szS_r, szS_l, x_cons, x_goto, ob_some, kl_i, kl_r, kl_l, kl_n, push_n, push_s, pop_0, pop_i, pop_r, Int.reduceToNat, List.length_cons, List.length_nil, Nat.reduceAdd, Nat.reduceLeDiff, Nat.zero_add, true_and, nI_n0, nat_le, Nat.add_zero, rt_vr_town_0, rt_vr_town_1, rt_vr_town_b, x_aaload, x_al0, x_al4, x_as4, x_call, x_getf, x_iaload, x_iastore, x_ifeq, x_ifne, x_il1, x_il2, x_il3, x_imul, x_iret, x_ldc, fd_0_0, fd_0_1, fd_0_2, fd_0_3, fd_0_4, fd_0_5, fd_0_6, fd_0_7, fd_0_8, fd_0_9, sf_0_9, fd_1_0, fd_1_1, fd_1_2, fd_1_3, fd_1_4]
  rw [s_cTown (t := 1) (by decide) hw hc]
  simp -implicitDefEqProofs (disch := first | assumption | omega) only [szS_0, szS_i, szS_r, szS_l, x_cons, x_goto, ob_some, kl_i, kl_r, kl_l, kl_n, push_n, push_s, pop_0, pop_i, pop_r, Int.reduceToNat, List.length_cons, List.length_nil, Nat.reduceAdd, Nat.reduceLeDiff, Nat.zero_add, true_and, nI_n0, nat_le, Nat.add_zero, rt_vr_town_0, rt_vr_town_1, rt_vr_town_b, x_aaload, x_al0, x_al4, x_as4, x_call, x_getf, x_iaload, x_iastore, x_ifeq, x_ifne, x_il1, x_il2, x_il3, x_imul, x_iret, x_ldc, bI_0, h1, Bool.true_eq_false, ↓reduceIte]
  rw [s_mayHave hc ht]
  simp -implicitDefEqProofs (disch := first | assumption | omega) only [szS_0, szS_i, szS_r, szS_l, x_cons, x_goto, ob_some, kl_i, kl_r, kl_l, kl_n, push_n, push_s, pop_0, pop_i, pop_r, Int.reduceToNat, List.length_cons, List.length_nil, Nat.reduceAdd, Nat.reduceLeDiff, Nat.zero_add, true_and, nI_n0, nat_le, Nat.add_zero, rt_vr_town_0, rt_vr_town_1, rt_vr_town_b, x_aaload, x_al0, x_al4, x_as4, x_call, x_getf, x_iaload, x_iastore, x_ifeq, x_ifne, x_il1, x_il2, x_il3, x_imul, x_iret, x_ldc, bI_0, h2, Bool.true_eq_false, ↓reduceIte]
  rw [b_vr_town_26]
  unfold tmB at h2
  rw [Bool.or_eq_true, Bool.or_eq_true, Bool.or_eq_true, Bool.and_eq_true, Bool.and_eq_true, Bool.and_eq_true, Bool.and_eq_true, ex] at h2
  rcases h2 with ((⟨h2, h3⟩ | ⟨h2, h3⟩) | ⟨h2, h3⟩) | ⟨h2, h3⟩
  · have h2 := of_decide_eq_true h2
    subst h2
    have hf := fin 0 v (nI (fd w t 16)) (by decide) (by simp only [tnR, ↓reduceIte, ex]; exact (stay (f := 10) (by decide) (by decide)).symm)
    rw [upw_o (by decide)] at hf
    simp -implicitDefEqProofs (disch := first | assumption | omega) only [szS_0, szS_i, szS_r, szS_l, x_cons, x_goto, ob_some, kl_i, kl_r, kl_l, kl_n, push_n, push_s, pop_0, pop_i, pop_r, Int.reduceToNat, List.length_cons, List.length_nil, Nat.reduceAdd, Nat.reduceLeDiff, Nat.zero_add, true_and, nI_n0, nat_le, Nat.add_zero, rt_vr_town_0, rt_vr_town_1, rt_vr_town_b, x_aaload, x_al0, x_al4, x_as4, x_call, x_getf, x_iaload, x_iastore, x_ifeq, x_ifne, x_il1, x_il2, x_il3, x_imul, x_iret, x_ldc, fd_0_0, fd_0_1, fd_0_2, fd_0_3, fd_0_4, fd_0_5, fd_0_6, fd_0_7, fd_0_8, fd_0_9, sf_0_9, fd_1_0, fd_1_1, fd_1_2, fd_1_3, fd_1_4, fd_7_0, sf_7_0, fd_7_1, sf_7_1, fd_7_2, sf_7_2, fd_7_3, sf_7_3, fd_7_4, sf_7_4, fd_7_5, fd_7_6, fd_7_7, fd_7_8, fd_7_9, fd_7_10, ld_9_0, ld_9_1, ld_9_2, ld_9_3, ld_9_4, ld_9_5, ld_9_6, ld_9_7, ld_10, sd_10, ln_10, ld_12, sd_12, ln_12, ld_13, sd_13, ln_13, pu_g, upw_o, e11, e12, hml, s_jmin, nI_ltE, hnl, ↓reduceIte, s_forget, pu_w, upw_s, upw_w, pu_s]
    exact hf
  · have h2 := of_decide_eq_true h2
    subst h2
    have hf := fin 1 v (nI (fd w t 16)) (by decide) (by simp only [tnR, n10, ↓reduceIte, ex]; exact (stay (f := 11) (by decide) (by decide)).symm)
    rw [upw_o (by decide)] at hf
    simp -implicitDefEqProofs (disch := first | assumption | omega) only [szS_0, szS_i, szS_r, szS_l, x_cons, x_goto, ob_some, kl_i, kl_r, kl_l, kl_n, push_n, push_s, pop_0, pop_i, pop_r, Int.reduceToNat, List.length_cons, List.length_nil, Nat.reduceAdd, Nat.reduceLeDiff, Nat.zero_add, true_and, nI_n0, nat_le, Nat.add_zero, rt_vr_town_0, rt_vr_town_1, rt_vr_town_b, x_aaload, x_al0, x_al4, x_as4, x_call, x_getf, x_iaload, x_iastore, x_ifeq, x_ifne, x_il1, x_il2, x_il3, x_imul, x_iret, x_ldc, fd_0_0, fd_0_1, fd_0_2, fd_0_3, fd_0_4, fd_0_5, fd_0_6, fd_0_7, fd_0_8, fd_0_9, sf_0_9, fd_1_0, fd_1_1, fd_1_2, fd_1_3, fd_1_4, fd_7_0, sf_7_0, fd_7_1, sf_7_1, fd_7_2, sf_7_2, fd_7_3, sf_7_3, fd_7_4, sf_7_4, fd_7_5, fd_7_6, fd_7_7, fd_7_8, fd_7_9, fd_7_10, ld_9_0, ld_9_1, ld_9_2, ld_9_3, ld_9_4, ld_9_5, ld_9_6, ld_9_7, ld_11, sd_11, ln_11, ld_12, sd_12, ln_12, ld_13, sd_13, ln_13, pu_g, upw_o, e11, e12, hml, s_jmin, nI_ltE, hnl, ↓reduceIte, s_forget, pu_w, upw_s, upw_w, pu_s]
    exact hf
  · have h2 := of_decide_eq_true h2
    subst h2
    have hf := fin 2 v (if nI 50 * v < nI (fd w t 16) then nI 50 * v else nI (fd w t 16)) (by decide) (by
      simp only [tnR, n20, n21, ↓reduceIte, ex]
      rw [min3, c6]
      rfl)
    rw [upw_o (by decide)] at hf
    simp -implicitDefEqProofs (disch := first | assumption | omega) only [szS_0, szS_i, szS_r, szS_l, x_cons, x_goto, ob_some, kl_i, kl_r, kl_l, kl_n, push_n, push_s, pop_0, pop_i, pop_r, Int.reduceToNat, List.length_cons, List.length_nil, Nat.reduceAdd, Nat.reduceLeDiff, Nat.zero_add, true_and, nI_n0, nat_le, Nat.add_zero, rt_vr_town_0, rt_vr_town_1, rt_vr_town_b, x_aaload, x_al0, x_al4, x_as4, x_call, x_getf, x_iaload, x_iastore, x_ifeq, x_ifne, x_il1, x_il2, x_il3, x_imul, x_iret, x_ldc, fd_0_0, fd_0_1, fd_0_2, fd_0_3, fd_0_4, fd_0_5, fd_0_6, fd_0_7, fd_0_8, fd_0_9, sf_0_9, fd_1_0, fd_1_1, fd_1_2, fd_1_3, fd_1_4, fd_7_0, sf_7_0, fd_7_1, sf_7_1, fd_7_2, sf_7_2, fd_7_3, sf_7_3, fd_7_4, sf_7_4, fd_7_5, fd_7_6, fd_7_7, fd_7_8, fd_7_9, fd_7_10, ld_9_0, ld_9_1, ld_9_2, ld_9_3, ld_9_4, ld_9_5, ld_9_6, ld_9_7, ld_12, sd_12, ln_12, ld_13, sd_13, ln_13, pu_g, upw_o, upw_s, pu_s, e12, s_jmin, s_forget, pu_w, upw_w]
    exact hf
  · have h2 := of_decide_eq_true h2
    have h3 := of_decide_eq_true h3
    subst h2
    rw [c5, hml] at h3
    obtain ⟨v', hv, rfl⟩ := int_is h3 (by omega)
    have hvl : ¬ 50 * fd w t 15 < v' := by omega
    have hf := fin 3 (nI v') (nI v') (by decide) (by
      simp only [tnR, n30, n31, n32, ↓reduceIte, ex]
      exact pu_pu.symm)
    rw [show 10 + 3 = 13 from rfl, upw_s, upw_w] at hf
    simp -implicitDefEqProofs (disch := first | assumption | omega) only [szS_0, szS_i, szS_r, szS_l, x_cons, x_goto, ob_some, kl_i, kl_r, kl_l, kl_n, push_n, push_s, pop_0, pop_i, pop_r, Int.reduceToNat, List.length_cons, List.length_nil, Nat.reduceAdd, Nat.reduceLeDiff, Nat.zero_add, true_and, nI_n0, nat_le, Nat.add_zero, rt_vr_town_0, rt_vr_town_1, rt_vr_town_b, x_aaload, x_al0, x_al4, x_as4, x_call, x_getf, x_iaload, x_iastore, x_ifeq, x_ifne, x_il1, x_il2, x_il3, x_imul, x_iret, x_ldc, fd_0_0, fd_0_1, fd_0_2, fd_0_3, fd_0_4, fd_0_5, fd_0_6, fd_0_7, fd_0_8, fd_0_9, sf_0_9, fd_1_0, fd_1_1, fd_1_2, fd_1_3, fd_1_4, fd_7_0, sf_7_0, fd_7_1, sf_7_1, fd_7_2, sf_7_2, fd_7_3, sf_7_3, fd_7_4, sf_7_4, fd_7_5, fd_7_6, fd_7_7, fd_7_8, fd_7_9, fd_7_10, ld_9_0, ld_9_1, ld_9_2, ld_9_3, ld_9_4, ld_9_5, ld_9_6, ld_9_7, ld_12, sd_12, ln_12, ld_13, sd_13, ln_13, pu_g, upw_o, upw_s, upw_w, pu_s, e11, hml, s_jmin, nI_ltE, hvl, ↓reduceIte, s_forget, pu_w]
    exact hf
end CS
