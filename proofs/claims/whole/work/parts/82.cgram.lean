/-! a law's cells in the class; rows made by a program (tools/p42.py) -/
section LR
variable {g : Nat → Nat → Int32} {q : Nat → Nat → Int64} {x : Int32} {k y b : Nat}
theorem lf_0 (hB : b = 22 ∨ b = 26 ∨ b = 52 ∨ b = 56 ∨ b = 82 ∨ b = 86) : fld (E g q) b 200 = some (.int (g b 0)) := by
  rcases hB with rfl | rfl | rfl | rfl | rfl | rfl
  · exact fd_22_0
  · exact fd_26_0
  · exact fd_52_0
  · exact fd_56_0
  · exact fd_82_0
  · exact fd_86_0
theorem ls_0 (hB : b = 22 ∨ b = 26 ∨ b = 52 ∨ b = 56 ∨ b = 82 ∨ b = 86) : sfd y (E g q) b 200 (.int x) = some (E (up2 g b 0 x) q) := by
  rcases hB with rfl | rfl | rfl | rfl | rfl | rfl
  · exact sf_22_0
  · exact sf_26_0
  · exact sf_52_0
  · exact sf_56_0
  · exact sf_82_0
  · exact sf_86_0
theorem lf_1 (hB : b = 22 ∨ b = 26 ∨ b = 52 ∨ b = 56 ∨ b = 82 ∨ b = 86) : fld (E g q) b 201 = some (.int (g b 1)) := by
  rcases hB with rfl | rfl | rfl | rfl | rfl | rfl
  · exact fd_22_1
  · exact fd_26_1
  · exact fd_52_1
  · exact fd_56_1
  · exact fd_82_1
  · exact fd_86_1
theorem ls_1 (hB : b = 22 ∨ b = 26 ∨ b = 52 ∨ b = 56 ∨ b = 82 ∨ b = 86) : sfd y (E g q) b 201 (.int x) = some (E (up2 g b 1 x) q) := by
  rcases hB with rfl | rfl | rfl | rfl | rfl | rfl
  · exact sf_22_1
  · exact sf_26_1
  · exact sf_52_1
  · exact sf_56_1
  · exact sf_82_1
  · exact sf_86_1
theorem lf_2 (hB : b = 22 ∨ b = 26 ∨ b = 52 ∨ b = 56 ∨ b = 82 ∨ b = 86) : fld (E g q) b 202 = some (.ref (b + 1)) := by
  rcases hB with rfl | rfl | rfl | rfl | rfl | rfl
  · exact fd_22_2
  · exact fd_26_2
  · exact fd_52_2
  · exact fd_56_2
  · exact fd_82_2
  · exact fd_86_2
theorem lf_3 (hB : b = 22 ∨ b = 26 ∨ b = 52 ∨ b = 56 ∨ b = 82 ∨ b = 86) : fld (E g q) b 203 = some (.ref (b + 2)) := by
  rcases hB with rfl | rfl | rfl | rfl | rfl | rfl
  · exact fd_22_3
  · exact fd_26_3
  · exact fd_52_3
  · exact fd_56_3
  · exact fd_82_3
  · exact fd_86_3
theorem lf_4 (hB : b = 22 ∨ b = 26 ∨ b = 52 ∨ b = 56 ∨ b = 82 ∨ b = 86) : fld (E g q) b 204 = some (.ref (b + 3)) := by
  rcases hB with rfl | rfl | rfl | rfl | rfl | rfl
  · exact fd_22_4
  · exact fd_26_4
  · exact fd_52_4
  · exact fd_56_4
  · exact fd_82_4
  · exact fd_86_4
theorem ll_1 (hB : b = 22 ∨ b = 26 ∨ b = 52 ∨ b = 56 ∨ b = 82 ∨ b = 86) (h : k < 400) : ild (E g q) (b + 1) (nI k) = some (.int (g (b + 1) k)) := by
  rcases hB with rfl | rfl | rfl | rfl | rfl | rfl <;> exact ldA rfl (by decide) h (by decide)
theorem ld_L1 (hB : b = 22 ∨ b = 26 ∨ b = 52 ∨ b = 56 ∨ b = 82 ∨ b = 86) (h : k < 400) : ist (E g q) (b + 1) (nI k) x = some (E (up2 g (b + 1) k x) q) := by
  rcases hB with rfl | rfl | rfl | rfl | rfl | rfl <;> exact stA rfl (by decide) h (by decide)
theorem lk_1 (hB : b = 22 ∨ b = 26 ∨ b = 52 ∨ b = 56 ∨ b = 82 ∨ b = 86) : kd (b + 1) = (0, 400) := by
  rcases hB with rfl | rfl | rfl | rfl | rfl | rfl <;> rfl
theorem ll_2 (hB : b = 22 ∨ b = 26 ∨ b = 52 ∨ b = 56 ∨ b = 82 ∨ b = 86) (h : k < 33) : ild (E g q) (b + 2) (nI k) = some (.int (g (b + 2) k)) := by
  rcases hB with rfl | rfl | rfl | rfl | rfl | rfl <;> exact ldA rfl (by decide) h (by decide)
theorem ld_L2 (hB : b = 22 ∨ b = 26 ∨ b = 52 ∨ b = 56 ∨ b = 82 ∨ b = 86) (h : k < 33) : ist (E g q) (b + 2) (nI k) x = some (E (up2 g (b + 2) k x) q) := by
  rcases hB with rfl | rfl | rfl | rfl | rfl | rfl <;> exact stA rfl (by decide) h (by decide)
theorem lk_2 (hB : b = 22 ∨ b = 26 ∨ b = 52 ∨ b = 56 ∨ b = 82 ∨ b = 86) : kd (b + 2) = (0, 33) := by
  rcases hB with rfl | rfl | rfl | rfl | rfl | rfl <;> rfl
theorem ll_3 (hB : b = 22 ∨ b = 26 ∨ b = 52 ∨ b = 56 ∨ b = 82 ∨ b = 86) (h : k < 64) : ild (E g q) (b + 3) (nI k) = some (.int (g (b + 3) k)) := by
  rcases hB with rfl | rfl | rfl | rfl | rfl | rfl <;> exact ldA rfl (by decide) h (by decide)
theorem ld_L3 (hB : b = 22 ∨ b = 26 ∨ b = 52 ∨ b = 56 ∨ b = 82 ∨ b = 86) (h : k < 64) : ist (E g q) (b + 3) (nI k) x = some (E (up2 g (b + 3) k x) q) := by
  rcases hB with rfl | rfl | rfl | rfl | rfl | rfl <;> exact stA rfl (by decide) h (by decide)
theorem lk_3 (hB : b = 22 ∨ b = 26 ∨ b = 52 ∨ b = 56 ∨ b = 82 ∨ b = 86) : kd (b + 3) = (0, 64) := by
  rcases hB with rfl | rfl | rfl | rfl | rfl | rfl <;> rfl
end LR
theorem lal_1 {g : Nat → Nat → Int32} {q : Nat → Nat → Int64} {b : Nat} (hB : b = 22 ∨ b = 26 ∨ b = 52 ∨ b = 56 ∨ b = 82 ∨ b = 86) : aln (E g q) (b + 1) = some 400 := by
  rcases hB with rfl | rfl | rfl | rfl | rfl | rfl
  · exact ln_23
  · exact ln_27
  · exact ln_53
  · exact ln_57
  · exact ln_83
  · exact ln_87
/-! the class reads sums and conditions -/
def gOK (T : Nat → Nat) (n k b s : Nat) (c : List Nat) (j : Nat) (g g' : Nat → Nat → Int32) : Prop := (∀ a, a ≠ 168 → a ≠ b → a ≠ b + 1 → g' a = g a) ∧ (∀ x, x ≠ 4 → x ≠ 5 → x ≠ 10 → g' 168 x = g 168 x) ∧ (∀ x, x ≠ 1 → g' b x = g b x) ∧ tkC T n k j g' ∧ g' b 1 = nI (s + c.length) ∧ cdR (g' (b + 1)) s c ∧ ∀ x, x < s → g' (b + 1) x = g (b + 1) x
def gXx (T : Nat → Nat) (n b f j : Nat) (g g' : Nat → Nat → Int32) : Prop := (∀ a, a ≠ 168 → a ≠ b → a ≠ b + 1 → g' a = g a) ∧ (∀ x, x ≠ 2 → x ≠ 3 → x ≠ 4 → x ≠ 5 → x ≠ 10 → g' 168 x = g 168 x) ∧ (∀ x, x ≠ 1 → g' b x = g b x) ∧ g' 168 2 = nI f ∧ g' 168 3 = nI (kB T n j) ∧ ∃ z, z ≤ 400 ∧ g' b 1 = nI z
theorem gOK_t {T : Nat → Nat} {n k b s j j' : Nat} {c c' : List Nat} {g g1 g2 : Nat → Nat → Int32} (h : gOK T n k b s c j g g1) (h' : gOK T n k b (s + c.length) c' j' g1 g2) : gOK T n k b s (c ++ c') j' g g2 := by
  obtain ⟨a1, a2, a3, a4, a5, a6, a7⟩ := h
  obtain ⟨b1, b2, b3, b4, b5, b6, b7⟩ := h'
  exact ⟨fun a h1 h2 h3 => (b1 a h1 h2 h3).trans (a1 a h1 h2 h3), fun x h1 h2 h3 => (b2 x h1 h2 h3).trans (a2 x h1 h2 h3), fun x hx => (b3 x hx).trans (a3 x hx), b4, by rw [b5, List.length_append, Nat.add_assoc], cdR_ap (cdR_b (Nat.le_refl _) b7 a6) b6, fun x hx => (b7 x (by omega)).trans (a7 x hx)⟩
theorem gOK_n {T : Nat → Nat} {n k b s j j' : Nat} {c' : List Nat} {g g1 g2 : Nat → Nat → Int32} (h : gOK T n k b s [] j g g1) (h' : gOK T n k b s c' j' g1 g2) : gOK T n k b s c' j' g g2 := gOK_t h h'
theorem gOK_3 {T : Nat → Nat} {n k b s j j1 j' v : Nat} {c c' : List Nat} {g g1 g2 g3 : Nat → Nat → Int32} (h : gOK T n k b s c j g g1) (h1 : gOK T n k b (s + c.length) [v] j1 g1 g2) (h2 : gOK T n k b (s + c.length + 1) c' j' g2 g3) : gOK T n k b s (c ++ [v] ++ c') j' g g3 := by
  rw [List.append_assoc]
  exact gOK_t h (gOK_t h1 h2)
theorem gXx_t {T : Nat → Nat} {n k b s j f j' : Nat} {c : List Nat} {g g1 g2 : Nat → Nat → Int32} (h : gOK T n k b s c j g g1) (h' : gXx T n b f j' g1 g2) : gXx T n b f j' g g2 :=
  ⟨fun a h1 h2 h3 => (h'.1 a h1 h2 h3).trans (h.1 a h1 h2 h3), fun x h1 h2 h3 h4 h5 => (h'.2.1 x h1 h2 h3 h4 h5).trans (h.2.1 x h3 h4 h5), fun x hx => (h'.2.2.1 x hx).trans (h.2.2.1 x hx), h'.2.2.2⟩
def gIn (T : Nat → Nat) (n k b s i : Nat) (g : Nat → Nat → Int32) : Prop := tkC T n k i g ∧ g b 1 = nI s ∧ s ≤ i ∧ i ≤ n ∧ n ≤ 400 ∧ k < 3 ∧ 1 ≤ i
theorem gIn_t {T : Nat → Nat} {n k b s i j : Nat} {c : List Nat} {g g' : Nat → Nat → Int32} (h : gIn T n k b s i g) (h' : gOK T n k b s c j g g') (hl : s + c.length ≤ j) (hj : j ≤ n) (hj1 : 1 ≤ j) : gIn T n k b (s + c.length) j g' := ⟨h'.2.2.2.1, h'.2.2.2.2.1, hl, hj, h.2.2.2.2.1, h.2.2.2.2.2.1, hj1⟩
theorem gIn_0 {T : Nat → Nat} {n k b s i j : Nat} {g g' : Nat → Nat → Int32} (h : gIn T n k b s i g) (h' : gOK T n k b s [] (i + j) g g') (hj : i + j ≤ n) : gIn T n k b s (i + j) g' := gIn_t h h' (by have := h.2.2.1; show s + 0 ≤ i + j; omega) hj (by have := h.2.2.2.2.2.2; omega)
theorem gIn_1 {T : Nat → Nat} {n k b s i v : Nat} {g g' : Nat → Nat → Int32} (h : gIn T n k b s i g) (h' : gOK T n k b s [v] i g g') (hl : s + 1 ≤ i) : gIn T n k b (s + 1) i g' := gIn_t h h' hl h.2.2.2.1 h.2.2.2.2.2.2
theorem gOK_r {T : Nat → Nat} {n k b s i : Nat} {g : Nat → Nat → Int32} (h : gIn T n k b s i g) : gOK T n k b s [] i g g := ⟨fun _ _ _ _ => rfl, fun _ _ _ _ => rfl, fun _ _ => rfl, h.1, h.2.1, trivial, fun _ _ => rfl⟩
theorem okR_ce {n k s D i j : Nat} {t : Bool} {l : List (Nat × Nat)} (hs : s ≤ i) (u : okR n k t D i l j) : s + (cxL (k - 1) l).length ≤ j := by
  have h1 := u.2.2.1
  omega
theorem okR_cs {n k s D i j : Nat} {t : Bool} {l : List (Nat × Nat)} (hs : s ≤ i) (u : okR n k t D (i + 1) l j) : s + (cxL (k - 1) l).length ≤ j := okR_ce (by omega) u
theorem okR_c1 {n k s D i j : Nat} {t : Bool} {l : List (Nat × Nat)} (hs : s ≤ i) (u : okR n k t D (i + 1) l j) : s + (cxL (k - 1) l).length + 1 ≤ j := by
  have h1 := u.2.2.1
  omega
theorem okR_j1 {n k D i j : Nat} {t : Bool} {l : List (Nat × Nat)} (u : okR n k t D i l j) : 1 ≤ j := by
  have := u.1
  omega
def gFn (T : Nat → Nat) (n k b d m : Nat) (al : List Value) (F : Nat → Rs) : Prop := ∀ {g : Nat → Nat → Int32} {q : Nat → Nat → Int64} {P : QT} {s i : Nat}, gIn T n k b s i g →
  (∀ l j g', F i = .inr (l, j) → gOK T n k b s (cxL (k - 1) l) j g g' → P (some (.int (nI 1))) (E g' q)) → (∀ f j g', F i = .inl (f, j) → gXx T n b f j g g' → P (some (.int (nI 0))) (E g' q)) → callC (ev d) m (.ref 173 :: .ref b :: al) (E g q) P
/-- the sum's rest, behind a part: what waits is laid behind it -/
def wl (o : Nat) : List (Nat × Nat) := if o = 0 then [] else [(o, 0)]
def wc (o : Nat) : Nat := if o = 0 then 0 else if o = 23 then 43 else 45
def rsF (T : Nat → Nat) (n k f1 f2 i o : Nat) : Rs := bd (pdL T n k f1 i) fun l j => ap (l ++ wl o) (smL T n k f2 j)
section CG
variable {d : Nat} {g : Nat → Nat → Int32} {q : Nat → Nat → Int64} {P : QT} {T : Nat → Nat} {n k b s i : Nat}
theorem rs_g {f1 f2 o j : Nat} {l : List (Nat × Nat)} : bd (ap l (pdL T n k f1 j)) (fun l j => ap (l ++ wl o) (smL T n k f2 j)) = ap l (rsF T n k f1 f2 j o) := by
  unfold rsF
  rw [bd_ap, ap_bd]
  congr 1
  funext l' j'
  rw [ap_ap, List.append_assoc]
theorem rs_m {f1 f2 o : Nat} (h : kC T n k i = 142) : rsF T n k (f1 + 1) f2 i o = bd (unF T n k (i + 1)) fun l j => ap (l ++ [(25, 0)]) (rsF T n k f1 f2 j o) := by
  have e : pdL T n k (f1 + 1) i = bd (unF T n k (i + 1)) fun l j => ap (l ++ [(25, 0)]) (pdL T n k f1 j) := if_pos h
  unfold rsF
  rw [e, bd_bd]
  congr 1
  funext l' j'
  exact rs_g
theorem rs_d {f1 f2 o : Nat} (h : kC T n k i = 147) : rsF T n k (f1 + 1) f2 i o = if kC T n k (i + 1) ≠ 2 then .inl (1, i + 1) else if kN T n (i + 1) = 0 then .inl (2, i + 1) else ap [(26, kN T n (i + 1))] (rsF T n k f1 f2 (i + 2) o) := by
  have e : pdL T n k (f1 + 1) i = if kC T n k (i + 1) ≠ 2 then .inl (1, i + 1) else if kN T n (i + 1) = 0 then .inl (2, i + 1) else ap [(26, kN T n (i + 1))] (pdL T n k f1 (i + 2)) := by
    show (if kC T n k i = 142 then _ else if kC T n k i = 147 then _ else _) = _
    rw [if_neg (by omega), if_pos h]
  show bd (pdL T n k (f1 + 1) i) _ = _
  rw [e]
  by_cases h1 : kC T n k (i + 1) ≠ 2
  · rw [if_pos h1, if_pos h1]
    rfl
  · rw [if_neg h1, if_neg h1]
    by_cases h2 : kN T n (i + 1) = 0
    · rw [if_pos h2, if_pos h2]
      rfl
    · rw [if_neg h2, if_neg h2]
      exact rs_g
theorem pd_z {f : Nat} (h1 : kC T n k i ≠ 142) (h2 : kC T n k i ≠ 147) : pdL T n k (f + 1) i = .inr ([], i) := by
  show (if kC T n k i = 142 then _ else if kC T n k i = 147 then _ else _) = _
  rw [if_neg h1, if_neg h2]
theorem rs_a {f1 f2 o o' : Nat} (h : kC T n k i = 143 ∧ o' = 23 ∨ kC T n k i = 145 ∧ o' = 24) : rsF T n k (f1 + 1) (f2 + 1) i o = ap (wl o) (bd (unF T n k (i + 1)) fun l j => ap l (rsF T n k 401 f2 j o')) := by
  have e1 : rsF T n k (f1 + 1) (f2 + 1) i o = ap (wl o) (smL T n k (f2 + 1) i) := bd_r (pd_z (by omega) (by omega))
  have e2 : smL T n k (f2 + 1) i = bd (pdF T n k (i + 1)) fun l j => ap (l ++ [(if kC T n k i = 143 then 23 else 24, 0)]) (smL T n k f2 j) := if_pos (by omega)
  have e3 : (if kC T n k i = 143 then 23 else 24) = o' := by
    rcases h with ⟨h, rfl⟩ | ⟨h, rfl⟩
    · exact if_pos h
    · exact if_neg (by omega)
  have e4 : [(o', 0)] = wl o' := by
    rcases h with ⟨h, rfl⟩ | ⟨h, rfl⟩ <;> rfl
  rw [e1, e2, e3, e4]
  unfold pdF
  rw [bd_bd]
  congr 2
  funext l' j'
  exact rs_g
theorem rs_z {f1 f2 o : Nat} (h1 : kC T n k i ≠ 142) (h2 : kC T n k i ≠ 147) (h3 : kC T n k i ≠ 143) (h4 : kC T n k i ≠ 145) : rsF T n k (f1 + 1) (f2 + 1) i o = .inr (wl o, i) := by
  have e1 : rsF T n k (f1 + 1) (f2 + 1) i o = ap (wl o) (smL T n k (f2 + 1) i) := bd_r (pd_z h1 h2)
  have e2 : smL T n k (f2 + 1) i = .inr ([], i) := if_neg (by omega)
  rw [e1, e2]
  show (Sum.inr (wl o ++ [], i) : Rs) = _
  rw [List.append_nil]
theorem smF_rs : smF T n k i = bd (unF T n k i) fun l j => ap l (rsF T n k 401 401 j 0) := by
  unfold smF pdF
  rw [bd_bd]
  congr 1
  funext l j
  rw [bd_ap]
  unfold rsF
  rw [ap_bd]
  congr 1
  funext l' j'
  rw [ap_ap]
  show _ = ap (l ++ (l' ++ [])) _
  rw [List.append_nil]
theorem s_put (hB : b = 22 ∨ b = 26 ∨ b = 52 ∨ b = 56 ∨ b = 82 ∨ b = 86) (h1 : g b 1 = nI s) (hs : s < 400) {v : Int32} : callC (ev (d + 1)) la_put [.ref b, .int v] (E g q) P = P none (E (upw (upw g (b + 1) (pu (g (b + 1)) s v)) b (pu (g b) 1 (nI (s + 1)))) q) := by
  refine call_eq (in_la_put (by rcases hB with rfl | rfl | rfl | rfl | rfl | rfl <;> rfl) ?_)
  have hb1 : b ≠ b + 1 := by omega
  rw [b_la_put_0]
  simp -implicitDefEqProofs (disch := first | assumption | omega) only [szS_0, szS_i, szS_r, szS_l, x_cons, x_goto, ob_some, kl_i, kl_r, kl_l, kl_n, push_n, push_s, pop_0, pop_i, pop_r, Int.reduceToNat, List.length_cons, List.length_nil, Nat.reduceAdd, Nat.reduceLeDiff, Nat.zero_add, true_and, nI_n0, nat_le, Nat.add_zero, rt_la_put, x_al0, x_alen, x_dupi, x_dupr, x_getf, x_iadd, x_iastore, x_icge, x_il1, x_ldc, x_putf, x_vret, lf_0, lf_1, lf_2, lf_3, lf_4, ls_0, ls_1, ll_1, ld_L1, lal_1, h1, nI_ltE, hs, ↓reduceIte, pu_g, upw_o, hb1, nI_add, b_la_put_32, upw_s]
  all_goals first | rfl | exact ⟨rfl, rfl⟩ | exact ⟨rfl, trivial⟩ | exact ⟨trivial, rfl⟩ | trivial
theorem s_put0 (hB : b = 22 ∨ b = 26 ∨ b = 52 ∨ b = 56 ∨ b = 82 ∨ b = 86) (h1 : g b 1 = nI 400) {v : Int32} : callC (ev (d + 1)) la_put [.ref b, .int v] (E g q) P = P none (E g q) := by
  refine call_eq (in_la_put (by rcases hB with rfl | rfl | rfl | rfl | rfl | rfl <;> rfl) ?_)
  rw [b_la_put_0]
  simp -implicitDefEqProofs (disch := first | assumption | omega) only [szS_0, szS_i, szS_r, szS_l, x_cons, x_goto, ob_some, kl_i, kl_r, kl_l, kl_n, push_n, push_s, pop_0, pop_i, pop_r, Int.reduceToNat, List.length_cons, List.length_nil, Nat.reduceAdd, Nat.reduceLeDiff, Nat.zero_add, true_and, nI_n0, nat_le, Nat.add_zero, rt_la_put, x_al0, x_alen, x_dupi, x_dupr, x_getf, x_iadd, x_iastore, x_icge, x_il1, x_ldc, x_putf, x_vret, lf_0, lf_1, lf_2, lf_3, lf_4, ls_0, ls_1, ll_1, ld_L1, lal_1, h1, nI_ltE, Nat.lt_irrefl, ↓reduceIte, b_la_put_32]
  all_goals first | rfl | exact ⟨rfl, rfl⟩ | exact ⟨rfl, trivial⟩ | exact ⟨trivial, rfl⟩ | trivial
theorem s_putX (hB : b = 22 ∨ b = 26 ∨ b = 52 ∨ b = 56 ∨ b = 82 ∨ b = 86) {f j : Nat} {g0 : Nat → Nat → Int32} (h : gXx T n b f j g0 g) {v : Int32} (H : ∀ g', gXx T n b f j g0 g' → P none (E g' q)) : callC (ev (d + 1)) la_put [.ref b, .int v] (E g q) P := by
  obtain ⟨a1, a2, a3, a4, a5, z, hz, h1⟩ := h
  by_cases hz2 : z = 400
  · rw [s_put0 hB (by rw [h1, hz2])]
    exact H g ⟨a1, a2, a3, a4, a5, z, hz, h1⟩
  · rw [s_put hB h1 (by omega)]
    have o : ∀ c, c ≠ b → c ≠ b + 1 → upw (upw g (b + 1) (pu (g (b + 1)) z v)) b (pu (g b) 1 (nI (z + 1))) c = g c := fun c c1 c2 => by rw [upw_o c1, upw_o c2]
    have o168 := o 168 (by omega) (by omega)
    exact H _ ⟨fun a h1 h2 h3 => (o a h2 h3).trans (a1 a h1 h2 h3), fun x h1 h2 h3 h4 h5 => by rw [o168]; exact a2 x h1 h2 h3 h4 h5, fun x hx => by rw [upw_s, pu_n hx]; exact a3 x hx, by rw [o168]; exact a4, by rw [o168]; exact a5, z + 1, by omega, by rw [upw_s, pu_s]⟩
theorem s_cput (hB : b = 22 ∨ b = 26 ∨ b = 52 ∨ b = 56 ∨ b = 82 ∨ b = 86) (h : gIn T n k b s i g) (hs : s < 400) {v : Nat} (H : ∀ g', gOK T n k b s [v] i g g' → P none (E g' q)) : callC (ev (d + 1)) la_put [.ref b, .int (nI v)] (E g q) P := by
  rw [s_put hB h.2.1 hs]
  have o : ∀ c, c ≠ b → c ≠ b + 1 → upw (upw g (b + 1) (pu (g (b + 1)) s (nI v))) b (pu (g b) 1 (nI (s + 1))) c = g c := fun c c1 c2 => by rw [upw_o c1, upw_o c2]
  have o168 := o 168 (by omega) (by omega)
  have ob1 : upw (upw g (b + 1) (pu (g (b + 1)) s (nI v))) b (pu (g b) 1 (nI (s + 1))) (b + 1) = pu (g (b + 1)) s (nI v) := by rw [upw_o (by omega), upw_s]
  refine H _ ⟨fun a h1 h2 h3 => o a h2 h3, fun x _ _ _ => by rw [o168], fun x hx => by rw [upw_s, pu_n hx], tkC_f h.1 (fun x _ => by rw [o168]) (o 170 (by omega) (by omega)) (o 171 (by omega) (by omega)) (o 172 (by omega) (by omega)), by rw [upw_s, pu_s]; rfl, ⟨by rw [ob1, pu_s], trivial⟩, fun x hx => by rw [ob1, pu_n (by omega)]⟩
theorem gOK_N (hB : b = 22 ∨ b = 26 ∨ b = 52 ∨ b = 56 ∨ b = 82 ∨ b = 86) (h : gIn T n k b s i g) {g' : Nat → Nat → Int32} (h' : rdN T n k i g g') : gOK T n k b s [] (i + 1) g g' :=
  ⟨fun a h1 _ _ => h'.1 a h1, fun x h1 h2 h3 => h'.2.1 x h1 h2 h3, fun x _ => by rw [h'.1 b (by omega)], h'.2.2, by rw [h'.1 b (by omega)]; exact h.2.1, trivial, fun x _ => by rw [h'.1 (b + 1) (by omega)]⟩
theorem gXx_N (hB : b = 22 ∨ b = 26 ∨ b = 52 ∨ b = 56 ∨ b = 82 ∨ b = 86) (h : gIn T n k b s i g) {f : Nat} {g' : Nat → Nat → Int32} (h' : rdX T n i f g g') : gXx T n b f i g g' :=
  ⟨fun a h1 _ _ => h'.1 a h1, fun x h1 h2 _ _ _ => h'.2.1 x h1 h2, fun x _ => by rw [h'.1 b (by omega)], h'.2.2.1, h'.2.2.2, s, by have := h.2.2.1; have := h.2.2.2.1; have := h.2.2.2.2.1; omega, by rw [h'.1 b (by omega)]; exact h.2.1⟩
theorem s_cnx (hB : b = 22 ∨ b = 26 ∨ b = 52 ∨ b = 56 ∨ b = 82 ∨ b = 86) (h : gIn T n k b s i g) (H : ∀ g', gOK T n k b s [] (i + 1) g g' → P none (E g' q)) : callC (ev (d + 2)) re_next [.ref 168] (E g q) P :=
  s_rnext h.1 fun g' f1 f2 t => H g' (gOK_N hB h ⟨f1, f2, t⟩)
theorem s_crefuse (hB : b = 22 ∨ b = 26 ∨ b = 52 ∨ b = 56 ∨ b = 82 ∨ b = 86) (h : gIn T n k b s i g) {f : Nat} (H : ∀ g', gXx T n b f i g g' → P (some (.int (nI 0))) (E g' q)) : callC (ev (d + 1)) re_refuse [.ref 168, .int (nI f)] (E g q) P :=
  s_refuse h.2.2.2.2.2.1 h.1 fun g' f1 f2 e2 e3 => H g' (gXx_N hB h ⟨f1, f2, e2, e3⟩)
theorem s_cunit (hB : b = 22 ∨ b = 26 ∨ b = 52 ∨ b = 56 ∨ b = 82 ∨ b = 86) (hk0 : 1 ≤ k) : gFn T n k b (d + 3) pa_readUnit [] (unF T n k) := by
  intro g q P s i h HN HX
  refine in_pa_readUnit rfl ?_
  have hk := h.2.2.2.2.2.1
  obtain ⟨ht, -⟩ := tkC_t hk h.1
  have e4 := tkR_k ht
  have hkl := kdN_l (kC T n k i)
  have hs := h.2.2.1
  have hi := h.2.2.2.1
  have hn := h.2.2.2.2.1
  have eu : unF T n k i = if kC T n k i = 2 then .inr ([(0, kN T n i)], i + 1) else if 41 ≤ kC T n k i ∧ kC T n k i ≤ 52 then .inr ([(kC T n k i - 40, 0)], i + 1) else .inl (1, i) := rfl
  have fin : ∀ (o : Nat × Nat) (v : Nat) (g1 : Nat → Nat → Int32), kC T n k i ≠ 0 → unF T n k i = .inr ([o], i + 1) → cxL (k - 1) [o] = [v] → gOK T n k b s [v] i g g1 → wp (ev (d + 2)) P pa_readUnit 76 [some (.ref 173), some (.ref b)] [] (E g1 q) := by
    intro o v g1 h0 e ev o1
    have hin := kC_l (T := T) (n := n) (i := i) hk h0
    obtain ⟨c1, c2, c3, c4, c5, c6, c7⟩ := o1
    rw [b_pa_readUnit_76]
    simp -implicitDefEqProofs (disch := first | assumption | omega) only [szS_0, szS_i, szS_r, szS_l, x_cons, x_goto, ob_some, kl_i, kl_r, kl_l, kl_n, push_n, push_s, pop_0, pop_i, pop_r, Int.reduceToNat, List.length_cons, List.length_nil, Nat.reduceAdd, Nat.reduceLeDiff, Nat.zero_add, true_and, nI_n0, nat_le, Nat.add_zero, rt_pa_readUnit_0, rt_pa_readUnit_1, rt_pa_readUnit_b, x_al0, x_al1, x_call, x_getf, x_goto, x_iadd, x_iclt, x_icne, x_iret, x_isub, x_ldc, fd_173_0]
    refine s_rnext c4 fun g2 f1 f2 t2 => ?_
    simp -implicitDefEqProofs (disch := first | assumption | omega) only [szS_0, szS_i, szS_r, szS_l, x_cons, x_goto, ob_some, kl_i, kl_r, kl_l, kl_n, push_n, push_s, pop_0, pop_i, pop_r, Int.reduceToNat, List.length_cons, List.length_nil, Nat.reduceAdd, Nat.reduceLeDiff, Nat.zero_add, true_and, nI_n0, nat_le, Nat.add_zero, rt_pa_readUnit_0, rt_pa_readUnit_1, rt_pa_readUnit_b, x_al0, x_al1, x_call, x_getf, x_goto, x_iadd, x_iclt, x_icne, x_iret, x_isub, x_ldc]
    refine HN _ _ g2 e ?_
    rw [ev]
    have eb1 := f1 (b + 1) (by omega)
    exact ⟨fun a h1 h2 h3 => (f1 a h1).trans (c1 a h1 h2 h3), fun x h1 h2 h3 => (f2 x h1 h2 h3).trans (c2 x h1 h2 h3), fun x hx => by rw [f1 b (by omega)]; exact c3 x hx, t2, by rw [f1 b (by omega)]; exact c5, by rw [eb1]; exact c6, fun x hx => by rw [eb1]; exact c7 x hx⟩
  have bad : kC T n k i ≠ 2 → ¬ (41 ≤ kC T n k i ∧ kC T n k i ≤ 52) → wp (ev (d + 2)) P pa_readUnit 67 [some (.ref 173), some (.ref b)] [] (E g q) := by
    intro h1 h2
    rw [if_neg h1, if_neg h2] at eu
    rw [b_pa_readUnit_67]
    simp -implicitDefEqProofs (disch := first | assumption | omega) only [szS_0, szS_i, szS_r, szS_l, x_cons, x_goto, ob_some, kl_i, kl_r, kl_l, kl_n, push_n, push_s, pop_0, pop_i, pop_r, Int.reduceToNat, List.length_cons, List.length_nil, Nat.reduceAdd, Nat.reduceLeDiff, Nat.zero_add, true_and, nI_n0, nat_le, Nat.add_zero, rt_pa_readUnit_0, rt_pa_readUnit_1, rt_pa_readUnit_b, x_al0, x_al1, x_call, x_getf, x_goto, x_iadd, x_iclt, x_icne, x_iret, x_isub, x_ldc, fd_173_0]
    refine s_crefuse (d := d + 1) hB h fun g1 x1 => ?_
    simp -implicitDefEqProofs (disch := first | assumption | omega) only [szS_0, szS_i, szS_r, szS_l, x_cons, x_goto, ob_some, kl_i, kl_r, kl_l, kl_n, push_n, push_s, pop_0, pop_i, pop_r, Int.reduceToNat, List.length_cons, List.length_nil, Nat.reduceAdd, Nat.reduceLeDiff, Nat.zero_add, true_and, nI_n0, nat_le, Nat.add_zero, rt_pa_readUnit_0, rt_pa_readUnit_1, rt_pa_readUnit_b, x_al0, x_al1, x_call, x_getf, x_goto, x_iadd, x_iclt, x_icne, x_iret, x_isub, x_ldc]
    exact HX _ _ g1 eu x1
  rw [b_pa_readUnit_0]
  simp -implicitDefEqProofs (disch := first | assumption | omega) only [szS_0, szS_i, szS_r, szS_l, x_cons, x_goto, ob_some, kl_i, kl_r, kl_l, kl_n, push_n, push_s, pop_0, pop_i, pop_r, Int.reduceToNat, List.length_cons, List.length_nil, Nat.reduceAdd, Nat.reduceLeDiff, Nat.zero_add, true_and, nI_n0, nat_le, Nat.add_zero, rt_pa_readUnit_0, rt_pa_readUnit_1, rt_pa_readUnit_b, x_al0, x_al1, x_call, x_getf, x_goto, x_iadd, x_iclt, x_icne, x_iret, x_isub, x_ldc, fd_173_0, fd_168_0, fd_168_1, sf_168_1, fd_168_2, sf_168_2, fd_168_3, sf_168_3, fd_168_4, sf_168_4, fd_168_5, sf_168_5, fd_168_6, fd_168_7, fd_168_8, fd_168_9, sf_168_9, fd_168_10, sf_168_10, e4, nI_eqE]
  by_cases h1 : kdN (kC T n k i) = 2
  · have hc := kdN_2.mp h1
    obtain ⟨-, e5, hm⟩ := ht.2.2.1 hc
    have hin := kC_l (T := T) (n := n) (i := i) hk (by omega)
    rw [if_pos hc] at eu
    simp only [h1, ↓reduceIte]
    try simp -implicitDefEqProofs (disch := first | assumption | omega) only [szS_0, szS_i, szS_r, szS_l, x_cons, x_goto, ob_some, kl_i, kl_r, kl_l, kl_n, push_n, push_s, pop_0, pop_i, pop_r, Int.reduceToNat, List.length_cons, List.length_nil, Nat.reduceAdd, Nat.reduceLeDiff, Nat.zero_add, true_and, nI_n0, nat_le, Nat.add_zero, rt_pa_readUnit_0, rt_pa_readUnit_1, rt_pa_readUnit_b, x_al0, x_al1, x_call, x_getf, x_goto, x_iadd, x_iclt, x_icne, x_iret, x_isub, x_ldc, fd_173_0, fd_168_0, fd_168_1, sf_168_1, fd_168_2, sf_168_2, fd_168_3, sf_168_3, fd_168_4, sf_168_4, fd_168_5, sf_168_5, fd_168_6, fd_168_7, fd_168_8, fd_168_9, sf_168_9, fd_168_10, sf_168_10, e5]
    refine s_cput (d := d + 1) hB h (by omega) fun g1 o1 => ?_
    simp -implicitDefEqProofs (disch := first | assumption | omega) only [szS_0, szS_i, szS_r, szS_l, x_cons, x_goto, ob_some, kl_i, kl_r, kl_l, kl_n, push_n, push_s, pop_0, pop_i, pop_r, Int.reduceToNat, List.length_cons, List.length_nil, Nat.reduceAdd, Nat.reduceLeDiff, Nat.zero_add, true_and, nI_n0, nat_le, Nat.add_zero, rt_pa_readUnit_0, rt_pa_readUnit_1, rt_pa_readUnit_b, x_al0, x_al1, x_call, x_getf, x_goto, x_iadd, x_iclt, x_icne, x_iret, x_isub, x_ldc]
    exact fin (0, kN T n i) _ g1 (by omega) eu rfl o1
  · have hc2 : kC T n k i ≠ 2 := fun e => h1 (kdN_2.mpr e)
    rw [if_neg hc2] at eu
    simp only [h1, ↓reduceIte]
    try simp -implicitDefEqProofs (disch := first | assumption | omega) only [b_pa_readUnit_25, szS_0, szS_i, szS_r, szS_l, x_cons, x_goto, ob_some, kl_i, kl_r, kl_l, kl_n, push_n, push_s, pop_0, pop_i, pop_r, Int.reduceToNat, List.length_cons, List.length_nil, Nat.reduceAdd, Nat.reduceLeDiff, Nat.zero_add, true_and, nI_n0, nat_le, Nat.add_zero, rt_pa_readUnit_0, rt_pa_readUnit_1, rt_pa_readUnit_b, x_al0, x_al1, x_call, x_getf, x_goto, x_iadd, x_iclt, x_icne, x_iret, x_isub, x_ldc, fd_173_0, fd_168_0, fd_168_1, sf_168_1, fd_168_2, sf_168_2, fd_168_3, sf_168_3, fd_168_4, sf_168_4, fd_168_5, sf_168_5, fd_168_6, fd_168_7, fd_168_8, fd_168_9, sf_168_9, fd_168_10, sf_168_10, e4, nI_eqE]
    by_cases h2 : kdN (kC T n k i) = 1
    · have hc := kdN_w.mp h2
      obtain ⟨-, j, hj, e1, e5⟩ := ht.2.2.2.2 hc.1 hc.2
      have hjl := WN_l hk
      simp only [h2, ↓reduceIte]
      try simp -implicitDefEqProofs (disch := first | assumption | omega) only [szS_0, szS_i, szS_r, szS_l, x_cons, x_goto, ob_some, kl_i, kl_r, kl_l, kl_n, push_n, push_s, pop_0, pop_i, pop_r, Int.reduceToNat, List.length_cons, List.length_nil, Nat.reduceAdd, Nat.reduceLeDiff, Nat.zero_add, true_and, nI_n0, nat_le, Nat.add_zero, rt_pa_readUnit_0, rt_pa_readUnit_1, rt_pa_readUnit_b, x_al0, x_al1, x_call, x_getf, x_goto, x_iadd, x_iclt, x_icne, x_iret, x_isub, x_ldc, fd_173_0, fd_168_0, fd_168_1, sf_168_1, fd_168_2, sf_168_2, fd_168_3, sf_168_3, fd_168_4, sf_168_4, fd_168_5, sf_168_5, fd_168_6, fd_168_7, fd_168_8, fd_168_9, sf_168_9, fd_168_10, sf_168_10, e5, nI_ltE]
      by_cases h3 : j < 5
      · simp only [h3, ↓reduceIte]
        refine bad hc2 fun h => ?_
        have := (nm_ok hk0 hk hj (by omega)).2.1
        omega
      · have h41 := wd_5 hk0 hk hj (by omega)
        obtain ⟨n1, n2, n3, n4⟩ := nm_ok hk0 hk hj h41
        rw [← e1] at h41 n1 n4
        have hin := kC_l (T := T) (n := n) (i := i) hk (by omega)
        have l5 : 5 ≤ 10000 + j := by omega
        rw [if_pos ⟨h41, n1⟩] at eu
        simp only [h3, ↓reduceIte]
        try simp -implicitDefEqProofs (disch := first | assumption | omega) only [szS_0, szS_i, szS_r, szS_l, x_cons, x_goto, ob_some, kl_i, kl_r, kl_l, kl_n, push_n, push_s, pop_0, pop_i, pop_r, Int.reduceToNat, List.length_cons, List.length_nil, Nat.reduceAdd, Nat.reduceLeDiff, Nat.zero_add, true_and, nI_n0, nat_le, Nat.add_zero, rt_pa_readUnit_0, rt_pa_readUnit_1, rt_pa_readUnit_b, x_al0, x_al1, x_call, x_getf, x_goto, x_iadd, x_iclt, x_icne, x_iret, x_isub, x_ldc, fd_173_0, fd_168_0, fd_168_1, sf_168_1, fd_168_2, sf_168_2, fd_168_3, sf_168_3, fd_168_4, sf_168_4, fd_168_5, sf_168_5, fd_168_6, fd_168_7, fd_168_8, fd_168_9, sf_168_9, fd_168_10, sf_168_10, e5, nI_add, nI_sub, l5]
        refine s_cput (d := d + 1) hB h (by omega) fun g1 o1 => ?_
        simp -implicitDefEqProofs (disch := first | assumption | omega) only [szS_0, szS_i, szS_r, szS_l, x_cons, x_goto, ob_some, kl_i, kl_r, kl_l, kl_n, push_n, push_s, pop_0, pop_i, pop_r, Int.reduceToNat, List.length_cons, List.length_nil, Nat.reduceAdd, Nat.reduceLeDiff, Nat.zero_add, true_and, nI_n0, nat_le, Nat.add_zero, rt_pa_readUnit_0, rt_pa_readUnit_1, rt_pa_readUnit_b, x_al0, x_al1, x_call, x_getf, x_goto, x_iadd, x_iclt, x_icne, x_iret, x_isub, x_ldc]
        refine fin (kC T n k i - 40, 0) _ g1 (by omega) eu ?_ o1
        show cxO (k - 1) (kC T n k i - 40, 0) ++ [] = _
        unfold cxO
        rw [if_neg (by show ¬ kC T n k i - 40 = 0; omega), if_pos (by show kC T n k i - 40 < 13; omega), n4, show 10000 + j - 5 = 10000 + (j - 5) by omega]
        rfl
    · simp only [h2, ↓reduceIte]
      exact bad hc2 fun h => h2 (kdN_w.mpr (by omega))
theorem rs_x {c : Nat} {a0 a1 a2 o5 o6 o7 : Option Value} (hc : c < 1000) (H : P (some (.int (nI 0))) (E g q)) : wp (ev d) P pa_readSum 11 [a0, a1, a2, some (.int (nI 0)), some (.int (nI c)), o5, o6, o7] [] (E g q) := by
  rw [b_pa_readSum_11]
  simp -implicitDefEqProofs (disch := first | assumption | omega) only [szS_0, szS_i, szS_r, szS_l, x_cons, x_goto, ob_some, kl_i, kl_r, kl_l, kl_n, push_n, push_s, pop_0, pop_i, pop_r, Int.reduceToNat, List.length_cons, List.length_nil, Nat.reduceAdd, Nat.reduceLeDiff, Nat.zero_add, true_and, nI_n0, nat_le, Nat.add_zero, i_1, rt_pa_readSum_0, rt_pa_readSum_1, rt_pa_readSum_b, x_al0, x_al1, x_call, x_getf, x_goto, x_iadd, x_icge, x_icne, x_ifeq, x_ifne, x_il2, x_il3, x_il4, x_il5, x_il6, x_il7, x_inc4, x_iret, x_is2, x_is3, x_is4, x_is5, x_is6, x_is7, x_ldc, nI_ltE]
  by_cases h : c < 400
  · simp only [h, ↓reduceIte]
    try simp -implicitDefEqProofs (disch := first | assumption | omega) only [szS_0, szS_i, szS_r, szS_l, x_cons, x_goto, ob_some, kl_i, kl_r, kl_l, kl_n, push_n, push_s, pop_0, pop_i, pop_r, Int.reduceToNat, List.length_cons, List.length_nil, Nat.reduceAdd, Nat.reduceLeDiff, Nat.zero_add, true_and, nI_n0, nat_le, Nat.add_zero, i_1, rt_pa_readSum_0, rt_pa_readSum_1, rt_pa_readSum_b, x_al0, x_al1, x_call, x_getf, x_goto, x_iadd, x_icge, x_icne, x_ifeq, x_ifne, x_il2, x_il3, x_il4, x_il5, x_il6, x_il7, x_inc4, x_iret, x_is2, x_is3, x_is4, x_is5, x_is6, x_is7, x_ldc, ↓reduceIte, b_pa_readSum_195]
    exact H
  · simp only [h, ↓reduceIte]
    try simp -implicitDefEqProofs (disch := first | assumption | omega) only [szS_0, szS_i, szS_r, szS_l, x_cons, x_goto, ob_some, kl_i, kl_r, kl_l, kl_n, push_n, push_s, pop_0, pop_i, pop_r, Int.reduceToNat, List.length_cons, List.length_nil, Nat.reduceAdd, Nat.reduceLeDiff, Nat.zero_add, true_and, nI_n0, nat_le, Nat.add_zero, i_1, rt_pa_readSum_0, rt_pa_readSum_1, rt_pa_readSum_b, x_al0, x_al1, x_call, x_getf, x_goto, x_iadd, x_icge, x_icne, x_ifeq, x_ifne, x_il2, x_il3, x_il4, x_il5, x_il6, x_il7, x_inc4, x_iret, x_is2, x_is3, x_is4, x_is5, x_is6, x_is7, x_ldc, b_pa_readSum_195]
    exact H
/-- a part behind a sign could not be read -/
theorem rs_y (hB : b = 22 ∨ b = 26 ∨ b = 52 ∨ b = 56 ∨ b = 82 ∨ b = 86) {c f j : Nat} {a2 a3 a5 : Option Value} {v7 : Int32} {b6 : Bool} {g0 : Nat → Nat → Int32} (hc : c < 900) (h : gXx T n b f j g0 g) (H : ∀ g', gXx T n b f j g0 g' → P (some (.int (nI 0))) (E g' q)) :
    wp (ev (d + 1)) P pa_readSum 166 [some (.ref 173), some (.ref b), a2, a3, some (.int (nI c)), a5, some (.int (bI b6)), some (.int v7)] [] (E g q) := by
  rw [b_pa_readSum_166]
  simp -implicitDefEqProofs (disch := first | assumption | omega) only [szS_0, szS_i, szS_r, szS_l, x_cons, x_goto, ob_some, kl_i, kl_r, kl_l, kl_n, push_n, push_s, pop_0, pop_i, pop_r, Int.reduceToNat, List.length_cons, List.length_nil, Nat.reduceAdd, Nat.reduceLeDiff, Nat.zero_add, true_and, nI_n0, nat_le, Nat.add_zero, i_1, rt_pa_readSum_0, rt_pa_readSum_1, rt_pa_readSum_b, x_al0, x_al1, x_call, x_getf, x_goto, x_iadd, x_icge, x_icne, x_ifeq, x_ifne, x_il2, x_il3, x_il4, x_il5, x_il6, x_il7, x_inc4, x_iret, x_is2, x_is3, x_is4, x_is5, x_is6, x_is7, x_ldc, b_pa_readSum_167, bI_0]
  cases b6
  · simp -implicitDefEqProofs (disch := first | assumption | omega) only [↓reduceIte, b_pa_readSum_186, b_pa_readSum_189, szS_0, szS_i, szS_r, szS_l, x_cons, x_goto, ob_some, kl_i, kl_r, kl_l, kl_n, push_n, push_s, pop_0, pop_i, pop_r, Int.reduceToNat, List.length_cons, List.length_nil, Nat.reduceAdd, Nat.reduceLeDiff, Nat.zero_add, true_and, nI_n0, nat_le, Nat.add_zero, i_1, rt_pa_readSum_0, rt_pa_readSum_1, rt_pa_readSum_b, x_al0, x_al1, x_call, x_getf, x_goto, x_iadd, x_icge, x_icne, x_ifeq, x_ifne, x_il2, x_il3, x_il4, x_il5, x_il6, x_il7, x_inc4, x_iret, x_is2, x_is3, x_is4, x_is5, x_is6, x_is7, x_ldc, nI_add]
    exact rs_x (by omega) (H g h)
  · simp -implicitDefEqProofs (disch := first | assumption | omega) only [Bool.true_eq_false, ↓reduceIte, szS_0, szS_i, szS_r, szS_l, x_cons, x_goto, ob_some, kl_i, kl_r, kl_l, kl_n, push_n, push_s, pop_0, pop_i, pop_r, Int.reduceToNat, List.length_cons, List.length_nil, Nat.reduceAdd, Nat.reduceLeDiff, Nat.zero_add, true_and, nI_n0, nat_le, Nat.add_zero, i_1, rt_pa_readSum_0, rt_pa_readSum_1, rt_pa_readSum_b, x_al0, x_al1, x_call, x_getf, x_goto, x_iadd, x_icge, x_icne, x_ifeq, x_ifne, x_il2, x_il3, x_il4, x_il5, x_il6, x_il7, x_inc4, x_iret, x_is2, x_is3, x_is4, x_is5, x_is6, x_is7, x_ldc]
    refine s_putX hB h fun g1 x1 => ?_
    simp -implicitDefEqProofs (disch := first | assumption | omega) only [b_pa_readSum_189, szS_0, szS_i, szS_r, szS_l, x_cons, x_goto, ob_some, kl_i, kl_r, kl_l, kl_n, push_n, push_s, pop_0, pop_i, pop_r, Int.reduceToNat, List.length_cons, List.length_nil, Nat.reduceAdd, Nat.reduceLeDiff, Nat.zero_add, true_and, nI_n0, nat_le, Nat.add_zero, i_1, rt_pa_readSum_0, rt_pa_readSum_1, rt_pa_readSum_b, x_al0, x_al1, x_call, x_getf, x_goto, x_iadd, x_icge, x_icne, x_ifeq, x_ifne, x_il2, x_il3, x_il4, x_il5, x_il6, x_il7, x_inc4, x_iret, x_is2, x_is3, x_is4, x_is5, x_is6, x_is7, x_ldc, nI_add]
    exact rs_x (by omega) (H g1 x1)
theorem rs_lp (hB : b = 22 ∨ b = 26 ∨ b = 52 ∨ b = 56 ∨ b = 82 ∨ b = 86) (hk0 : 1 ≤ k) (hk : k < 3) (hn : n ≤ 400) : ∀ (m i s c f1 f2 o : Nat) (g : Nat → Nat → Int32) (o5 o6 o7 : Option Value), n + 1 ≤ i + m → n + 1 ≤ i + f1 → n + 1 ≤ i + f2 → c + 1 ≤ i → (o = 0 ∨ o = 23 ∨ o = 24) → gIn T n k b s i g → (o ≠ 0 → s + 1 ≤ i) →
    (∀ l j g', rsF T n k f1 f2 i o = .inr (l, j) → gOK T n k b s (cxL (k - 1) l) j g g' → P (some (.int (nI 1))) (E g' q)) → (∀ f' j g', rsF T n k f1 f2 i o = .inl (f', j) → gXx T n b f' j g g' → P (some (.int (nI 0))) (E g' q)) →
    wp (ev (d + 3)) P pa_readSum 11 [some (.ref 173), some (.ref b), some (.int (nI (wc o))), some (.int (nI 1)), some (.int (nI c)), o5, o6, o7] [] (E g q) := by
  intro m
  induction m with
  | zero =>
    intro i s c f1 f2 o g o5 o6 o7 hm _ _ _ _ h
    have := h.2.2.2.1
    omega
  | succ m ih =>
    intro i s c f1 f2 o g o5 o6 o7 hm hf1 hf2 hci ho h hso HN HX
    obtain ⟨f1', rfl⟩ : ∃ x, f1 = x + 1 := ⟨f1 - 1, by have := h.2.2.2.1; omega⟩
    obtain ⟨f2', rfl⟩ : ∃ x, f2 = x + 1 := ⟨f2 - 1, by have := h.2.2.2.1; omega⟩
    have n10 : (nI 1 = nI 0) = False := eq_false (by decide)
    have hi := h.2.2.2.1
    have hsi := h.2.2.1
    have hi1 := h.2.2.2.2.2.2
    have hc4 : c < 400 := by omega
    obtain ⟨ht, -⟩ := tkC_t hk h.1
    -- a product's sign
    have pro : ∀ (sg : Nat) (b5 : Bool), (sg = 42 ∨ sg = 47) → kC T n k i = 100 + sg → wp (ev (d + 3)) P pa_readSum 83 [some (.ref 173), some (.ref b), some (.int (nI (wc o))), some (.int (nI 1)), some (.int (nI c)), some (.int (bI b5)), o6, o7] [.int (nI 1)] (E g q) := by
      intro sg b5 hsg hc
      have e5 : g 168 5 = nI sg := by
        have := (ht.2.2.2.1 (by omega)).2.1
        rw [this, hc, Nat.add_sub_cancel_left]
      have hin := kC_n (T := T) (n := n) (i := i) hk (by omega)
      have sgl : sg < 100 := by omega
      have one : (bI true : Int32) = nI 1 := rfl
      have part : wp (ev (d + 3)) P pa_readSum 126 [some (.ref 173), some (.ref b), some (.int (nI (wc o))), some (.int (nI 1)), some (.int (nI c)), some (.int (bI b5)), some (.int (nI 1)), some (.int (nI sg))] [] (E g q) := by
        rw [b_pa_readSum_126]
        simp -implicitDefEqProofs (disch := first | assumption | omega) only [szS_0, szS_i, szS_r, szS_l, x_cons, x_goto, ob_some, kl_i, kl_r, kl_l, kl_n, push_n, push_s, pop_0, pop_i, pop_r, Int.reduceToNat, List.length_cons, List.length_nil, Nat.reduceAdd, Nat.reduceLeDiff, Nat.zero_add, true_and, nI_n0, nat_le, Nat.add_zero, i_1, rt_pa_readSum_0, rt_pa_readSum_1, rt_pa_readSum_b, x_al0, x_al1, x_call, x_getf, x_goto, x_iadd, x_icge, x_icne, x_ifeq, x_ifne, x_il2, x_il3, x_il4, x_il5, x_il6, x_il7, x_inc4, x_iret, x_is2, x_is3, x_is4, x_is5, x_is6, x_is7, x_ldc, fd_173_0]
        refine s_cnx (d := d + 1) hB h fun g1 o1 => ?_
        have h1 := gIn_0 h o1 hin
        simp -implicitDefEqProofs (disch := first | assumption | omega) only [szS_0, szS_i, szS_r, szS_l, x_cons, x_goto, ob_some, kl_i, kl_r, kl_l, kl_n, push_n, push_s, pop_0, pop_i, pop_r, Int.reduceToNat, List.length_cons, List.length_nil, Nat.reduceAdd, Nat.reduceLeDiff, Nat.zero_add, true_and, nI_n0, nat_le, Nat.add_zero, i_1, rt_pa_readSum_0, rt_pa_readSum_1, rt_pa_readSum_b, x_al0, x_al1, x_call, x_getf, x_goto, x_iadd, x_icge, x_icne, x_ifeq, x_ifne, x_il2, x_il3, x_il4, x_il5, x_il6, x_il7, x_inc4, x_iret, x_is2, x_is3, x_is4, x_is5, x_is6, x_is7, x_ldc, nI_eqE]
        rcases hsg with rfl | rfl
        · have eu := rs_m (f1 := f1') (f2 := f2' + 1) (o := o) hc
          have l47 : ¬ (42 : Nat) = 47 := by decide
          simp only [l47, ↓reduceIte]
          try simp -implicitDefEqProofs (disch := first | assumption | omega) only [b_pa_readSum_154, szS_0, szS_i, szS_r, szS_l, x_cons, x_goto, ob_some, kl_i, kl_r, kl_l, kl_n, push_n, push_s, pop_0, pop_i, pop_r, Int.reduceToNat, List.length_cons, List.length_nil, Nat.reduceAdd, Nat.reduceLeDiff, Nat.zero_add, true_and, nI_n0, nat_le, Nat.add_zero, i_1, rt_pa_readSum_0, rt_pa_readSum_1, rt_pa_readSum_b, x_al0, x_al1, x_call, x_getf, x_goto, x_iadd, x_icge, x_icne, x_ifeq, x_ifne, x_il2, x_il3, x_il4, x_il5, x_il6, x_il7, x_inc4, x_iret, x_is2, x_is3, x_is4, x_is5, x_is6, x_is7, x_ldc]
          refine s_cunit (d := d) hB hk0 h1 (fun l j g2 e o2 => ?_) fun f' j g2 e x2 => ?_
          · have u := unF_k hk0 hk e
            have h2 := gIn_t h1 o2 (okR_cs hsi u) u.2.1 (okR_j1 u)
            have hl := okR_c1 hsi u
            simp -implicitDefEqProofs (disch := first | assumption | omega) only [szS_0, szS_i, szS_r, szS_l, x_cons, x_goto, ob_some, kl_i, kl_r, kl_l, kl_n, push_n, push_s, pop_0, pop_i, pop_r, Int.reduceToNat, List.length_cons, List.length_nil, Nat.reduceAdd, Nat.reduceLeDiff, Nat.zero_add, true_and, nI_n0, nat_le, Nat.add_zero, i_1, rt_pa_readSum_0, rt_pa_readSum_1, rt_pa_readSum_b, x_al0, x_al1, x_call, x_getf, x_goto, x_iadd, x_icge, x_icne, x_ifeq, x_ifne, x_il2, x_il3, x_il4, x_il5, x_il6, x_il7, x_inc4, x_iret, x_is2, x_is3, x_is4, x_is5, x_is6, x_is7, x_ldc, n10, ↓reduceIte, b_pa_readSum_167, nI_add]
            refine s_cput (d := d + 2) hB h2 (by have := u.2.1; omega) fun g3 o3 => ?_
            simp -implicitDefEqProofs (disch := first | assumption | omega) only [szS_0, szS_i, szS_r, szS_l, x_cons, x_goto, ob_some, kl_i, kl_r, kl_l, kl_n, push_n, push_s, pop_0, pop_i, pop_r, Int.reduceToNat, List.length_cons, List.length_nil, Nat.reduceAdd, Nat.reduceLeDiff, Nat.zero_add, true_and, nI_n0, nat_le, Nat.add_zero, i_1, rt_pa_readSum_0, rt_pa_readSum_1, rt_pa_readSum_b, x_al0, x_al1, x_call, x_getf, x_goto, x_iadd, x_icge, x_icne, x_ifeq, x_ifne, x_il2, x_il3, x_il4, x_il5, x_il6, x_il7, x_inc4, x_iret, x_is2, x_is3, x_is4, x_is5, x_is6, x_is7, x_ldc, b_pa_readSum_189, nI_add]
            exact ih j _ (c + 1) f1' (f2' + 1) o g3 _ _ _ (by have := u.1; omega) (by have := u.1; omega) (by have := u.1; omega) (by have := u.1; omega) ho (gIn_1 h2 o3 hl) (fun h => by
              have := hso h
              have := u.2.2.1
              omega) (fun l' j' g4 e' o4 => HN _ _ g4 (eu.trans ((bd_r e).trans (ap_r e'))) (by
              rw [cxL_ap, cxL_ap]
              exact gOK_3 (gOK_n o1 o2) o3 o4)) fun f' j' g4 e' x4 => HX _ _ g4 (eu.trans ((bd_r e).trans (ap_l e'))) (gXx_t (gOK_t (gOK_n o1 o2) o3) x4)
          · simp -implicitDefEqProofs (disch := first | assumption | omega) only [szS_0, szS_i, szS_r, szS_l, x_cons, x_goto, ob_some, kl_i, kl_r, kl_l, kl_n, push_n, push_s, pop_0, pop_i, pop_r, Int.reduceToNat, List.length_cons, List.length_nil, Nat.reduceAdd, Nat.reduceLeDiff, Nat.zero_add, true_and, nI_n0, nat_le, Nat.add_zero, i_1, rt_pa_readSum_0, rt_pa_readSum_1, rt_pa_readSum_b, x_al0, x_al1, x_call, x_getf, x_goto, x_iadd, x_icge, x_icne, x_ifeq, x_ifne, x_il2, x_il3, x_il4, x_il5, x_il6, x_il7, x_inc4, x_iret, x_is2, x_is3, x_is4, x_is5, x_is6, x_is7, x_ldc, ↓reduceIte]
            exact rs_y (d := d + 2) (b6 := true) hB (by omega) (gXx_t o1 x2) fun g3 x3 => HX _ _ g3 (eu.trans (bd_l e)) x3
        · have eu := rs_d (f1 := f1') (f2 := f2' + 1) (o := o) hc
          simp only [↓reduceIte]
          try simp -implicitDefEqProofs (disch := first | assumption | omega) only [szS_0, szS_i, szS_r, szS_l, x_cons, x_goto, ob_some, kl_i, kl_r, kl_l, kl_n, push_n, push_s, pop_0, pop_i, pop_r, Int.reduceToNat, List.length_cons, List.length_nil, Nat.reduceAdd, Nat.reduceLeDiff, Nat.zero_add, true_and, nI_n0, nat_le, Nat.add_zero, i_1, rt_pa_readSum_0, rt_pa_readSum_1, rt_pa_readSum_b, x_al0, x_al1, x_call, x_getf, x_goto, x_iadd, x_icge, x_icne, x_ifeq, x_ifne, x_il2, x_il3, x_il4, x_il5, x_il6, x_il7, x_inc4, x_iret, x_is2, x_is3, x_is4, x_is5, x_is6, x_is7, x_ldc, fd_173_0]
          refine s_findNumber (d := d + 1) hk h1.1 (by decide) (by decide) (fun c2 l1 l2 e5 l3 => ?_) (fun c2 g2 x2 => ?_) fun c2 l1 g2 x2 => ?_
          · have hin2 := kC_n (T := T) (n := n) (i := i + 1) hk (by omega)
            rw [if_neg (fun h => h c2), if_neg (by omega)] at eu
            have e : unF T n k (i + 1) = .inr ([(0, kN T n (i + 1))], i + 1 + 1) := if_pos c2
            simp -implicitDefEqProofs (disch := first | assumption | omega) only [szS_0, szS_i, szS_r, szS_l, x_cons, x_goto, ob_some, kl_i, kl_r, kl_l, kl_n, push_n, push_s, pop_0, pop_i, pop_r, Int.reduceToNat, List.length_cons, List.length_nil, Nat.reduceAdd, Nat.reduceLeDiff, Nat.zero_add, true_and, nI_n0, nat_le, Nat.add_zero, i_1, rt_pa_readSum_0, rt_pa_readSum_1, rt_pa_readSum_b, x_al0, x_al1, x_call, x_getf, x_goto, x_iadd, x_icge, x_icne, x_ifeq, x_ifne, x_il2, x_il3, x_il4, x_il5, x_il6, x_il7, x_inc4, x_iret, x_is2, x_is3, x_is4, x_is5, x_is6, x_is7, x_ldc, n10, ↓reduceIte, b_pa_readSum_154]
            refine s_cunit (d := d) hB hk0 h1 (fun l j g2 e2 o2 => ?_) fun f' j g2 e2 x2 => ?_
            · rw [e] at e2
              cases e2
              have h2 : gIn T n k b (s + 1) (i + 1 + 1) g2 := gIn_t h1 o2 (by show s + 1 ≤ i + 1 + 1; omega) hin2 (by omega)
              simp -implicitDefEqProofs (disch := first | assumption | omega) only [szS_0, szS_i, szS_r, szS_l, x_cons, x_goto, ob_some, kl_i, kl_r, kl_l, kl_n, push_n, push_s, pop_0, pop_i, pop_r, Int.reduceToNat, List.length_cons, List.length_nil, Nat.reduceAdd, Nat.reduceLeDiff, Nat.zero_add, true_and, nI_n0, nat_le, Nat.add_zero, i_1, rt_pa_readSum_0, rt_pa_readSum_1, rt_pa_readSum_b, x_al0, x_al1, x_call, x_getf, x_goto, x_iadd, x_icge, x_icne, x_ifeq, x_ifne, x_il2, x_il3, x_il4, x_il5, x_il6, x_il7, x_inc4, x_iret, x_is2, x_is3, x_is4, x_is5, x_is6, x_is7, x_ldc, n10, ↓reduceIte, b_pa_readSum_167, nI_add]
              refine s_cput (d := d + 2) hB h2 (by omega) fun g3 o3 => ?_
              simp -implicitDefEqProofs (disch := first | assumption | omega) only [szS_0, szS_i, szS_r, szS_l, x_cons, x_goto, ob_some, kl_i, kl_r, kl_l, kl_n, push_n, push_s, pop_0, pop_i, pop_r, Int.reduceToNat, List.length_cons, List.length_nil, Nat.reduceAdd, Nat.reduceLeDiff, Nat.zero_add, true_and, nI_n0, nat_le, Nat.add_zero, i_1, rt_pa_readSum_0, rt_pa_readSum_1, rt_pa_readSum_b, x_al0, x_al1, x_call, x_getf, x_goto, x_iadd, x_icge, x_icne, x_ifeq, x_ifne, x_il2, x_il3, x_il4, x_il5, x_il6, x_il7, x_inc4, x_iret, x_is2, x_is3, x_is4, x_is5, x_is6, x_is7, x_ldc, b_pa_readSum_189, nI_add]
              exact ih (i + 1 + 1) _ (c + 1) f1' (f2' + 1) o g3 _ _ _ (by omega) (by omega) (by omega) (by omega) ho (gIn_1 h2 o3 (by omega)) (fun h => by
                have := hso h
                omega) (fun l' j' g4 e' o4 => HN _ _ g4 (eu.trans (ap_r e')) (by
                rw [cxL_ap]
                exact gOK_3 (gOK_n o1 o2) o3 o4)) fun f' j' g4 e' x4 => HX _ _ g4 (eu.trans (ap_l e')) (gXx_t (gOK_t (gOK_n o1 o2) o3) x4)
            · rw [e] at e2
              cases e2
          · rw [if_pos c2] at eu
            simp -implicitDefEqProofs (disch := first | assumption | omega) only [szS_0, szS_i, szS_r, szS_l, x_cons, x_goto, ob_some, kl_i, kl_r, kl_l, kl_n, push_n, push_s, pop_0, pop_i, pop_r, Int.reduceToNat, List.length_cons, List.length_nil, Nat.reduceAdd, Nat.reduceLeDiff, Nat.zero_add, true_and, nI_n0, nat_le, Nat.add_zero, i_1, rt_pa_readSum_0, rt_pa_readSum_1, rt_pa_readSum_b, x_al0, x_al1, x_call, x_getf, x_goto, x_iadd, x_icge, x_icne, x_ifeq, x_ifne, x_il2, x_il3, x_il4, x_il5, x_il6, x_il7, x_inc4, x_iret, x_is2, x_is3, x_is4, x_is5, x_is6, x_is7, x_ldc, ↓reduceIte]
            exact rs_y (d := d + 2) (b6 := true) hB (by omega) (gXx_t o1 (gXx_N hB h1 x2)) fun g3 x3 => HX _ _ g3 eu x3
          · rw [if_neg (fun h => h c2), if_pos (by have := kN_l (T := T) (n := n) (i := i + 1); omega)] at eu
            simp -implicitDefEqProofs (disch := first | assumption | omega) only [szS_0, szS_i, szS_r, szS_l, x_cons, x_goto, ob_some, kl_i, kl_r, kl_l, kl_n, push_n, push_s, pop_0, pop_i, pop_r, Int.reduceToNat, List.length_cons, List.length_nil, Nat.reduceAdd, Nat.reduceLeDiff, Nat.zero_add, true_and, nI_n0, nat_le, Nat.add_zero, i_1, rt_pa_readSum_0, rt_pa_readSum_1, rt_pa_readSum_b, x_al0, x_al1, x_call, x_getf, x_goto, x_iadd, x_icge, x_icne, x_ifeq, x_ifne, x_il2, x_il3, x_il4, x_il5, x_il6, x_il7, x_inc4, x_iret, x_is2, x_is3, x_is4, x_is5, x_is6, x_is7, x_ldc, ↓reduceIte]
            exact rs_y (d := d + 2) (b6 := true) hB (by omega) (gXx_t o1 (gXx_N hB h1 x2)) fun g3 x3 => HX _ _ g3 eu x3
      rw [b_pa_readSum_83]
      simp -implicitDefEqProofs (disch := first | assumption | omega) only [szS_0, szS_i, szS_r, szS_l, x_cons, x_goto, ob_some, kl_i, kl_r, kl_l, kl_n, push_n, push_s, pop_0, pop_i, pop_r, Int.reduceToNat, List.length_cons, List.length_nil, Nat.reduceAdd, Nat.reduceLeDiff, Nat.zero_add, true_and, nI_n0, nat_le, Nat.add_zero, i_1, rt_pa_readSum_0, rt_pa_readSum_1, rt_pa_readSum_b, x_al0, x_al1, x_call, x_getf, x_goto, x_iadd, x_icge, x_icne, x_ifeq, x_ifne, x_il2, x_il3, x_il4, x_il5, x_il6, x_il7, x_inc4, x_iret, x_is2, x_is3, x_is4, x_is5, x_is6, x_is7, x_ldc, fd_173_0, fd_168_0, fd_168_1, sf_168_1, fd_168_2, sf_168_2, fd_168_3, sf_168_3, fd_168_4, sf_168_4, fd_168_5, sf_168_5, fd_168_6, fd_168_7, fd_168_8, fd_168_9, sf_168_9, fd_168_10, sf_168_10, e5, n10, ↓reduceIte, b_pa_readSum_114, bI_0]
      cases b5
      · simp -implicitDefEqProofs (disch := first | assumption | omega) only [↓reduceIte, szS_0, szS_i, szS_r, szS_l, x_cons, x_goto, ob_some, kl_i, kl_r, kl_l, kl_n, push_n, push_s, pop_0, pop_i, pop_r, Int.reduceToNat, List.length_cons, List.length_nil, Nat.reduceAdd, Nat.reduceLeDiff, Nat.zero_add, true_and, nI_n0, nat_le, Nat.add_zero, i_1, rt_pa_readSum_0, rt_pa_readSum_1, rt_pa_readSum_b, x_al0, x_al1, x_call, x_getf, x_goto, x_iadd, x_icge, x_icne, x_ifeq, x_ifne, x_il2, x_il3, x_il4, x_il5, x_il6, x_il7, x_inc4, x_iret, x_is2, x_is3, x_is4, x_is5, x_is6, x_is7, x_ldc, n10]
        exact part
      · simp -implicitDefEqProofs (disch := first | assumption | omega) only [Bool.true_eq_false, ↓reduceIte]
        exact part
    -- what waits is laid
    have lay : ∀ (b5 : Bool) (v7 : Int32), g 168 5 = v7 → (∀ g1, gOK T n k b s (cxL (k - 1) (wl o)) i g g1 → gIn T n k b (s + (cxL (k - 1) (wl o)).length) i g1 → ∀ a2, wp (ev (d + 3)) P pa_readSum 114 [some (.ref 173), some (.ref b), a2, some (.int (nI 1)), some (.int (nI c)), some (.int (bI b5)), some (.int (nI 0)), some (.int v7)] [] (E g1 q)) →
        wp (ev (d + 3)) P pa_readSum 83 [some (.ref 173), some (.ref b), some (.int (nI (wc o))), some (.int (nI 1)), some (.int (nI c)), some (.int (bI b5)), o6, o7] [.int (nI 0)] (E g q) := by
      intro b5 v7 e5 K
      rw [b_pa_readSum_83]
      simp -implicitDefEqProofs (disch := first | assumption | omega) only [szS_0, szS_i, szS_r, szS_l, x_cons, x_goto, ob_some, kl_i, kl_r, kl_l, kl_n, push_n, push_s, pop_0, pop_i, pop_r, Int.reduceToNat, List.length_cons, List.length_nil, Nat.reduceAdd, Nat.reduceLeDiff, Nat.zero_add, true_and, nI_n0, nat_le, Nat.add_zero, i_1, rt_pa_readSum_0, rt_pa_readSum_1, rt_pa_readSum_b, x_al0, x_al1, x_call, x_getf, x_goto, x_iadd, x_icge, x_icne, x_ifeq, x_ifne, x_il2, x_il3, x_il4, x_il5, x_il6, x_il7, x_inc4, x_iret, x_is2, x_is3, x_is4, x_is5, x_is6, x_is7, x_ldc, fd_173_0, fd_168_0, fd_168_1, sf_168_1, fd_168_2, sf_168_2, fd_168_3, sf_168_3, fd_168_4, sf_168_4, fd_168_5, sf_168_5, fd_168_6, fd_168_7, fd_168_8, fd_168_9, sf_168_9, fd_168_10, sf_168_10, e5, ↓reduceIte]
      rcases ho with rfl | rfl | rfl
      · simp -implicitDefEqProofs (disch := first | assumption | omega) only [show wc 0 = 0 from rfl, ↓reduceIte]
        exact K g (gOK_r h) h _
      · have hs1 := hso (by decide)
        have e0 : (nI (wc 23) = nI 0) = False := eq_false (by decide)
        simp -implicitDefEqProofs (disch := first | assumption | omega) only [e0, ↓reduceIte, szS_0, szS_i, szS_r, szS_l, x_cons, x_goto, ob_some, kl_i, kl_r, kl_l, kl_n, push_n, push_s, pop_0, pop_i, pop_r, Int.reduceToNat, List.length_cons, List.length_nil, Nat.reduceAdd, Nat.reduceLeDiff, Nat.zero_add, true_and, nI_n0, nat_le, Nat.add_zero, i_1, rt_pa_readSum_0, rt_pa_readSum_1, rt_pa_readSum_b, x_al0, x_al1, x_call, x_getf, x_goto, x_iadd, x_icge, x_icne, x_ifeq, x_ifne, x_il2, x_il3, x_il4, x_il5, x_il6, x_il7, x_inc4, x_iret, x_is2, x_is3, x_is4, x_is5, x_is6, x_is7, x_ldc, show nI 20000 + nI (wc 23) = nI 20043 from rfl]
        refine s_cput (d := d + 2) hB h (by omega) fun g1 o1 => ?_
        simp -implicitDefEqProofs (disch := first | assumption | omega) only [szS_0, szS_i, szS_r, szS_l, x_cons, x_goto, ob_some, kl_i, kl_r, kl_l, kl_n, push_n, push_s, pop_0, pop_i, pop_r, Int.reduceToNat, List.length_cons, List.length_nil, Nat.reduceAdd, Nat.reduceLeDiff, Nat.zero_add, true_and, nI_n0, nat_le, Nat.add_zero, i_1, rt_pa_readSum_0, rt_pa_readSum_1, rt_pa_readSum_b, x_al0, x_al1, x_call, x_getf, x_goto, x_iadd, x_icge, x_icne, x_ifeq, x_ifne, x_il2, x_il3, x_il4, x_il5, x_il6, x_il7, x_inc4, x_iret, x_is2, x_is3, x_is4, x_is5, x_is6, x_is7, x_ldc]
        exact K g1 o1 (gIn_1 h o1 hs1) _
      · have hs1 := hso (by decide)
        have e0 : (nI (wc 24) = nI 0) = False := eq_false (by decide)
        simp -implicitDefEqProofs (disch := first | assumption | omega) only [e0, ↓reduceIte, szS_0, szS_i, szS_r, szS_l, x_cons, x_goto, ob_some, kl_i, kl_r, kl_l, kl_n, push_n, push_s, pop_0, pop_i, pop_r, Int.reduceToNat, List.length_cons, List.length_nil, Nat.reduceAdd, Nat.reduceLeDiff, Nat.zero_add, true_and, nI_n0, nat_le, Nat.add_zero, i_1, rt_pa_readSum_0, rt_pa_readSum_1, rt_pa_readSum_b, x_al0, x_al1, x_call, x_getf, x_goto, x_iadd, x_icge, x_icne, x_ifeq, x_ifne, x_il2, x_il3, x_il4, x_il5, x_il6, x_il7, x_inc4, x_iret, x_is2, x_is3, x_is4, x_is5, x_is6, x_is7, x_ldc, show nI 20000 + nI (wc 24) = nI 20045 from rfl]
        refine s_cput (d := d + 2) hB h (by omega) fun g1 o1 => ?_
        simp -implicitDefEqProofs (disch := first | assumption | omega) only [szS_0, szS_i, szS_r, szS_l, x_cons, x_goto, ob_some, kl_i, kl_r, kl_l, kl_n, push_n, push_s, pop_0, pop_i, pop_r, Int.reduceToNat, List.length_cons, List.length_nil, Nat.reduceAdd, Nat.reduceLeDiff, Nat.zero_add, true_and, nI_n0, nat_le, Nat.add_zero, i_1, rt_pa_readSum_0, rt_pa_readSum_1, rt_pa_readSum_b, x_al0, x_al1, x_call, x_getf, x_goto, x_iadd, x_icge, x_icne, x_ifeq, x_ifne, x_il2, x_il3, x_il4, x_il5, x_il6, x_il7, x_inc4, x_iret, x_is2, x_is3, x_is4, x_is5, x_is6, x_is7, x_ldc]
        exact K g1 o1 (gIn_1 h o1 hs1) _
    -- a sum's sign
    have sums : ∀ (sg o' : Nat), (sg = 43 ∧ o' = 23 ∨ sg = 45 ∧ o' = 24) → kC T n k i = 100 + sg → wp (ev (d + 3)) P pa_readSum 83 [some (.ref 173), some (.ref b), some (.int (nI (wc o))), some (.int (nI 1)), some (.int (nI c)), some (.int (nI 1)), o6, o7] [.int (nI 0)] (E g q) := by
      intro sg o' hsg hc
      have e5 : g 168 5 = nI sg := by
        have := (ht.2.2.2.1 (by omega)).2.1
        rw [this, hc, Nat.add_sub_cancel_left]
      have hin := kC_n (T := T) (n := n) (i := i) hk (by omega)
      have hwl : (cxL (k - 1) (wl o)).length ≤ 1 := by rcases ho with rfl | rfl | rfl <;> first | exact Nat.zero_le 1 | exact Nat.le_refl 1
      have eu := rs_a (T := T) (n := n) (k := k) (i := i) (f1 := f1') (f2 := f2') (o := o) (o' := o') (by omega)
      refine lay true (nI sg) e5 fun g1 o1 h1 a2 => ?_
      rw [b_pa_readSum_114]
      simp -implicitDefEqProofs (disch := first | assumption | omega) only [szS_0, szS_i, szS_r, szS_l, x_cons, x_goto, ob_some, kl_i, kl_r, kl_l, kl_n, push_n, push_s, pop_0, pop_i, pop_r, Int.reduceToNat, List.length_cons, List.length_nil, Nat.reduceAdd, Nat.reduceLeDiff, Nat.zero_add, true_and, nI_n0, nat_le, Nat.add_zero, i_1, rt_pa_readSum_0, rt_pa_readSum_1, rt_pa_readSum_b, x_al0, x_al1, x_call, x_getf, x_goto, x_iadd, x_icge, x_icne, x_ifeq, x_ifne, x_il2, x_il3, x_il4, x_il5, x_il6, x_il7, x_inc4, x_iret, x_is2, x_is3, x_is4, x_is5, x_is6, x_is7, x_ldc, bI_0, Bool.true_eq_false, ↓reduceIte, b_pa_readSum_126, fd_173_0]
      refine s_cnx (d := d + 1) hB h1 fun g2 o2 => ?_
      have h2 := gIn_0 h1 o2 hin
      have l47 : ¬ sg = 47 := by omega
      have sgl : sg < 100 := by omega
      simp -implicitDefEqProofs (disch := first | assumption | omega) only [szS_0, szS_i, szS_r, szS_l, x_cons, x_goto, ob_some, kl_i, kl_r, kl_l, kl_n, push_n, push_s, pop_0, pop_i, pop_r, Int.reduceToNat, List.length_cons, List.length_nil, Nat.reduceAdd, Nat.reduceLeDiff, Nat.zero_add, true_and, nI_n0, nat_le, Nat.add_zero, i_1, rt_pa_readSum_0, rt_pa_readSum_1, rt_pa_readSum_b, x_al0, x_al1, x_call, x_getf, x_goto, x_iadd, x_icge, x_icne, x_ifeq, x_ifne, x_il2, x_il3, x_il4, x_il5, x_il6, x_il7, x_inc4, x_iret, x_is2, x_is3, x_is4, x_is5, x_is6, x_is7, x_ldc, nI_eqE, l47, ↓reduceIte, b_pa_readSum_154]
      refine s_cunit (d := d) hB hk0 h2 (fun l j g3 e o3 => ?_) fun f' j g3 e x3 => ?_
      · have u := unF_k hk0 hk e
        have hs2 := h1.2.2.1
        have h3 := gIn_t h2 o3 (okR_cs hs2 u) u.2.1 (okR_j1 u)
        have hl := okR_c1 hs2 u
        have ew : nI sg = nI (wc o') := by
          rcases hsg with ⟨rfl, rfl⟩ | ⟨rfl, rfl⟩ <;> rfl
        rw [bd_r e] at eu
        simp -implicitDefEqProofs (disch := first | assumption | omega) only [szS_0, szS_i, szS_r, szS_l, x_cons, x_goto, ob_some, kl_i, kl_r, kl_l, kl_n, push_n, push_s, pop_0, pop_i, pop_r, Int.reduceToNat, List.length_cons, List.length_nil, Nat.reduceAdd, Nat.reduceLeDiff, Nat.zero_add, true_and, nI_n0, nat_le, Nat.add_zero, i_1, rt_pa_readSum_0, rt_pa_readSum_1, rt_pa_readSum_b, x_al0, x_al1, x_call, x_getf, x_goto, x_iadd, x_icge, x_icne, x_ifeq, x_ifne, x_il2, x_il3, x_il4, x_il5, x_il6, x_il7, x_inc4, x_iret, x_is2, x_is3, x_is4, x_is5, x_is6, x_is7, x_ldc, n10, ↓reduceIte, b_pa_readSum_167, b_pa_readSum_186, b_pa_readSum_189, nI_add, ew]
        exact ih j _ (c + 1) 401 f2' o' g3 _ _ _ (by have := u.1; omega) (by omega) (by have := u.1; omega) (by have := u.1; omega) (by omega) h3 (fun _ => hl) (fun l' j' g4 e' o4 => HN _ _ g4 (eu.trans (ap_r (ap_r e'))) (by
          rw [cxL_ap, cxL_ap]
          exact gOK_t o1 (gOK_t (gOK_n o2 o3) o4))) fun f' j' g4 e' x4 => HX _ _ g4 (eu.trans (ap_l (ap_l e'))) (gXx_t o1 (gXx_t (gOK_n o2 o3) x4))
      · rw [bd_l e] at eu
        simp -implicitDefEqProofs (disch := first | assumption | omega) only [szS_0, szS_i, szS_r, szS_l, x_cons, x_goto, ob_some, kl_i, kl_r, kl_l, kl_n, push_n, push_s, pop_0, pop_i, pop_r, Int.reduceToNat, List.length_cons, List.length_nil, Nat.reduceAdd, Nat.reduceLeDiff, Nat.zero_add, true_and, nI_n0, nat_le, Nat.add_zero, i_1, rt_pa_readSum_0, rt_pa_readSum_1, rt_pa_readSum_b, x_al0, x_al1, x_call, x_getf, x_goto, x_iadd, x_icge, x_icne, x_ifeq, x_ifne, x_il2, x_il3, x_il4, x_il5, x_il6, x_il7, x_inc4, x_iret, x_is2, x_is3, x_is4, x_is5, x_is6, x_is7, x_ldc, ↓reduceIte]
        exact rs_y (d := d + 2) (b6 := false) hB (by omega) (gXx_t o1 (gXx_t o2 x3)) fun g4 x4 => HX _ _ g4 eu x4
    have hB0 := hB
    have mid : ∀ b5 : Bool, (kC T n k i = 143 ∨ kC T n k i = 145 ↔ b5 = true) → wp (ev (d + 3)) P pa_readSum 52 [some (.ref 173), some (.ref b), some (.int (nI (wc o))), some (.int (nI 1)), some (.int (nI c)), o5, o6, o7] [.int (bI b5)] (E g q) := by
      intro b5 hb5
      rw [b_pa_readSum_52]
      simp -implicitDefEqProofs (disch := first | assumption | omega) only [szS_0, szS_i, szS_r, szS_l, x_cons, x_goto, ob_some, kl_i, kl_r, kl_l, kl_n, push_n, push_s, pop_0, pop_i, pop_r, Int.reduceToNat, List.length_cons, List.length_nil, Nat.reduceAdd, Nat.reduceLeDiff, Nat.zero_add, true_and, nI_n0, nat_le, Nat.add_zero, i_1, rt_pa_readSum_0, rt_pa_readSum_1, rt_pa_readSum_b, x_al0, x_al1, x_call, x_getf, x_goto, x_iadd, x_icge, x_icne, x_ifeq, x_ifne, x_il2, x_il3, x_il4, x_il5, x_il6, x_il7, x_inc4, x_iret, x_is2, x_is3, x_is4, x_is5, x_is6, x_is7, x_ldc, fd_173_0, s_cisSign hk h.1, bI_0]
      by_cases c1 : kC T n k i = 100 + 42
      · rw [decide_eq_true c1]
        simp -implicitDefEqProofs (disch := first | assumption | omega) only [Bool.true_eq_false, ↓reduceIte, b_pa_readSum_78, szS_0, szS_i, szS_r, szS_l, x_cons, x_goto, ob_some, kl_i, kl_r, kl_l, kl_n, push_n, push_s, pop_0, pop_i, pop_r, Int.reduceToNat, List.length_cons, List.length_nil, Nat.reduceAdd, Nat.reduceLeDiff, Nat.zero_add, true_and, nI_n0, nat_le, Nat.add_zero, i_1, rt_pa_readSum_0, rt_pa_readSum_1, rt_pa_readSum_b, x_al0, x_al1, x_call, x_getf, x_goto, x_iadd, x_icge, x_icne, x_ifeq, x_ifne, x_il2, x_il3, x_il4, x_il5, x_il6, x_il7, x_inc4, x_iret, x_is2, x_is3, x_is4, x_is5, x_is6, x_is7, x_ldc]
        exact pro 42 b5 (Or.inl rfl) c1
      · rw [decide_eq_false c1]
        simp -implicitDefEqProofs (disch := first | assumption | omega) only [↓reduceIte, szS_0, szS_i, szS_r, szS_l, x_cons, x_goto, ob_some, kl_i, kl_r, kl_l, kl_n, push_n, push_s, pop_0, pop_i, pop_r, Int.reduceToNat, List.length_cons, List.length_nil, Nat.reduceAdd, Nat.reduceLeDiff, Nat.zero_add, true_and, nI_n0, nat_le, Nat.add_zero, i_1, rt_pa_readSum_0, rt_pa_readSum_1, rt_pa_readSum_b, x_al0, x_al1, x_call, x_getf, x_goto, x_iadd, x_icge, x_icne, x_ifeq, x_ifne, x_il2, x_il3, x_il4, x_il5, x_il6, x_il7, x_inc4, x_iret, x_is2, x_is3, x_is4, x_is5, x_is6, x_is7, x_ldc, fd_173_0, s_cisSign hk h.1, bI_0]
        by_cases c2 : kC T n k i = 100 + 47
        · rw [decide_eq_true c2]
          simp -implicitDefEqProofs (disch := first | assumption | omega) only [Bool.true_eq_false, ↓reduceIte, b_pa_readSum_78, szS_0, szS_i, szS_r, szS_l, x_cons, x_goto, ob_some, kl_i, kl_r, kl_l, kl_n, push_n, push_s, pop_0, pop_i, pop_r, Int.reduceToNat, List.length_cons, List.length_nil, Nat.reduceAdd, Nat.reduceLeDiff, Nat.zero_add, true_and, nI_n0, nat_le, Nat.add_zero, i_1, rt_pa_readSum_0, rt_pa_readSum_1, rt_pa_readSum_b, x_al0, x_al1, x_call, x_getf, x_goto, x_iadd, x_icge, x_icne, x_ifeq, x_ifne, x_il2, x_il3, x_il4, x_il5, x_il6, x_il7, x_inc4, x_iret, x_is2, x_is3, x_is4, x_is5, x_is6, x_is7, x_ldc]
          exact pro 47 b5 (Or.inr rfl) c2
        · rw [decide_eq_false c2]
          simp -implicitDefEqProofs (disch := first | assumption | omega) only [↓reduceIte, b_pa_readSum_82, szS_0, szS_i, szS_r, szS_l, x_cons, x_goto, ob_some, kl_i, kl_r, kl_l, kl_n, push_n, push_s, pop_0, pop_i, pop_r, Int.reduceToNat, List.length_cons, List.length_nil, Nat.reduceAdd, Nat.reduceLeDiff, Nat.zero_add, true_and, nI_n0, nat_le, Nat.add_zero, i_1, rt_pa_readSum_0, rt_pa_readSum_1, rt_pa_readSum_b, x_al0, x_al1, x_call, x_getf, x_goto, x_iadd, x_icge, x_icne, x_ifeq, x_ifne, x_il2, x_il3, x_il4, x_il5, x_il6, x_il7, x_inc4, x_iret, x_is2, x_is3, x_is4, x_is5, x_is6, x_is7, x_ldc]
          cases b5
          · have c3 : ¬ (kC T n k i = 143 ∨ kC T n k i = 145) := fun h => by
              have := hb5.mp h
              cases this
            have eu := rs_z (T := T) (n := n) (k := k) (i := i) (f1 := f1') (f2 := f2') (o := o) (by omega) (by omega) (by omega) (by omega)
            refine lay false _ rfl fun g1 o1 h1 a2 => ?_
            rw [b_pa_readSum_114]
            simp -implicitDefEqProofs (disch := first | assumption | omega) only [szS_0, szS_i, szS_r, szS_l, x_cons, x_goto, ob_some, kl_i, kl_r, kl_l, kl_n, push_n, push_s, pop_0, pop_i, pop_r, Int.reduceToNat, List.length_cons, List.length_nil, Nat.reduceAdd, Nat.reduceLeDiff, Nat.zero_add, true_and, nI_n0, nat_le, Nat.add_zero, i_1, rt_pa_readSum_0, rt_pa_readSum_1, rt_pa_readSum_b, x_al0, x_al1, x_call, x_getf, x_goto, x_iadd, x_icge, x_icne, x_ifeq, x_ifne, x_il2, x_il3, x_il4, x_il5, x_il6, x_il7, x_inc4, x_iret, x_is2, x_is3, x_is4, x_is5, x_is6, x_is7, x_ldc, bI_0, ↓reduceIte]
            exact HN _ _ g1 eu o1
          · have c3 := hb5.mpr rfl
            rcases c3 with c3 | c3
            · exact sums 43 23 (by decide) c3
            · exact sums 45 24 (by decide) c3
    rw [b_pa_readSum_11]
    simp -implicitDefEqProofs (disch := first | assumption | omega) only [szS_0, szS_i, szS_r, szS_l, x_cons, x_goto, ob_some, kl_i, kl_r, kl_l, kl_n, push_n, push_s, pop_0, pop_i, pop_r, Int.reduceToNat, List.length_cons, List.length_nil, Nat.reduceAdd, Nat.reduceLeDiff, Nat.zero_add, true_and, nI_n0, nat_le, Nat.add_zero, i_1, rt_pa_readSum_0, rt_pa_readSum_1, rt_pa_readSum_b, x_al0, x_al1, x_call, x_getf, x_goto, x_iadd, x_icge, x_icne, x_ifeq, x_ifne, x_il2, x_il3, x_il4, x_il5, x_il6, x_il7, x_inc4, x_iret, x_is2, x_is3, x_is4, x_is5, x_is6, x_is7, x_ldc, nI_ltE, hc4, n10, ↓reduceIte, fd_173_0, s_cisSign hk h.1, bI_0]
    by_cases c1 : kC T n k i = 100 + 43
    · rw [decide_eq_true c1]
      simp -implicitDefEqProofs (disch := first | assumption | omega) only [Bool.true_eq_false, ↓reduceIte, b_pa_readSum_47, szS_0, szS_i, szS_r, szS_l, x_cons, x_goto, ob_some, kl_i, kl_r, kl_l, kl_n, push_n, push_s, pop_0, pop_i, pop_r, Int.reduceToNat, List.length_cons, List.length_nil, Nat.reduceAdd, Nat.reduceLeDiff, Nat.zero_add, true_and, nI_n0, nat_le, Nat.add_zero, i_1, rt_pa_readSum_0, rt_pa_readSum_1, rt_pa_readSum_b, x_al0, x_al1, x_call, x_getf, x_goto, x_iadd, x_icge, x_icne, x_ifeq, x_ifne, x_il2, x_il3, x_il4, x_il5, x_il6, x_il7, x_inc4, x_iret, x_is2, x_is3, x_is4, x_is5, x_is6, x_is7, x_ldc]
      exact mid true ⟨fun _ => rfl, fun _ => Or.inl c1⟩
    · rw [decide_eq_false c1]
      simp -implicitDefEqProofs (disch := first | assumption | omega) only [↓reduceIte, szS_0, szS_i, szS_r, szS_l, x_cons, x_goto, ob_some, kl_i, kl_r, kl_l, kl_n, push_n, push_s, pop_0, pop_i, pop_r, Int.reduceToNat, List.length_cons, List.length_nil, Nat.reduceAdd, Nat.reduceLeDiff, Nat.zero_add, true_and, nI_n0, nat_le, Nat.add_zero, i_1, rt_pa_readSum_0, rt_pa_readSum_1, rt_pa_readSum_b, x_al0, x_al1, x_call, x_getf, x_goto, x_iadd, x_icge, x_icne, x_ifeq, x_ifne, x_il2, x_il3, x_il4, x_il5, x_il6, x_il7, x_inc4, x_iret, x_is2, x_is3, x_is4, x_is5, x_is6, x_is7, x_ldc, fd_173_0, s_cisSign hk h.1, bI_0]
      by_cases c2 : kC T n k i = 100 + 45
      · rw [decide_eq_true c2]
        simp -implicitDefEqProofs (disch := first | assumption | omega) only [Bool.true_eq_false, ↓reduceIte, b_pa_readSum_47, szS_0, szS_i, szS_r, szS_l, x_cons, x_goto, ob_some, kl_i, kl_r, kl_l, kl_n, push_n, push_s, pop_0, pop_i, pop_r, Int.reduceToNat, List.length_cons, List.length_nil, Nat.reduceAdd, Nat.reduceLeDiff, Nat.zero_add, true_and, nI_n0, nat_le, Nat.add_zero, i_1, rt_pa_readSum_0, rt_pa_readSum_1, rt_pa_readSum_b, x_al0, x_al1, x_call, x_getf, x_goto, x_iadd, x_icge, x_icne, x_ifeq, x_ifne, x_il2, x_il3, x_il4, x_il5, x_il6, x_il7, x_inc4, x_iret, x_is2, x_is3, x_is4, x_is5, x_is6, x_is7, x_ldc]
        exact mid true ⟨fun _ => rfl, fun _ => Or.inr c2⟩
      · rw [decide_eq_false c2]
        simp -implicitDefEqProofs (disch := first | assumption | omega) only [↓reduceIte, b_pa_readSum_51, szS_0, szS_i, szS_r, szS_l, x_cons, x_goto, ob_some, kl_i, kl_r, kl_l, kl_n, push_n, push_s, pop_0, pop_i, pop_r, Int.reduceToNat, List.length_cons, List.length_nil, Nat.reduceAdd, Nat.reduceLeDiff, Nat.zero_add, true_and, nI_n0, nat_le, Nat.add_zero, i_1, rt_pa_readSum_0, rt_pa_readSum_1, rt_pa_readSum_b, x_al0, x_al1, x_call, x_getf, x_goto, x_iadd, x_icge, x_icne, x_ifeq, x_ifne, x_il2, x_il3, x_il4, x_il5, x_il6, x_il7, x_inc4, x_iret, x_is2, x_is3, x_is4, x_is5, x_is6, x_is7, x_ldc]
        exact mid false ⟨fun h => by omega, fun h => by cases h⟩
theorem s_csum (hB : b = 22 ∨ b = 26 ∨ b = 52 ∨ b = 56 ∨ b = 82 ∨ b = 86) (hk0 : 1 ≤ k) : gFn T n k b (d + 4) pa_readSum [] (smF T n k) := by
  intro g q P s i h HN HX
  refine in_pa_readSum rfl ?_
  have hk := h.2.2.2.2.2.1
  have hsi := h.2.2.1
  have hn := h.2.2.2.2.1
  have eu := smF_rs (T := T) (n := n) (k := k) (i := i)
  rw [b_pa_readSum_0]
  simp -implicitDefEqProofs (disch := first | assumption | omega) only [szS_0, szS_i, szS_r, szS_l, x_cons, x_goto, ob_some, kl_i, kl_r, kl_l, kl_n, push_n, push_s, pop_0, pop_i, pop_r, Int.reduceToNat, List.length_cons, List.length_nil, Nat.reduceAdd, Nat.reduceLeDiff, Nat.zero_add, true_and, nI_n0, nat_le, Nat.add_zero, i_1, rt_pa_readSum_0, rt_pa_readSum_1, rt_pa_readSum_b, x_al0, x_al1, x_call, x_getf, x_goto, x_iadd, x_icge, x_icne, x_ifeq, x_ifne, x_il2, x_il3, x_il4, x_il5, x_il6, x_il7, x_inc4, x_iret, x_is2, x_is3, x_is4, x_is5, x_is6, x_is7, x_ldc]
  refine s_cunit (d := d) hB hk0 h (fun l j g1 e o1 => ?_) fun f' j g1 e x1 => ?_
  · have u := unF_k hk0 hk e
    have h1 := gIn_t h o1 (okR_ce hsi u) u.2.1 (okR_j1 u)
    simp -implicitDefEqProofs (disch := first | assumption | omega) only [szS_0, szS_i, szS_r, szS_l, x_cons, x_goto, ob_some, kl_i, kl_r, kl_l, kl_n, push_n, push_s, pop_0, pop_i, pop_r, Int.reduceToNat, List.length_cons, List.length_nil, Nat.reduceAdd, Nat.reduceLeDiff, Nat.zero_add, true_and, nI_n0, nat_le, Nat.add_zero, i_1, rt_pa_readSum_0, rt_pa_readSum_1, rt_pa_readSum_b, x_al0, x_al1, x_call, x_getf, x_goto, x_iadd, x_icge, x_icne, x_ifeq, x_ifne, x_il2, x_il3, x_il4, x_il5, x_il6, x_il7, x_inc4, x_iret, x_is2, x_is3, x_is4, x_is5, x_is6, x_is7, x_ldc]
    refine rs_lp hB hk0 hk hn 401 j _ 0 401 401 0 g1 _ _ _ (by omega) (by omega) (by omega) (by have := u.1; omega) (Or.inl rfl) h1 (fun h => absurd rfl h) (fun l' j' g4 e' o4 => HN _ _ g4 (eu.trans ((bd_r e).trans (ap_r e'))) (by
      rw [cxL_ap]
      exact gOK_t o1 o4)) fun f' j' g4 e' x4 => HX _ _ g4 (eu.trans ((bd_r e).trans (ap_l e'))) (gXx_t o1 x4)
  · simp -implicitDefEqProofs (disch := first | assumption | omega) only [szS_0, szS_i, szS_r, szS_l, x_cons, x_goto, ob_some, kl_i, kl_r, kl_l, kl_n, push_n, push_s, pop_0, pop_i, pop_r, Int.reduceToNat, List.length_cons, List.length_nil, Nat.reduceAdd, Nat.reduceLeDiff, Nat.zero_add, true_and, nI_n0, nat_le, Nat.add_zero, i_1, rt_pa_readSum_0, rt_pa_readSum_1, rt_pa_readSum_b, x_al0, x_al1, x_call, x_getf, x_goto, x_iadd, x_icge, x_icne, x_ifeq, x_ifne, x_il2, x_il3, x_il4, x_il5, x_il6, x_il7, x_inc4, x_iret, x_is2, x_is3, x_is4, x_is5, x_is6, x_is7, x_ldc]
    exact rs_x (by decide) (HX _ _ g1 (eu.trans (bd_l e)) x1)
end CG
