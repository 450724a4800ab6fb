/-! calls, held together: what tells and changes -/
theorem LK_p {w w' : Nat → Int32} {k : Nat} {ok : Nat → Bool} {ls : LW} (h : LK w k ok ls) (e : ∀ j, 1205 ≤ j → w' j = w j) : LK w' k ok ls := LK_c e h
theorem z5_p {w : Nat → Int32} (h : z5 w) {k : Nat} (hk : k < 2955) {v : Int32} : z5 (pu w k v) := fun j hj => by rw [pu_n (by omega)]; exact h j hj
theorem rowI_p {B : Nat} {w : Nat → Int32} {V M : LW} (h : rowI B w V M) {k : Nat} (hk : k < 1205) {v : Int32} (hw : WI (pu w k v)) (hs : sumH (pu w k v) 16 ≤ B) : rowI B (pu w k v) V M :=
  ⟨hw, LK_p h.2.1 fun j hj => pu_n (by omega), LK_p h.2.2.1 fun j hj => pu_n (by omega), z5_p h.2.2.2.1 (by omega), hs⟩
theorem sumH_o {w : Nat → Int32} {k : Nat} {v : Int32} (hk : k < 10 ∨ 330 ≤ k) : sumH (pu w k v) 16 = sumH w 16 := sumH_c 16 fun t ht => fd_pu_n (by omega)
theorem WI_set {w : Nat → Int32} (h : WI w) {k v : Nat} (hk : k < 4) (hv : v ≤ (if k = 0 then 999 else if k = 1 then 33 else 1000)) : WI (pu w (6 + k) (nI v)) := by
  obtain ⟨⟨h0, h1⟩, h2, ⟨h6, h7, h8, h9⟩, hn, hs⟩ := h
  have hv2 : v ≤ 1000 := by
    split at hv
    · omega
    · split at hv <;> omega
  have e : ∀ j, j ≠ 6 + k → pu w (6 + k) (nI v) j = w j := fun j hj => pu_n hj
  have new : ∀ m, v ≤ m → rg (pu w (6 + k) (nI v)) (6 + k) m := fun m hm => by
    unfold rg vN
    rw [pu_s, ix_nI (by omega)]
    exact ⟨rfl, hm⟩
  have nne : nn (pu w (6 + k) (nI v)) = nn w := nn_pu (by omega)
  refine ⟨⟨rg_c (e 0 (by omega)) h0, by rw [nne]; exact h1⟩, rg_c (e 2 (by omega)) h2, ⟨?_, ?_, ?_, ?_⟩, fun n hn16 => NI_c (hn n hn16) nne h0.2 fun f hf => e _ (by omega), by rw [sumH_o (by omega)]; exact hs⟩
  · by_cases e0 : k = 0
    · subst e0
      exact new 999 hv
    · exact rg_c (e 6 (by omega)) h6
  · by_cases e0 : k = 1
    · subst e0
      exact new 33 hv
    · exact rg_c (e 7 (by omega)) h7
  · by_cases e0 : k = 2
    · subst e0
      exact new 1000 hv
    · exact rg_c (e 8 (by omega)) h8
  · by_cases e0 : k = 3
    · subst e0
      exact new 1000 hv
    · exact rg_c (e 9 (by omega)) h9
/-- a setting that is told -/
theorem setB_ex {k v : Int32} (h : setB k v = true) : ∃ k' v', k' < 4 ∧ k = nI k' ∧ v = nI v' ∧ v' ≤ (if k' = 0 then 999 else if k' = 1 then 33 else 1000) := by
  unfold setB at h
  rw [Bool.and_eq_true] at h
  have h1 := of_decide_eq_true h.1
  have h2 := of_decide_eq_true h.2
  obtain ⟨k', hk, rfl⟩ := int_is h1 (by decide)
  have n10 : ¬ nI 1 = nI 0 := by decide
  have n20 : ¬ nI 2 = nI 0 := by decide
  have n21 : ¬ nI 2 = nI 1 := by decide
  have n30 : ¬ nI 3 = nI 0 := by decide
  have n31 : ¬ nI 3 = nI 1 := by decide
  have : k' = 0 ∨ k' = 1 ∨ k' = 2 ∨ k' = 3 := by omega
  rcases this with rfl | rfl | rfl | rfl
  · rw [if_pos rfl] at h2
    obtain ⟨v', hv, rfl⟩ := int_is h2 (by decide)
    exact ⟨0, v', by decide, rfl, rfl, hv⟩
  · rw [if_neg n10, if_pos rfl] at h2
    obtain ⟨v', hv, rfl⟩ := int_is h2 (by decide)
    exact ⟨1, v', by decide, rfl, rfl, hv⟩
  · rw [if_neg n20, if_neg n21] at h2
    obtain ⟨v', hv, rfl⟩ := int_is h2 (by decide)
    exact ⟨2, v', by decide, rfl, rfl, hv⟩
  · rw [if_neg n30, if_neg n31] at h2
    obtain ⟨v', hv, rfl⟩ := int_is h2 (by decide)
    exact ⟨3, v', by decide, rfl, rfl, hv⟩
theorem WI_dig {w : Nat → Int32} (h : WI w) {f a t : Nat} (hf : f < nn w) (ha : a < am w f) (h1 : f < t) (h2 : t < nn w) : WI (pu w (10 + 20 * f + (2 + a)) (nI t)) := by
  have hN := wi_n h
  have ha3 := am_le h (n := f) (by omega)
  have hb := NI_nb (wi_f h (n := f) (by omega))
  obtain ⟨⟨b0, b1, b2, b3, b4⟩, b5, b6, b7, b8, b9, b10⟩ := hb
  refine WI_pu h (by omega) (by omega) ⟨⟨?_, ?_, ?_, ?_, ?_⟩, ?_, ?_, ?_, ?_, fun b hb => ?_, fun hz f' h10 h18 => ?_⟩ (by rw [sumH_pu_n (by omega) (by omega)]; exact WI_s h)
  · show (if 0 = 2 + a then t else fd w f 0) ≤ 2
    rw [if_neg (by omega)]; exact b0
  · show (if 1 = 2 + a then t else fd w f 1) ≤ 3
    rw [if_neg (by omega)]; exact b1
  · show (if 2 = 2 + a then t else fd w f 2) ≤ 15
    split <;> omega
  · show (if 3 = 2 + a then t else fd w f 3) ≤ 15
    split <;> omega
  · show (if 4 = 2 + a then t else fd w f 4) ≤ 15
    split <;> omega
  · show (if 5 = 2 + a then t else fd w f 5) ≤ 7 ∧ (if 6 = 2 + a then t else fd w f 6) ≤ 99 ∧ (if 7 = 2 + a then t else fd w f 7) ≤ 999 ∧ (if 8 = 2 + a then t else fd w f 8) ≤ 999 ∧ (if 9 = 2 + a then t else fd w f 9) ≤ 999
    rw [if_neg (by omega), if_neg (by omega), if_neg (by omega), if_neg (by omega), if_neg (by omega)]
    exact b5
  · show (if 10 = 2 + a then t else fd w f 10) ≤ 6000000 ∧ (if 11 = 2 + a then t else fd w f 11) ≤ 999 ∧ (if 12 = 2 + a then t else fd w f 12) ≤ 1998 ∧ (if 13 = 2 + a then t else fd w f 13) ≤ 99 ∧ (if 14 = 2 + a then t else fd w f 14) ≤ 9 ∧ (if 15 = 2 + a then t else fd w f 15) ≤ 9 ∧ (if 16 = 2 + a then t else fd w f 16) ≤ 50 * (if 15 = 2 + a then t else fd w f 15) ∧ (if 17 = 2 + a then t else fd w f 17) ≤ 1
    rw [if_neg (by omega), if_neg (by omega), if_neg (by omega), if_neg (by omega), if_neg (by omega), if_neg (by omega), if_neg (by omega), if_neg (by omega)]
    exact b6
  · show f < nn w → ((if 0 = 2 + a then t else fd w f 0) = 0 → 2 ≤ (if 1 = 2 + a then t else fd w f 1) ∧ 1 ≤ (if 5 = 2 + a then t else fd w f 5) ∧ (if 5 = 2 + a then t else fd w f 5) < 2 ^ (if 1 = 2 + a then t else fd w f 1)) ∧ ((if 0 = 2 + a then t else fd w f 0) = 1 → (if 1 = 2 + a then t else fd w f 1) = 1 ∧ 1 ≤ (if 11 = 2 + a then t else fd w f 11)) ∧ ((if 0 = 2 + a then t else fd w f 0) = 2 → (if 1 = 2 + a then t else fd w f 1) = 0)
    rw [if_neg (show ¬ 0 = 2 + a by omega), if_neg (show ¬ 1 = 2 + a by omega), if_neg (show ¬ 5 = 2 + a by omega), if_neg (show ¬ 11 = 2 + a by omega)]
    exact b7
  · show nn w ≤ f → (if 0 = 2 + a then t else fd w f 0) = 0 ∧ (if 1 = 2 + a then t else fd w f 1) = 0 ∧ (if 5 = 2 + a then t else fd w f 5) = 0
    intro hh
    omega
  · have hb : b < (if 1 = 2 + a then t else fd w f 1) := hb
    rw [if_neg (by omega)] at hb
    show f < (if 2 + b = 2 + a then t else fd w f (2 + b)) ∧ (if 2 + b = 2 + a then t else fd w f (2 + b)) < nn w
    split
    · exact ⟨h1, h2⟩
    · exact b9 b hb
  · show (if f' = 2 + a then t else fd w f f') = 0
    have hz : nn w ≤ f ∨ (if 0 = 2 + a then t else fd w f 0) ≠ 1 := hz
    rw [if_neg (by omega)] at hz
    rw [if_neg (by omega)]
    exact b10 hz f' h10 h18
/-- a town that is told: its row -/
theorem tnR_I {B : Nat} {w : Nat → Int32} {V M : LW} (h : rowI B w V M) (hB : B + 9999 ≤ 6000000) {t : Nat} {k v : Int32} (ht : t < 16) (hb : tnB w (nI t) k v = true) : rowI (B + 9999) (tnR w (nI t) k v) V M := by
  have hw := h.1
  have hN := wi_n hw
  have hsB := h.2.2.2.2
  have ex : ix (nI t) = t := ix_nI (by omega)
  obtain ⟨⟨c0, n0⟩, -, -, -, -, ⟨c5, n5⟩, ⟨c6, n6⟩, -⟩ := wi_y hw ht
  have hb : (townB w (nI t) && tmB w (nI t) k v) = true := hb
  rw [Bool.and_eq_true] at hb
  obtain ⟨h1, h2⟩ := hb
  have hts : t < nn w ∧ fd w t 0 = 1 := by
    rw [townB_nI hw (by omega), Bool.and_eq_true] at h1
    exact ⟨of_decide_eq_true h1.1, of_decide_eq_true h1.2⟩
  have n10 : (nI 1 = nI 0) = False := eq_false (by decide)
  have n20 : (nI 2 = nI 0) = False := eq_false (by decide)
  have n21 : (nI 2 = nI 1) = False := eq_false (by decide)
  have n30 : (nI 3 = nI 0) = False := eq_false (by decide)
  have n31 : (nI 3 = nI 1) = False := eq_false (by decide)
  have n32 : (nI 3 = nI 2) = False := eq_false (by decide)
  have h' := rowI_m (Nat.le_add_right B 9999) h
  unfold tmB at h2
  rw [Bool.or_eq_true, Bool.or_eq_true, Bool.or_eq_true, Bool.and_eq_true, Bool.and_eq_true, Bool.and_eq_true, Bool.and_eq_true, ex] at h2
  rcases h2 with ((⟨h2, h3⟩ | ⟨h2, h3⟩) | ⟨h2, h3⟩) | ⟨h2, h3⟩
  · have h2 := of_decide_eq_true h2
    have h3 := of_decide_eq_true h3
    subst h2
    obtain ⟨v', hv, rfl⟩ := int_is h3 (by decide)
    simp only [tnR, ↓reduceIte, ex]
    have hsum := sumH_pu (w := w) (n := t) (v := v') (by omega) 16
    rw [if_pos ht, if_pos ht] at hsum
    exact rowI_p h' (by omega) (WI_t hw hts.1 hts.2 (Or.inl ⟨rfl, by omega⟩) fun _ => by omega) (by omega)
  · have h2 := of_decide_eq_true h2
    have h3 := of_decide_eq_true h3
    subst h2
    obtain ⟨v', hv1, hv, rfl⟩ := int_in h3 (by decide) (by decide)
    simp only [tnR, n10, ↓reduceIte, ex]
    exact rowI_p h' (by omega) (WI_t hw hts.1 hts.2 (Or.inr (Or.inl ⟨rfl, hv1, hv⟩)) fun h => absurd h (by decide)) (by rw [sumH_pu_n (by decide) (by decide)]; omega)
  · have h2 := of_decide_eq_true h2
    have h3 := of_decide_eq_true h3
    subst h2
    obtain ⟨v', hv, rfl⟩ := int_is h3 (by decide)
    simp only [tnR, n20, n21, ↓reduceIte, ex]
    rw [c6, nI_mul]
    simp only [nI_ltE (a := fd w t 16) (b := 50 * v') (by omega) (by omega), nI_ite]
    rw [pu_x (by omega)]
    have hy : (if fd w t 16 < 50 * v' then fd w t 16 else 50 * v') ≤ fd w t 16 ∧ (if fd w t 16 < 50 * v' then fd w t 16 else 50 * v') ≤ 50 * v' := by
      split <;> omega
    generalize (if fd w t 16 < 50 * v' then fd w t 16 else 50 * v') = y at hy ⊢
    have w1 := WI_t hw (f := 16) (v := y) hts.1 hts.2 (Or.inr (Or.inr (Or.inr (Or.inr (Or.inr (Or.inr (Or.inl ⟨rfl, by omega⟩))))))) fun h => absurd h (by decide)
    have r1 := rowI_p h' (k := 10 + 20 * t + 16) (by omega) w1 (by rw [sumH_pu_n (by decide) (by decide)]; omega)
    refine rowI_p r1 (by omega) (WI_t w1 (by rw [nn_pu (by omega)]; exact hts.1) (by rw [fd_pu_n (by omega)]; exact hts.2) (Or.inr (Or.inr (Or.inr (Or.inr (Or.inr (Or.inl ⟨rfl, by omega, by rw [fd_pu_s (by omega)]; exact hy.2⟩)))))) fun h => absurd h (by decide)) ?_
    rw [sumH_pu_n (by decide) (by decide), sumH_pu_n (by decide) (by decide)]
    omega
  · have h2 := of_decide_eq_true h2
    have h3 := of_decide_eq_true h3
    subst h2
    rw [c5, nI_mul] at h3
    obtain ⟨v', hv, rfl⟩ := int_is h3 (by omega)
    simp only [tnR, n30, n31, n32, ↓reduceIte, ex]
    exact rowI_p h' (by omega) (WI_t hw hts.1 hts.2 (Or.inr (Or.inr (Or.inr (Or.inr (Or.inr (Or.inr (Or.inl ⟨rfl, hv⟩))))))) fun h => absurd h (by decide)) (by rw [sumH_pu_n (by decide) (by decide)]; omega)
theorem dy1_z {V M : LW} {w : Nat → Int32} (h : WI w) (hz : z5 w) : z5 (dy1 V M w) := fun k hk => by rw [dy1_o h (by omega)]; exact hz k hk
/-- days: what stays -/
theorem dyN_I {B : Nat} {V M : LW} : ∀ (n : Nat) (w : Nat → Int32) (pl : PL), rowI B w V M → plI B w pl → rowI B (dyN V M n w) V M ∧ plI B (dyN V M n w) (dyPL V M n w pl)
  | 0, _, _, h, hp => ⟨h, hp⟩
  | n + 1, w, pl, h, hp => by
    have h1 : rowI B (dy1 V M w) V M := ⟨dy1_wi h.1, dy1_LK h.1 h.2.1, dy1_LK h.1 h.2.2.1, dy1_z h.1 h.2.2.2.1, by rw [dy1_s h.1]; exact h.2.2.2.2⟩
    have hst := dy1_stc h.1 (V := V) (M := M)
    refine dyN_I n (dy1 V M w) (kpL w pl) h1 ⟨?_, fun r hr => ?_⟩
    · rw [kpL_l hp.1]
      split <;> have := hp.1 <;> omega
    · rcases List.mem_cons.mp hr with rfl | hr
      · exact ⟨h.1, stc_y hst, h.2.2.2.2⟩
      · have := hp.2 r (List.mem_of_mem_take hr)
        exact ⟨this.1, stc_t (stc_y hst) this.2.1, this.2.2⟩
theorem mrg_I {B : Nat} {w r : Nat → Int32} {V M : LW} {pl : PL} (h : rowI B w V M) (hp : plI B w (r :: pl)) : rowI B (mrg r w) V M ∧ plI B (mrg r w) pl := by
  have hr := hp.2 r (List.mem_cons_self ..)
  have hl := hp.1
  rw [List.length_cons] at hl
  refine ⟨⟨mrg_wi hr.1, LK_p h.2.1 fun j hj => mrg_g (by omega), LK_p h.2.2.1 fun j hj => mrg_g (by omega), fun k hk => by rw [mrg_g (by omega)]; exact h.2.2.2.1 k hk, ?_⟩, by omega, fun r' hr' => ?_⟩
  · rw [sumH_c (w' := mrg r w) (w := r) 16 fun t ht => fd_c (mrg_l (by omega))]
    exact hr.2.2
  · have := hp.2 r' (List.mem_cons_of_mem _ hr')
    exact ⟨this.1, stc_t (stc_y (stc_t hr.2.1 mrg_st)) this.2.1, this.2.2⟩
theorem BR_t {b : Nat → Int32} {r : Nat → Int32} {pl : PL} (h : BR b (r :: pl)) : BR b pl := fun i r' hr k hk => by
  have h1 := h (i + 1) r' hr k hk
  rw [List.length_cons] at h1
  rw [show pl.length + 1 - 1 - (i + 1) = pl.length - 1 - i by omega] at h1
  exact h1
section KA
variable {d L B : Nat} {xs : Nat → Int32} {g : Nat → Nat → Int32} {q : Nat → Nat → Int64}
/-- a call that is answered by the row alone: nothing changes -/
theorem k_pure {m1 m2 : Nat} {a1 a2 : List Value} (hW : World B g) (hE : Env L xs g)
    (h : ∀ w V M pl im R, WD B w V M pl im R g → ∃ a, (∀ P, (∀ g' q', fQ g g' → P (some (.int a)) (E g' q')) → callC (ev d) m1 a1 (E g q) P) ∧ ∀ g1 q1 P, WD B w V M pl im R g1 → (∀ g' q', fM g1 g' → Mc w pl im R g' → P (some (.int a)) (E g' q')) → callC (ev d) m2 a2 (E g1 q1) P) : two d L xs B m1 m2 a1 a2 g q := by
  obtain ⟨w, V, M, pl, im, R, hD, hK, hM⟩ := hW
  obtain ⟨a, h1, h2⟩ := h w V M pl im R ⟨hD, hK, hM⟩
  refine h1 _ fun g1 q1 f1 => ⟨a, g1, q1, rfl, rfl, Env_C hE (fQ_C f1), ?_⟩
  have hW1 : WD B w V M pl im R g1 := ⟨hD, Kc_q hK f1, Mc_C hM (fQ_C f1)⟩
  exact h2 g1 q1 _ hW1 fun g2 q2 f2 m2 => ⟨rfl, g2, q2, rfl, Env_M (Env_C hE (fQ_C f1)) f2, w, V, M, pl, im, R, hD, Kc_M hW1.2.1 f2, m2⟩
theorem k_state (hW : World B g) (hE : Env L xs g) {v : Int32} : two (d + 2) L xs B vr_state mo_state [.ref 0, .int v] [.ref 196, .int v] g q := by
  obtain ⟨w, V, M, pl, im, R, hD, hK, hM⟩ := hW
  refine s_vstate hK hD.1.1 fun g1 f1 k1 => ⟨_, g1, q, rfl, rfl, Env_C hE f1, ?_⟩
  have m1 := Mc_C hM f1
  have e : g1 197 = w := m1.1.1
  rw [s_mstate, e]
  refine ⟨rfl, _, q, rfl, Env_M (Env_C hE f1) fun b hb => by rw [upw_o (by omega), upw_o (by omega)], pu w 5 v, V, M, [], im, R, ⟨rowI_p hD.1 (by decide) (WI_pu_o hD.1.1 (by omega)) (by rw [sumH_o (by omega)]; exact hD.1.2.2.2.2), plI_0, hD.2.2⟩, Kc_M k1 fun b hb => by rw [upw_o (by omega), upw_o (by omega)], Mc_s m1⟩
theorem k_set (hW : World B g) (hE : Env L xs g) {k v : Int32} : two (d + 2) L xs B vr_set mo_set [.ref 0, .int k, .int v] [.ref 196, .int k, .int v] g q := by
  obtain ⟨w, V, M, pl, im, R, hD, hK, hM⟩ := hW
  unfold two
  cases h : setB k v
  · rw [s_vset0 hE.1 h]
    refine ⟨_, g, q, rfl, rfl, hE, ?_⟩
    rw [s_mset0 h]
    exact ⟨rfl, g, q, rfl, hE, w, V, M, pl, im, R, hD, hK, hM⟩
  · obtain ⟨k', v', hk, rfl, rfl, hv⟩ := setB_ex h
    refine s_vset hK hD.1.1 hE.1 hk h fun g1 f1 k1 => ⟨_, g1, q, rfl, rfl, Env_C hE f1, ?_⟩
    have m1 := Mc_C hM f1
    have e : g1 197 = w := m1.1.1
    rw [s_mset hk h, e]
    refine ⟨rfl, _, q, rfl, Env_M (Env_C hE f1) fun b hb => by rw [upw_o (by omega), upw_o (by omega)], pu w (6 + k') (nI v'), V, M, [], im, R, ⟨rowI_p hD.1 (by omega) (WI_set hD.1.1 hk hv) (by rw [sumH_o (by omega)]; exact hD.1.2.2.2.2), plI_0, hD.2.2⟩, Kc_M k1 fun b hb => by rw [upw_o (by omega), upw_o (by omega)], Mc_s m1⟩
theorem k_town (hB : B + 9999 ≤ 6000000) (hW : World B g) (hE : Env L xs g) {t k v : Int32} : two (d + 4) L xs (B + 9999) vr_town mo_town [.ref 0, .int t, .int k, .int v] [.ref 196, .int t, .int k, .int v] g q := by
  obtain ⟨w, V, M, pl, im, R, hD, hK, hM⟩ := hW
  have hN := wi_n hD.1.1
  have e0 : g 197 = w := hM.1.1
  unfold two
  cases h : tnB w t k v
  · rw [s_vtown0 hD.1.1 hK.1.1 h]
    refine ⟨_, g, q, rfl, rfl, hE, ?_⟩
    rw [s_mtown0 (by rw [e0]; exact hD.1.1) (by rw [e0]; exact h)]
    exact ⟨rfl, g, q, rfl, hE, w, V, M, pl, im, R, DI_m (Nat.le_add_right _ _) hD, hK, hM⟩
  · have ht : townB w t = true := by
      unfold tnB at h
      rw [Bool.and_eq_true] at h
      exact h.1
    obtain ⟨t', ht', rfl, -⟩ := townB_ex hD.1.1 ht
    refine s_vtown hK hD.1.1 (by omega) h fun g1 f1 k1 => ⟨_, g1, q, rfl, rfl, Env_C hE f1, ?_⟩
    have m1 := Mc_C hM f1
    have e : g1 197 = w := m1.1.1
    rw [s_mtown (by rw [e]; exact hD.1.1) (by omega) (by rw [e]; exact h), e]
    exact ⟨rfl, _, q, rfl, Env_M (Env_C hE f1) fun b hb => by rw [upw_o (by omega), upw_o (by omega)], tnR w (nI t') k v, V, M, [], im, R, ⟨tnR_I hD.1 hB (by omega) h, plI_0, (DI_m (Nat.le_add_right _ _) hD).2.2⟩, Kc_M k1 fun b hb => by rw [upw_o (by omega), upw_o (by omega)], Mc_s m1⟩
theorem k_buy (hW : World B g) (hE : Env L xs g) {f a n : Int32} : two (d + 5) L xs B vr_buy mo_buy [.ref 0, .int f, .int a, .int n] [.ref 196, .int f, .int a, .int n] g q := by
  obtain ⟨w, V, M, pl, im, R, hD, hK, hM⟩ := hW
  have hN := wi_n hD.1.1
  have e0 : g 197 = w := hM.1.1
  unfold two
  cases h : buyB w f a n
  · rw [s_vbuy0 hD.1.1 hK.1.1 h]
    refine ⟨_, g, q, rfl, rfl, hE, ?_⟩
    rw [s_mbuy0 (by rw [e0]; exact hD.1.1) (by rw [e0]; exact h)]
    exact ⟨rfl, g, q, rfl, hE, w, V, M, pl, im, R, hD, hK, hM⟩
  · have ha : armB w f a = true ∧ nI 0 ≤ n ∧ n ≤ nI 999 := by
      unfold buyB at h
      rw [Bool.and_eq_true] at h
      exact ⟨h.1, of_decide_eq_true h.2⟩
    obtain ⟨f', a', hf', rfl, -, ha', rfl⟩ := armB_ex hD.1.1 ha.1
    have ha3 := am_le hD.1.1 (n := f') (by omega)
    obtain ⟨n', hn', rfl⟩ := int_is ha.2 (by decide)
    refine s_vbuy hK hD.1.1 (by omega) (by omega) h fun g1 f1 k1 => ⟨_, g1, q, rfl, rfl, Env_C hE f1, ?_⟩
    have m1 := Mc_C hM f1
    have e : g1 197 = w := m1.1.1
    rw [s_mbuy (by rw [e]; exact hD.1.1) (by omega) (by omega) (by rw [e]; exact h), e]
    exact ⟨rfl, _, q, rfl, Env_M (Env_C hE f1) fun b hb => by rw [upw_o (by omega), upw_o (by omega)], pu w (10 + 20 * f' + (7 + a')) (nI n'), V, M, [], im, R, ⟨rowI_p hD.1 (by omega) (WI_6 hD.1.1 (by omega) (Or.inr ⟨by omega, hn'⟩)) (by rw [sumH_pu_n (by omega) (by omega)]; exact hD.1.2.2.2.2), plI_0, hD.2.2⟩, Kc_M k1 fun b hb => by rw [upw_o (by omega), upw_o (by omega)], Mc_s m1⟩
theorem k_dig (hW : World B g) (hE : Env L xs g) {f a t : Int32} : two (d + 5) L xs B vr_dig mo_dig [.ref 0, .int f, .int a, .int t] [.ref 196, .int f, .int a, .int t] g q := by
  obtain ⟨w, V, M, pl, im, R, hD, hK, hM⟩ := hW
  have hN := wi_n hD.1.1
  have e0 : g 197 = w := hM.1.1
  unfold two
  cases h : digB w f a t
  · rw [s_vdig0 hD.1.1 hK.1.1 h]
    refine ⟨_, g, q, rfl, rfl, hE, ?_⟩
    rw [s_mdig0 (by rw [e0]; exact hD.1.1) (by rw [e0]; exact h)]
    exact ⟨rfl, g, q, rfl, hE, w, V, M, pl, im, R, hD, hK, hM⟩
  · have ha : armB w f a = true ∧ f + nI 1 ≤ t ∧ t ≤ w 0 - nI 1 := by
      unfold digB at h
      rw [Bool.and_eq_true] at h
      exact ⟨h.1, of_decide_eq_true h.2⟩
    obtain ⟨f', a', hf', rfl, -, ha', rfl⟩ := armB_ex hD.1.1 ha.1
    have ha3 := am_le hD.1.1 (n := f') (by omega)
    have h2 := ha.2
    rw [hN.1, nI_add, nI_sub (by omega)] at h2
    obtain ⟨t', h3, h4, rfl⟩ := int_in h2 (by omega) (by omega)
    have hw2 := WI_dig hD.1.1 (f := f') (a := a') (t := t') hf' ha' (by omega) (by omega)
    refine s_vdig hK hD.1.1 (by omega) (by omega) h (by omega) hw2 fun g1 f1 k1 => ⟨_, g1, q, rfl, rfl, Env_C hE f1, ?_⟩
    have m1 := Mc_C hM f1
    have e : g1 197 = w := m1.1.1
    rw [s_mdig (by rw [e]; exact hD.1.1) (by omega) (by omega) (by rw [e]; exact h), e]
    exact ⟨rfl, _, q, rfl, Env_M (Env_C hE f1) fun b hb => by rw [upw_o (by omega), upw_o (by omega)], pu w (10 + 20 * f' + (2 + a')) (nI t'), V, M, [], im, R, ⟨rowI_p hD.1 (by omega) hw2 (by rw [sumH_pu_n (by omega) (by omega)]; exact hD.1.2.2.2.2), plI_0, hD.2.2⟩, Kc_M k1 fun b hb => by rw [upw_o (by omega), upw_o (by omega)], Mc_s m1⟩
theorem k_feed (hW : World B g) (hE : Env L xs g) {a b c e f : Int32} : two (d + 2) L xs B vr_feed mo_feed [.ref 0, .int a, .int b, .int c, .int e, .int f] [.ref 196, .int a, .int b, .int c, .int e, .int f] g q := by
  obtain ⟨w, V, M, pl, im, R, hD, hK, hM⟩ := hW
  unfold two
  by_cases h : R.1.1 ≤ 380
  · refine s_vfeed hK h fun g1 f1 k1 => ⟨_, g1, q, rfl, rfl, Env_C hE f1, ?_⟩
    have m1 := Mc_C hM f1
    refine s_mfeed m1.2.2.1 h fun g2 h1 h2 h3 h4 => ?_
    have fm : fM g1 g2 := fun b hb => h1 b (by omega) (by omega)
    obtain ⟨⟨a1, a2, a3⟩, a4, a5, a6, a7, a8⟩ := m1
    refine ⟨rfl, g2, q, rfl, Env_M (Env_C hE f1) fm, w, V, M, pl, im, RDf R a b c e f, ⟨hD.1, hD.2.1, hD.2.2.1, by show R.1.1 + 20 ≤ 400; omega, fun k hk => ?_⟩, Kc_M k1 fm, ⟨by rw [h1 197 (by decide) (by decide)]; exact a1, by rw [h2 4 (by decide)]; exact a2, by rw [h1 199 (by decide) (by decide)]; exact a3⟩, ?_, h3, fun k hk => ?_, by rw [h2 24 (by decide)]; exact a7, by rw [h2 26 (by decide)]; exact a8⟩
    · show (if k < R.1.1 then R.1.2 k else byt (fdV a b c e f (k - R.1.1)) (24 - 8 * ((k - R.1.1) % 4))) < 256
      split
      next h => exact hD.2.2.2.2 k h
      next h => exact byt_l _ _
    · rw [h1 198 (by decide) (by decide), h2 5 (by decide)]
      exact a4
    · have hk : k < R.1.1 + 20 := hk
      show g2 204 k = nI (if k < R.1.1 then R.1.2 k else byt (fdV a b c e f (k - R.1.1)) (24 - 8 * ((k - R.1.1) % 4)))
      rw [h4]
      by_cases h5 : k < R.1.1
      · rw [if_neg (by omega), if_pos h5]
        exact a6 k h5
      · rw [if_pos (by omega), if_neg h5]
  · rw [s_vfeed0 hK.2.2.2 hD.2.2.2.1 (by omega)]
    refine ⟨_, g, q, rfl, rfl, hE, ?_⟩
    rw [s_mfeed0 hM.2.2.1 hD.2.2.2.1 (by omega)]
    exact ⟨rfl, g, q, rfl, hE, w, V, M, pl, im, R, hD, hK, hM⟩
theorem k_end (hW : World B g) (hE : Env L xs g) {n : Int32} : two (d + 2) L xs B vr_end mo_end [.ref 0, .int n] [.ref 196, .int n] g q := by
  obtain ⟨w, V, M, pl, im, R, hD, hK, hM⟩ := hW
  unfold two
  by_cases h : nI 0 ≤ n ∧ n ≤ nI R.1.1
  · have h4 := hD.2.2.2.1
    obtain ⟨n', hn, rfl⟩ := int_is h (by omega)
    refine s_vend hK hD.2.2.2.1 hn fun g1 f1 k1 => ⟨_, g1, q, rfl, rfl, Env_C hE f1, ?_⟩
    have m1 := Mc_C hM f1
    rw [s_mend (by rw [m1.2.2.1]; exact h)]
    have e : ∀ b, b ≠ 196 → upw g1 196 (pu (g1 196) 17 (nI n')) b = g1 b := fun b hb => upw_o hb
    obtain ⟨⟨a1, a2, a3⟩, a4, a5, a6, a7, a8⟩ := m1
    refine ⟨rfl, _, q, rfl, Env_M (Env_C hE f1) fun b hb => upw_o (by omega), w, V, M, pl, im, RDe R n', ⟨hD.1, hD.2.1, hD.2.2.1, by show n' ≤ 400; omega, fun k hk => hD.2.2.2.2 k (by have hk : k < n' := hk; omega)⟩, Kc_M k1 fun b hb => upw_o (by omega), ⟨by rw [e 197 (by decide)]; exact a1, by rw [upw_s, pu_n (by decide)]; exact a2, by rw [e 199 (by decide)]; exact a3⟩, ?_, by rw [upw_s, pu_s]; rfl, fun k hk => ?_, by rw [upw_s, pu_n (by decide)]; exact a7, by rw [upw_s, pu_n (by decide)]; exact a8⟩
    · rw [e 198 (by decide), upw_s, pu_n (by decide)]
      exact a4
    · have hk : k < n' := hk
      rw [e 204 (by decide)]
      exact a6 k (by omega)
  · rw [s_vend0 hK.2.2.2 h]
    refine ⟨_, g, q, rfl, rfl, hE, ?_⟩
    rw [s_mend0 (by rw [hM.2.2.1]; exact h)]
    exact ⟨rfl, g, q, rfl, hE, w, V, M, pl, im, R, hD, hK, hM⟩
theorem k_days (hW : World B g) (hE : Env L xs g) {n : Int32} : two (d + 11) L xs B vr_days mo_days [.ref 0, .int n] [.ref 196, .int n] g q := by
  obtain ⟨w, V, M, pl, im, R, hD, hK, hM⟩ := hW
  have e0 : g 197 = w := hM.1.1
  unfold two
  cases h : dayB w n
  · rw [s_vdays0 hK.1.1 h]
    refine ⟨_, g, q, rfl, rfl, hE, ?_⟩
    rw [s_mdays0 (by rw [e0]; exact h)]
    exact ⟨rfl, g, q, rfl, hE, w, V, M, pl, im, R, hD, hK, hM⟩
  · have hn : nI 1 ≤ n ∧ n ≤ nI 100 := by
      unfold dayB at h
      rw [Bool.and_eq_true] at h
      exact of_decide_eq_true h.1
    obtain ⟨n', h1, h2, rfl⟩ := int_in hn (by decide) (by decide)
    refine s_vdays hD.1.1 hK.1.1 hK.1.2.1 hK.1.2.2 hK.2.1 (by omega) h fun g1 f1 c1 x1 l1 r1 => ⟨_, g1, q, rfl, rfl, ?_, ?_⟩
    · exact Env_C hE fun b hb => f1 b (by omega) (by omega) (by omega)
    have fc : fC g g1 := fun b hb => f1 b (by omega) (by omega) (by omega)
    have m1 := Mc_C hM fc
    obtain ⟨⟨a1, a2, a3⟩, a4, a5, a6, a7, a8⟩ := m1
    have k1 : Kc (dyN V M n' w) V M (dyPL V M n' w pl) im R g1 := Kc_mk hK ⟨c1, x1, l1⟩ r1 fun b hb => f1 b (by omega) (by omega) (by omega)
    have hI := dyN_I n' w pl hD.1 hD.2.1
    refine s_mdays (pl := pl) (by rw [a1]; exact hD.1.1) (by rw [a1]; exact hD.1.2.1) (by rw [a1]; exact hD.1.2.2.1) hD.2.1.1 a2 a3 (by omega) (by rw [a1]; exact h) fun g2 f2 e1 e2 e3 => ?_
    rw [a1] at e1 e2 e3 ⊢
    have fm := FR_M f2 rfl
    refine ⟨rfl, g2, q, rfl, Env_M (Env_C hE fc) fm, dyN V M n' w, V, M, dyPL V M n' w pl, im, R, ⟨hI.1, hI.2, hD.2.2⟩, Kc_M k1 fm, ⟨e1, e2, e3⟩, ?_, by rw [f2.2 17 (by decide)]; exact a5, by rw [FR_a f2 (a := 204) rfl]; exact a6, by rw [f2.2 24 (by decide)]; exact a7, by rw [f2.2 26 (by decide)]; exact a8⟩
    rw [FR_a f2 (a := 198) rfl, f2.2 5 (by decide)]
    exact a4
theorem k_undo (hW : World B g) (hE : Env L xs g) : two (d + 4) L xs B vr_undo mo_undo [.ref 0] [.ref 196] g q := by
  obtain ⟨w, V, M, pl, im, R, hD, hK, hM⟩ := hW
  unfold two
  match pl, hD, hK, hM with
  | [], hD, hK, hM =>
    rw [s_vundo0 hK.2.1]
    refine ⟨_, g, q, rfl, rfl, hE, ?_⟩
    rw [s_mundo0 hM.1.2.1]
    exact ⟨rfl, g, q, rfl, hE, w, V, M, [], im, R, hD, hK, hM⟩
  | r :: pl, hD, hK, hM =>
    refine s_vundo hK.2.1 fun g1 f1 c1 r1 => ⟨_, g1, q, rfl, rfl, ?_, ?_⟩
    · exact Env_C hE fun b hb => f1 b (by omega) (by omega)
    have fc : fC g g1 := fun b hb => f1 b (by omega) (by omega)
    have m1 := Mc_C hM fc
    obtain ⟨⟨a1, a2, a3⟩, a4, a5, a6, a7, a8⟩ := m1
    have hI := mrg_I hD.1 hD.2.1
    have hr := hD.2.1.2 r (List.mem_cons_self ..)
    have k1 : Kc (mrg r w) V M pl im R g1 := Kc_mk hK ⟨tc_of hD.1.1 hr.1 hr.2.1 hK.1.1 c1 fun b hb => f1 b (by omega) (by omega), tx_of hK.1.2.1 c1 (f1 30 (by decide) (by omega)), CL_c hK.1.2.2 fun a b1 b2 b3 => f1 a (by omega) (by omega)⟩ r1 fun b hb => f1 b (by omega) (by omega)
    rw [s_mundo hD.2.1.1 a2 a3, a1]
    have e : ∀ b, b ≠ 196 → b ≠ 197 → upw (upw g1 196 (pu (g1 196) 4 (nI pl.length))) 197 (mrg r w) b = g1 b := fun b b1 b2 => by rw [upw_o b2, upw_o b1]
    refine ⟨rfl, _, q, rfl, Env_M (Env_C hE fc) fun b hb => e b (by omega) (by omega), mrg r w, V, M, pl, im, R, ⟨hI.1, hI.2, hD.2.2⟩, Kc_M k1 fun b hb => e b (by omega) (by omega), ⟨upw_s, by rw [upw_o (by decide), upw_s, pu_s], by rw [e 199 (by decide) (by decide)]; exact BR_t a3⟩, ?_, by rw [upw_o (by decide), upw_s, pu_n (by decide)]; exact a5, by rw [e 204 (by decide) (by decide)]; exact a6, by rw [upw_o (by decide), upw_s, pu_n (by decide)]; exact a7, by rw [upw_o (by decide), upw_s, pu_n (by decide)]; exact a8⟩
    rw [e 198 (by decide) (by decide), upw_o (by decide), upw_s, pu_n (by decide)]
    exact a4
theorem k_image (hW : World B g) (hE : Env L xs g) {x : Int32} : two (d + 4) L xs B vr_image mo_image [.ref 0, .int x] [.ref 196, .int x] g q := by
  obtain ⟨w, V, M, pl, im, R, hD, hK, hM⟩ := hW
  unfold two
  have z8 : z5 (g 198) := by
    match im, hD, hM with
    | none, _, hM => exact hM.2.1.2
    | some x, hD, hM =>
      rw [show g 198 = x.1 from hM.2.1.2]
      exact (hD.2.2.1 x rfl).2.2.2.1
  by_cases hx : x = nI 0
  · subst hx
    match im, hD, hK, hM with
    | none, hD, hK, hM =>
      rw [s_vimg0 hK]
      refine ⟨_, g, q, rfl, rfl, hE, ?_⟩
      rw [s_mimg0 hM.2.1.1]
      exact ⟨rfl, g, q, rfl, hE, w, V, M, pl, none, R, hD, hK, hM⟩
    | some (w', V', M'), hD, hK, hM =>
      have hI := hD.2.2.1 (w', V', M') rfl
      refine s_vimg hK hI.1 fun g1 f1 k1 => ⟨_, g1, q, rfl, rfl, Env_C hE f1, ?_⟩
      have m1 := Mc_C hM f1
      obtain ⟨⟨a1, a2, a3⟩, a4, a5, a6, a7, a8⟩ := m1
      have e8 : g1 198 = w' := a4.2
      rw [s_mimg a4.1 (by rw [a1]; exact hD.1.2.2.2.1) (by rw [e8]; exact hI.2.2.2.1), e8]
      have e : ∀ b, b ≠ 196 → b ≠ 197 → upw (upw g1 197 w') 196 (pu (pu (g1 196) 4 (nI 0)) 5 (nI 1)) b = g1 b := fun b b1 b2 => by rw [upw_o b1, upw_o b2]
      refine ⟨rfl, _, q, rfl, Env_M (Env_C hE f1) fun b hb => e b (by omega) (by omega), w', V', M', [], some (w', V', M'), R, ⟨hI, plI_0, hD.2.2⟩, Kc_M k1 fun b hb => e b (by omega) (by omega), ⟨by rw [upw_o (by decide), upw_s], by rw [upw_s, pu_n (by decide), pu_s]; rfl, fun i r hr => by rw [List.getElem?_nil] at hr; cases hr⟩, ⟨by rw [upw_s, pu_s], by rw [e 198 (by decide) (by decide)]; exact e8⟩, by rw [upw_s, pu_n (by decide), pu_n (by decide)]; exact a5, by rw [e 204 (by decide) (by decide)]; exact a6, by rw [upw_s, pu_n (by decide), pu_n (by decide)]; exact a7, by rw [upw_s, pu_n (by decide), pu_n (by decide)]; exact a8⟩
  · refine s_vimg1 hK hD.1.1 hx fun g1 f1 k1 => ⟨_, g1, q, rfl, rfl, Env_C hE f1, ?_⟩
    have m1 := Mc_C hM f1
    obtain ⟨⟨a1, a2, a3⟩, a4, a5, a6, a7, a8⟩ := m1
    rw [s_mimg1 hx (by rw [a1]; exact hD.1.2.2.2.1) (by rw [f1 198 (by decide)]; exact z8), a1]
    have e : ∀ b, b ≠ 196 → b ≠ 198 → upw (upw g1 198 w) 196 (pu (g1 196) 5 (nI 1)) b = g1 b := fun b b1 b2 => by rw [upw_o b1, upw_o b2]
    refine ⟨rfl, _, q, rfl, Env_M (Env_C hE f1) fun b hb => e b (by omega) (by omega), w, V, M, pl, some (w, V, M), R, ⟨hD.1, hD.2.1, fun x hx => by cases hx; exact hD.1, hD.2.2.2⟩, Kc_M k1 fun b hb => e b (by omega) (by omega), ⟨by rw [e 197 (by decide) (by decide)]; exact a1, by rw [upw_s, pu_n (by decide)]; exact a2, by rw [e 199 (by decide) (by decide)]; exact a3⟩, ⟨by rw [upw_s, pu_s], by rw [upw_o (by decide), upw_s]⟩, by rw [upw_s, pu_n (by decide)]; exact a5, by rw [e 204 (by decide) (by decide)]; exact a6, by rw [upw_s, pu_n (by decide)]; exact a7, by rw [upw_s, pu_n (by decide)]; exact a8⟩
end KA
