/-! rows: what holds of them when a place is written anew -/
def NBk (N n : Nat) (v : Nat → Nat) : Prop :=
  (v 0 ≤ 2 ∧ v 1 ≤ 3 ∧ v 2 ≤ 15 ∧ v 3 ≤ 15 ∧ v 4 ≤ 15) ∧ (v 5 ≤ 7 ∧ v 6 ≤ 99 ∧ v 7 ≤ 999 ∧ v 8 ≤ 999 ∧ v 9 ≤ 999) ∧
  (v 10 ≤ 6000000 ∧ v 11 ≤ 999 ∧ v 12 ≤ 1998 ∧ v 13 ≤ 99 ∧ v 14 ≤ 9 ∧ v 15 ≤ 9 ∧ v 16 ≤ 50 * v 15 ∧ v 17 ≤ 1) ∧
  (n < N → (v 0 = 0 → 2 ≤ v 1 ∧ 1 ≤ v 5 ∧ v 5 < 2 ^ v 1) ∧ (v 0 = 1 → v 1 = 1 ∧ 1 ≤ v 11) ∧ (v 0 = 2 → v 1 = 0)) ∧
  (N ≤ n → v 0 = 0 ∧ v 1 = 0 ∧ v 5 = 0) ∧ (∀ a, a < v 1 → n < v (2 + a) ∧ v (2 + a) < N) ∧ ((N ≤ n ∨ v 0 ≠ 1) → ∀ f, 10 ≤ f → f < 18 → v f = 0)
theorem NI_nb {w : Nat → Int32} {n : Nat} (h : NI w n) : NBk (nn w) n (fd w n) := by
  obtain ⟨⟨a0, a1, a2, a3, a4⟩, ⟨b0, b1, b2, b3, b4⟩, ⟨c0, c1, c2, c3, c4, c5, c6, c7⟩, h4, h5, h6, h7⟩ := h
  exact ⟨⟨a0.2, a1.2, a2.2, a3.2, a4.2⟩, ⟨b0.2, b1.2, b2.2, b3.2, b4.2⟩, ⟨c0.2, c1.2, c2.2, c3.2, c4.2, c5.2, c6.2, c7.2⟩, h4, h5, h6, h7⟩
theorem NI_eq {w : Nat → Int32} {n : Nat} (h : NI w n) : ∀ f, f < 18 → w (10 + 20 * n + f) = nI (fd w n f) := by
  obtain ⟨⟨a0, a1, a2, a3, a4⟩, ⟨b0, b1, b2, b3, b4⟩, ⟨c0, c1, c2, c3, c4, c5, c6, c7⟩, h4, h5, h6, h7⟩ := h
  intro f hf
  match f, hf with
  | 0, _ => exact a0.1
  | 1, _ => exact a1.1
  | 2, _ => exact a2.1
  | 3, _ => exact a3.1
  | 4, _ => exact a4.1
  | 5, _ => exact b0.1
  | 6, _ => exact b1.1
  | 7, _ => exact b2.1
  | 8, _ => exact b3.1
  | 9, _ => exact b4.1
  | 10, _ => exact c0.1
  | 11, _ => exact c1.1
  | 12, _ => exact c2.1
  | 13, _ => exact c3.1
  | 14, _ => exact c4.1
  | 15, _ => exact c5.1
  | 16, _ => exact c6.1
  | 17, _ => exact c7.1
  | _ + 18, hh => exact absurd hh (by omega)
theorem NB_c {N n : Nat} {v v' : Nat → Nat} (e : ∀ f, f < 18 → v' f = v f) (h : NBk N n v) : NBk N n v' := by
  obtain ⟨⟨a0, a1, a2, a3, a4⟩, ⟨b0, b1, b2, b3, b4⟩, ⟨c0, c1, c2, c3, c4, c5, c6, c7⟩, h4, h5, h6, h7⟩ := h
  unfold NBk
  rw [e 0 (by decide), e 1 (by decide), e 2 (by decide), e 3 (by decide), e 4 (by decide), e 5 (by decide), e 6 (by decide), e 7 (by decide), e 8 (by decide), e 9 (by decide), e 10 (by decide), e 11 (by decide), e 12 (by decide), e 13 (by decide), e 14 (by decide), e 15 (by decide), e 16 (by decide), e 17 (by decide)]
  refine ⟨⟨a0, a1, a2, a3, a4⟩, ⟨b0, b1, b2, b3, b4⟩, ⟨c0, c1, c2, c3, c4, c5, c6, c7⟩, h4, h5, fun a ha => ?_, fun hh f h1 h2 => ?_⟩
  · rw [e (2 + a) (by omega)]
    exact h6 a ha
  · rw [e f h2]
    exact h7 hh f h1 h2
theorem NI_mk {w : Nat → Int32} {n : Nat} {v : Nat → Nat} (e : ∀ f, f < 18 → w (10 + 20 * n + f) = nI (v f)) (h : NBk (nn w) n v) (hN : nn w ≤ 16) : NI w n := by
  have vb : ∀ f, f < 18 → v f < 2147483648 := by
    obtain ⟨⟨a0, a1, a2, a3, a4⟩, ⟨b0, b1, b2, b3, b4⟩, ⟨c0, c1, c2, c3, c4, c5, c6, c7⟩, -, -, -, -⟩ := h
    intro f hf
    match f, hf with
    | 0, _ => omega
    | 1, _ => omega
    | 2, _ => omega
    | 3, _ => omega
    | 4, _ => omega
    | 5, _ => omega
    | 6, _ => omega
    | 7, _ => omega
    | 8, _ => omega
    | 9, _ => omega
    | 10, _ => omega
    | 11, _ => omega
    | 12, _ => omega
    | 13, _ => omega
    | 14, _ => omega
    | 15, _ => omega
    | 16, _ => omega
    | 17, _ => omega
    | _ + 18, hh => exact absurd hh (by omega)
  have ev : ∀ f, f < 18 → fd w n f = v f := fun f hf => by
    show ix (w (10 + 20 * n + f)) = _
    rw [e f hf, ix_nI (vb f hf)]
  have h := NB_c ev h
  have rr : ∀ f m, f < 18 → fd w n f ≤ m → rg w (10 + 20 * n + f) m := fun f m hf hm => ⟨by
    show _ = nI (fd w n f)
    rw [ev f hf, e f hf], hm⟩
  obtain ⟨⟨a0, a1, a2, a3, a4⟩, ⟨b0, b1, b2, b3, b4⟩, ⟨c0, c1, c2, c3, c4, c5, c6, c7⟩, h4, h5, h6, h7⟩ := h
  exact ⟨⟨rr 0 2 (by decide) a0, rr 1 _ (by decide) a1, rr 2 _ (by decide) a2, rr 3 _ (by decide) a3, rr 4 _ (by decide) a4⟩, ⟨rr 5 _ (by decide) b0, rr 6 _ (by decide) b1, rr 7 _ (by decide) b2, rr 8 _ (by decide) b3, rr 9 _ (by decide) b4⟩, ⟨rr 10 _ (by decide) c0, rr 11 _ (by decide) c1, rr 12 _ (by decide) c2, rr 13 _ (by decide) c3, rr 14 _ (by decide) c4, rr 15 _ (by decide) c5, rr 16 _ (by decide) c6, rr 17 _ (by decide) c7⟩, h4, h5, h6, h7⟩
theorem NI_c {w w' : Nat → Int32} {n : Nat} (h : NI w n) (e0 : nn w' = nn w) (hN : nn w ≤ 16) (e : ∀ f, f < 18 → w' (10 + 20 * n + f) = w (10 + 20 * n + f)) : NI w' n := by
  refine NI_mk (v := fd w n) (fun f hf => ?_) ?_ (by omega)
  · rw [e f hf]
    exact NI_eq h f hf
  · rw [e0]
    exact NI_nb h
theorem rg_c {w w' : Nat → Int32} {k m : Nat} (e : w' k = w k) (h : rg w k m) : rg w' k m := by
  unfold rg vN at *
  rw [e]
  exact h
theorem fd_c {w w' : Nat → Int32} {n f : Nat} (e : w' (10 + 20 * n + f) = w (10 + 20 * n + f)) : fd w' n f = fd w n f := congrArg ix e
theorem nn_c {w w' : Nat → Int32} (e : w' 0 = w 0) : nn w' = nn w := congrArg ix e
theorem sumH_c {w w' : Nat → Int32} : ∀ n, (∀ t, t < n → fd w' t 10 = fd w t 10) → sumH w' n = sumH w n
  | 0, _ => rfl
  | n + 1, h => by
    unfold sumH
    rw [sumH_c n fun t ht => h t (by omega), h n (by omega)]
/-- places of which WI says nothing -/
theorem WI_c {w w' : Nat → Int32} (h : WI w) (e : ∀ k, k = 0 ∨ k = 2 ∨ (6 ≤ k ∧ k < 330) → w' k = w k) : WI w' := by
  obtain ⟨⟨h0, h1⟩, h2, ⟨h6, h7, h8, h9⟩, hN, hS⟩ := h
  have e0 : nn w' = nn w := nn_c (e 0 (Or.inl rfl))
  refine ⟨⟨rg_c (e 0 (Or.inl rfl)) h0, by rw [e0]; exact h1⟩, rg_c (e 2 (by omega)) h2, ⟨rg_c (e 6 (by omega)) h6, rg_c (e 7 (by omega)) h7, rg_c (e 8 (by omega)) h8, rg_c (e 9 (by omega)) h9⟩, fun n hn => NI_c (hN n hn) e0 h0.2 fun f hf => e _ (by omega), ?_⟩
  rw [sumH_c 16 fun t ht => fd_c (e _ (by omega))]
  exact hS
theorem WI_pu_o {w : Nat → Int32} (h : WI w) {k : Nat} {v : Int32} (hk : k = 1 ∨ k = 3 ∨ k = 4 ∨ k = 5 ∨ 330 ≤ k) : WI (pu w k v) := WI_c h fun j hj => pu_n (by omega)
theorem fd_pu {w : Nat → Int32} {n f m f' v : Nat} (hf : f < 20) (hf' : f' < 20) (hv : v < 2147483648) : fd (pu w (10 + 20 * n + f) (nI v)) m f' = if m = n ∧ f' = f then v else fd w m f' := by
  show ix (pu w (10 + 20 * n + f) (nI v) (10 + 20 * m + f')) = _
  unfold pu
  by_cases e : m = n ∧ f' = f
  · rw [if_pos (by omega), if_pos e, ix_nI hv]
  · rw [if_neg (by omega), if_neg e]
    rfl
theorem fd_pu_s {w : Nat → Int32} {n f v : Nat} (hv : v < 2147483648) : fd (pu w (10 + 20 * n + f) (nI v)) n f = v := by
  show ix (pu w (10 + 20 * n + f) (nI v) (10 + 20 * n + f)) = _
  rw [pu_s, ix_nI hv]
theorem fd_pu_n {w : Nat → Int32} {k m f' : Nat} {v : Int32} (h : 10 + 20 * m + f' ≠ k) : fd (pu w k v) m f' = fd w m f' := fd_c (pu_n h)
theorem nn_pu {w : Nat → Int32} {k : Nat} {v : Int32} (h : 0 ≠ k) : nn (pu w k v) = nn w := nn_c (pu_n h)
theorem sumH_pu {w : Nat → Int32} {n v : Nat} (hv : v < 2147483648) : ∀ m, sumH (pu w (10 + 20 * n + 10) (nI v)) m + (if n < m then fd w n 10 else 0) = sumH w m + (if n < m then v else 0)
  | 0 => rfl
  | m + 1 => by
    have h := sumH_pu (w := w) (n := n) hv m
    have e := fd_pu (w := w) (n := n) (m := m) (f := 10) (f' := 10) (by decide) (by decide) hv
    unfold sumH
    rw [e]
    by_cases e1 : m = n
    · subst e1
      rw [if_neg (Nat.lt_irrefl _), if_neg (Nat.lt_irrefl _)] at h
      rw [if_pos ⟨rfl, rfl⟩, if_pos (by omega), if_pos (by omega)]
      omega
    · rw [if_neg fun hh => e1 hh.1]
      by_cases e2 : n < m
      · rw [if_pos e2, if_pos e2] at h
        rw [if_pos (by omega), if_pos (by omega)]
        omega
      · rw [if_neg e2, if_neg e2] at h
        rw [if_neg (by omega), if_neg (by omega)]
        omega
/-- field f of node n anew -/
theorem WI_pu {w : Nat → Int32} (h : WI w) {n f v : Nat} (hn : n < 16) (hf : f < 18) (hb : NBk (nn w) n (fun k => if k = f then v else fd w n k)) (hs : sumH (pu w (10 + 20 * n + f) (nI v)) 16 ≤ 6000000) : WI (pu w (10 + 20 * n + f) (nI v)) := by
  obtain ⟨⟨h0, h1⟩, h2, ⟨h6, h7, h8, h9⟩, hN, hS⟩ := h
  have e0 : nn (pu w (10 + 20 * n + f) (nI v)) = nn w := nn_pu (by omega)
  refine ⟨⟨rg_c (pu_n (by omega)) h0, by rw [e0]; exact h1⟩, rg_c (pu_n (by omega)) h2, ⟨rg_c (pu_n (by omega)) h6, rg_c (pu_n (by omega)) h7, rg_c (pu_n (by omega)) h8, rg_c (pu_n (by omega)) h9⟩, fun m hm => ?_, hs⟩
  by_cases e : m = n
  · subst e
    refine NI_mk (v := fun k => if k = f then v else fd w m k) (fun f' hf' => ?_) (by rw [e0]; exact hb) (by rw [e0]; exact h0.2)
    show _ = nI (if f' = f then v else fd w m f')
    unfold pu
    by_cases e1 : f' = f
    · rw [if_pos (by omega), if_pos e1]
    · rw [if_neg (by omega), if_neg e1]
      exact NI_eq (hN m hm) f' hf'
  · exact NI_c (hN m hm) e0 h0.2 fun f' hf' => pu_n (by omega)
theorem sumH_pu_n {w : Nat → Int32} {n f v : Nat} (hf : f < 18) (h10 : f ≠ 10) : ∀ m, sumH (pu w (10 + 20 * n + f) (nI v)) m = sumH w m := fun m => sumH_c m fun t _ => fd_pu_n (by omega)
theorem WI_s {w : Nat → Int32} (h : WI w) : sumH w 16 ≤ 6000000 := h.2.2.2.2
/-- fields of forks: OPEN, WON, BOUGHT -/
theorem WI_5 {w : Nat → Int32} (h : WI w) {n v : Nat} (hn : n < nn w) (h0 : fd w n 0 = 0) (h1 : 1 ≤ v) (h2 : v < 2 ^ am w n) : WI (pu w (10 + 20 * n + 5) (nI v)) := by
  have hN := wi_n h
  have hb := NI_nb (wi_f h (n := n) (by omega))
  have h3 := am_le h (n := n) (by omega)
  have h4 : 2 ^ am w n ≤ 2 ^ 3 := Nat.pow_le_pow_right (by decide) h3
  refine WI_pu h (by omega) (by decide) ?_ (by rw [sumH_pu_n (by decide) (by decide)]; exact WI_s h)
  obtain ⟨⟨a0, a1, a2, a3, a4⟩, ⟨b0, b1, b2, b3, b4⟩, ⟨c0, c1, c2, c3, c4, c5, c6, c7⟩, k4, k5, k6, k7⟩ := hb
  refine ⟨⟨a0, a1, a2, a3, a4⟩, ⟨show v ≤ 7 by omega, b1, b2, b3, b4⟩, ⟨c0, c1, c2, c3, c4, c5, c6, c7⟩, fun hh => ⟨fun hh2 => ⟨((k4 hh).1 hh2).1, h1, h2⟩, (k4 hh).2⟩, fun hh => absurd hn (by omega), fun a ha => ?_, fun hh f f1 f2 => ?_⟩
  · have ha' : a < fd w n 1 := ha
    show n < (if 2 + a = 5 then v else fd w n (2 + a)) ∧ (if 2 + a = 5 then v else fd w n (2 + a)) < nn w
    rw [if_neg (by omega)]
    exact k6 a ha'
  · show (if f = 5 then v else fd w n f) = 0
    rw [if_neg (by omega)]
    exact k7 hh f f1 f2
theorem WI_6 {w : Nat → Int32} (h : WI w) {n f v : Nat} (hn : n < 16) (hf : f = 6 ∧ v ≤ 99 ∨ (f = 7 ∨ f = 8 ∨ f = 9) ∧ v ≤ 999) : WI (pu w (10 + 20 * n + f) (nI v)) := by
  have hb := NI_nb (wi_f h hn)
  refine WI_pu h hn (by omega) ?_ (by rw [sumH_pu_n (by omega) (by omega)]; exact WI_s h)
  obtain ⟨⟨a0, a1, a2, a3, a4⟩, ⟨b0, b1, b2, b3, b4⟩, ⟨c0, c1, c2, c3, c4, c5, c6, c7⟩, k4, k5, k6, k7⟩ := hb
  have x : ∀ k, k ≠ 6 → k ≠ 7 → k ≠ 8 → k ≠ 9 → (if k = f then v else fd w n k) = fd w n k := fun k _ _ _ _ => if_neg (by omega)
  have y : ∀ k m, fd w n k ≤ m → v ≤ m ∨ k ≠ f → (if k = f then v else fd w n k) ≤ m := fun k m h1 h2 => by
    split <;> omega
  unfold NBk
  simp only [x 0 (by decide) (by decide) (by decide) (by decide), x 1 (by decide) (by decide) (by decide) (by decide), x 2 (by decide) (by decide) (by decide) (by decide), x 3 (by decide) (by decide) (by decide) (by decide), x 4 (by decide) (by decide) (by decide) (by decide), x 5 (by decide) (by decide) (by decide) (by decide), x 10 (by decide) (by decide) (by decide) (by decide), x 11 (by decide) (by decide) (by decide) (by decide), x 12 (by decide) (by decide) (by decide) (by decide), x 13 (by decide) (by decide) (by decide) (by decide), x 14 (by decide) (by decide) (by decide) (by decide), x 15 (by decide) (by decide) (by decide) (by decide), x 16 (by decide) (by decide) (by decide) (by decide), x 17 (by decide) (by decide) (by decide) (by decide)]
  refine ⟨⟨a0, a1, a2, a3, a4⟩, ⟨b0, y 6 99 b1 (by omega), y 7 999 b2 (by omega), y 8 999 b3 (by omega), y 9 999 b4 (by omega)⟩, ⟨c0, c1, c2, c3, c4, c5, c6, c7⟩, k4, k5, fun a ha => ?_, fun hh f' f1 f2 => ?_⟩
  · rw [x (2 + a) (by omega) (by omega) (by omega) (by omega)]
    exact k6 a ha
  · rw [if_neg (by omega)]
    exact k7 hh f' f1 f2
/-- fields of towns -/
theorem WI_t {w : Nat → Int32} (h : WI w) {n f v : Nat} (hn : n < nn w) (h0 : fd w n 0 = 1) (hf : f = 10 ∧ v ≤ 6000000 ∨ f = 11 ∧ 1 ≤ v ∧ v ≤ 999 ∨ f = 12 ∧ v ≤ 1998 ∨ f = 13 ∧ v ≤ 99 ∨ f = 14 ∧ v ≤ 9 ∨ f = 15 ∧ v ≤ 9 ∧ fd w n 16 ≤ 50 * v ∨ f = 16 ∧ v ≤ 50 * fd w n 15 ∨ f = 17 ∧ v ≤ 1) (hs : f = 10 → sumH w 16 + v ≤ 6000000 + fd w n 10) : WI (pu w (10 + 20 * n + f) (nI v)) := by
  have hN := wi_n h
  have hb := NI_nb (wi_f h (n := n) (by omega))
  refine WI_pu h (by omega) (by omega) ?_ ?_
  · obtain ⟨⟨a0, a1, a2, a3, a4⟩, ⟨b0, b1, b2, b3, b4⟩, ⟨c0, c1, c2, c3, c4, c5, c6, c7⟩, k4, k5, k6, k7⟩ := hb
    have x : ∀ k, k < 10 → (if k = f then v else fd w n k) = fd w n k := fun k _ => if_neg (by omega)
    have y : ∀ k m, fd w n k ≤ m → v ≤ m ∨ k ≠ f → (if k = f then v else fd w n k) ≤ m := fun k m h1 h2 => by
      split <;> omega
    unfold NBk
    simp only [x 0 (by decide), x 1 (by decide), x 2 (by decide), x 3 (by decide), x 4 (by decide), x 5 (by decide), x 6 (by decide), x 7 (by decide), x 8 (by decide), x 9 (by decide)]
    refine ⟨⟨a0, a1, a2, a3, a4⟩, ⟨b0, b1, b2, b3, b4⟩, ⟨y 10 _ c0 (by omega), y 11 _ c1 (by omega), y 12 _ c2 (by omega), y 13 _ c3 (by omega), y 14 _ c4 (by omega), y 15 _ c5 (by omega), ?_, y 17 _ c7 (by omega)⟩, fun hh => ⟨fun hh2 => absurd hh2 (by omega), fun _ => ⟨((k4 hh).2.1 h0).1, ?_⟩, (k4 hh).2.2⟩, k5, fun a ha => ?_, fun hh => absurd hh (by omega)⟩
    · split <;> split <;> omega
    · have := ((k4 hh).2.1 h0).2
      split <;> omega
    · rw [x (2 + a) (by omega)]
      exact k6 a ha
  · by_cases e : f = 10
    · have hs := hs e
      subst e
      have := sumH_pu (w := w) (n := n) (v := v) (by omega) 16
      rw [if_pos (by omega), if_pos (by omega)] at this
      omega
    · rw [sumH_pu_n (by omega) e]
      exact WI_s h
/-- the row behind the water -/
theorem sto_l {w : Nat → Int32} (h : WI w) {c t : Nat} (ht : t < 16) : sto w c t ≤ 50 * fd w t 15 := by
  have := (wi_y h ht).2.2.2.2.2.2.1.2
  unfold sto tak giv
  repeat' split
  all_goals omega
theorem flN_n {w : Nat → Int32} {fl n m f : Nat} (hm : n ≤ m) (hf : f < 20) : flN w fl n (10 + 20 * m + f) = w (10 + 20 * m + f) := flN_o (by omega) _ fun t ht => by omega
theorem flN_t {w : Nat → Int32} {fl n m f : Nat} (hf : f < 12 ∨ f = 14 ∨ f = 15 ∨ f = 18 ∨ f = 19) : flN w fl n (10 + 20 * m + f) = w (10 + 20 * m + f) := flN_o (by omega) _ fun t ht => by omega
theorem flN_0 {w : Nat → Int32} {fl n : Nat} : nn (flN w fl n) = nn w := nn_c (flN_o (by decide) _ fun t ht => by omega)
theorem drk_1 {w r : Nat → Int32} (h : WI w) (hr : WI r) {c t : Nat} (hn : nn r = nn w) (ht : t < nn w) (h0 : fd w t 0 = 1) (hc : c ≤ 1998) (he : ∀ f, f < 20 → r (10 + 20 * t + f) = w (10 + 20 * t + f)) : WI (drk r w c t) := by
  have hN := wi_n h
  have h16 := sto_l h (c := c) (t := t) (by omega)
  have h13 := (wi_y h (n := t) (by omega)).2.2.2.1.2
  have r0 : fd r t 0 = 1 := by rw [fd_c (he 0 (by decide))]; exact h0
  have r15 : fd r t 15 = fd w t 15 := fd_c (he 15 (by decide))
  unfold drk
  have w1 := WI_t hr (n := t) (f := 12) (v := c) (by omega) r0 (by omega) (by omega)
  have e15 : fd (pu r (10 + 20 * t + 12) (nI c)) t 15 = fd w t 15 := by rw [fd_pu_n (by omega), r15]
  have w2 := WI_t w1 (n := t) (f := 16) (v := sto w c t) (by rw [nn_pu (by omega)]; omega) (by rw [fd_pu_n (by omega)]; exact r0) (by rw [e15]; omega) (by omega)
  have l1 : (if wetP w c t = true then 1 else 0) ≤ 1 := by split <;> omega
  have w3 := WI_t w2 (n := t) (f := 17) (v := if wetP w c t = true then 1 else 0) (by rw [nn_pu (by omega), nn_pu (by omega)]; omega) (by rw [fd_pu_n (by omega), fd_pu_n (by omega)]; exact r0) (by omega) (by omega)
  have l2 : (if wetP w c t = true then 0 else if 99 < fd w t 13 + 1 then 99 else fd w t 13 + 1) ≤ 99 := by
    repeat' split
    all_goals omega
  exact WI_t w3 (n := t) (f := 13) (v := if wetP w c t = true then 0 else if 99 < fd w t 13 + 1 then 99 else fd w t 13 + 1) (by rw [nn_pu (by omega), nn_pu (by omega), nn_pu (by omega)]; omega) (by rw [fd_pu_n (by omega), fd_pu_n (by omega), fd_pu_n (by omega)]; exact r0) (by omega) (by omega)
theorem flN_wi {w : Nat → Int32} (h : WI w) {fl : Nat} (hfl : fl ≤ 1998) : ∀ n, n ≤ nn w → WI (flN w fl n)
  | 0, _ => h
  | n + 1, hn => by
    have hN := wi_n h
    have h1 := flN_wi h hfl n (by omega)
    have hc := cm_le h (opO_w h) (fl := fl) (n := n) (by omega)
    unfold flN
    split
    · exact h1
    · split
      next e => exact drk_1 h h1 flN_0 (by omega) e (by omega) fun f hf => flN_n (Nat.le_refl _) hf
      next e => exact WI_pu_o h1 (by omega)
theorem flR_wi {w : Nat → Int32} (h : WI w) {fl : Nat} (hfl : fl ≤ 1998) : WI (flR w fl) := WI_c (flN_wi h hfl _ (Nat.le_refl _)) fun k hk => cmw_o (by omega)
