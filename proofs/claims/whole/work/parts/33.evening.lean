/-! an evening, told as rows -/
theorem far_c {w w' : Nat → Int32} (h : WI w) (e : ∀ n, n < 16 → am w' n = am w n ∧ ∀ a, a < am w n → tg w' n a = tg w n a) : ∀ f s m, s < 16 → dst w' f s m = dst w f s m
  | 0, s, m, _ => rfl
  | f + 1, s, m, hs => by
    unfold dst
    rw [(e s hs).1]
    split
    · rfl
    · refine minA_c _ fun a ha => ?_
      have h1 := tg_lt h hs ha
      have h2 := wi_n h
      show dst w' f (tg w' s a) m + 1 = dst w f (tg w s a) m + 1
      rw [(e s hs).2 a ha, far_c h e f _ m (by omega)]
/-- the nodes are as they were -/
def stc (w w' : Nat → Int32) : Prop := w' 0 = w 0 ∧ ∀ n f, n < 16 → f < 5 → w' (10 + 20 * n + f) = w (10 + 20 * n + f)
theorem stc_r {w : Nat → Int32} : stc w w := ⟨rfl, fun _ _ _ _ => rfl⟩
theorem stc_t {w w' w2 : Nat → Int32} (h : stc w w') (h' : stc w' w2) : stc w w2 := ⟨h'.1.trans h.1, fun n f hn hf => (h'.2 n f hn hf).trans (h.2 n f hn hf)⟩
theorem stc_y {w w' : Nat → Int32} (h : stc w w') : stc w' w := ⟨h.1.symm, fun n f hn hf => (h.2 n f hn hf).symm⟩
theorem stc_fd {w w' : Nat → Int32} (h : stc w w') {n f : Nat} (hn : n < 16) (hf : f < 5) : fd w' n f = fd w n f := fd_c (h.2 n f hn hf)
theorem stc_am {w w' : Nat → Int32} (h : stc w w') {n : Nat} (hn : n < 16) : am w' n = am w n := stc_fd h hn (by decide)
theorem stc_tg {w w' : Nat → Int32} (h : stc w w') {n a : Nat} (hn : n < 16) (ha : a < 3) : tg w' n a = tg w n a := stc_fd h hn (by omega)
theorem stc_nn {w w' : Nat → Int32} (h : stc w w') : nn w' = nn w := nn_c h.1
theorem stc_far {w w' : Nat → Int32} (hw : WI w) (h : stc w w') {s m : Nat} (hs : s < 16) : far w' s m = far w s m :=
  far_c hw (fun n hn => ⟨stc_am h hn, fun a ha => stc_tg h hn (by have := am_le hw hn; omega)⟩) 16 s m hs
theorem bset_c {p p' : Nat → Bool} : ∀ n, (∀ a, a < n → p' a = p a) → bset p' n = bset p n
  | 0, _ => rfl
  | n + 1, h => by
    unfold bset
    rw [bset_c n fun a ha => h a (by omega), h n (by omega)]
theorem bset_f {p : Nat → Bool} : ∀ n, (∀ a, a < n → p a = false) → bset p n = 0
  | 0, _ => rfl
  | n + 1, h => by
    unfold bset
    rw [bset_f n fun a ha => h a (by omega), h n (by omega), if_neg Bool.false_ne_true]
    rfl
theorem stc_bh {w w' : Nat → Int32} (hw : WI w) (h : stc w w') {s : Nat} (hs : s < 16) : bh w' s = bh w s :=
  bset_c 16 fun m _ => by rw [stc_far hw h hs]
theorem stc_bha {w w' : Nat → Int32} (hw : WI w) (h : stc w w') {f a : Nat} (hf : f < 16) (ha : a < am w f) : bha w' f a = bha w f a := by
  have h1 := am_le hw hf
  have h2 := tg_lt hw hf ha
  have h3 := wi_n hw
  unfold bha
  rw [stc_tg h hf (by omega), stc_bh hw h (by omega)]
theorem stc_bhn {w w' : Nat → Int32} (hw : WI w) (h : stc w w') {f : Nat} (hf : f < 16) : ∀ n, n ≤ am w f → bhn w' f n = bhn w f n
  | 0, _ => rfl
  | n + 1, hn => by
    unfold bhn
    rw [stc_bhn hw h hf n (by omega), stc_bha hw h hf (by omega)]
theorem stc_tw2 {w w' : Nat → Int32} (hw : WI w) (h : stc w w') {f : Nat} (hf : f < 16) : ∀ n, n ≤ am w f → tw2 w' f n = tw2 w f n
  | 0, _ => rfl
  | n + 1, hn => by
    unfold tw2
    rw [stc_tw2 hw h hf n (by omega), stc_bha hw h hf (by omega), stc_bhn hw h hf n (by omega)]
theorem stc_tws {w w' : Nat → Int32} (h : stc w w') {n : Nat} (hn : n ≤ 16) : tws w' n = tws w n :=
  bset_c n fun a ha => by
    rw [stc_nn h, stc_fd h (by omega) (by decide)]
theorem stc_twc {w w' : Nat → Int32} (hw : WI w) (h : stc w w') {f : Nat} (hf : f < 16) : twc w' f = twc w f := by
  have := wi_n hw
  unfold twc
  rw [stc_am h hf, stc_tw2 hw h hf _ (Nat.le_refl _), stc_nn h, stc_tws h (by omega)]
/-- all that votes are asked is as it was -/
def agv (w w' : Nat → Int32) : Prop := stc w w' ∧ w' 1 = w 1 ∧ ∀ n f, n < 16 → 5 ≤ f → f < 14 → f ≠ 7 → f ≠ 8 → f ≠ 9 → w' (10 + 20 * n + f) = w (10 + 20 * n + f)
theorem agv_fd {w w' : Nat → Int32} (h : agv w w') {n f : Nat} (hn : n < 16) (h5 : 5 ≤ f) (hf : f < 14) (h7 : f ≠ 7) (h8 : f ≠ 8) (h9 : f ≠ 9) : fd w' n f = fd w n f := fd_c (h.2.2 n f hn h5 hf h7 h8 h9)
theorem vt_c {V : LW} {w w' : Nat → Int32} (hw : WI w) (h : agv w w') {t f a : Nat} (ht : t < 16) (hf : f < 16) (ha : a < am w f) : vt V w' t f a = vt V w t f a := by
  have h1 := am_le hw hf
  have h2 := tg_lt hw hf ha
  have h3 := wi_n hw
  have e : FV w' t f a = FV w t f a := by
    funext s
    unfold FV
    rw [h.2.2 t 10 ht (by decide) (by decide) (by decide) (by decide) (by decide), h.2.2 t 11 ht (by decide) (by decide) (by decide) (by decide) (by decide), h.2.2 t 12 ht (by decide) (by decide) (by decide) (by decide) (by decide), h.2.2 t 13 ht (by decide) (by decide) (by decide) (by decide) (by decide), h.2.1, stc_tg h.1 hf (by omega), stc_far hw h.1 (by omega), agv_fd h hf (f := 5) (by decide) (by decide) (by decide) (by decide) (by decide), agv_fd h hf (f := 6) (by decide) (by decide) (by decide) (by decide) (by decide), stc_twc hw h.1 hf]
  unfold vt
  rw [stc_bha hw h.1 hf ha, e, agv_fd h ht (f := 10) (by decide) (by decide) (by decide) (by decide) (by decide)]
theorem vsum_c {V : LW} {w w' : Nat → Int32} (hw : WI w) (h : agv w w') {f a : Nat} (hf : f < 16) (ha : a < am w f) : ∀ n, n ≤ 16 → vsum V w' f a n = vsum V w f a n
  | 0, _ => rfl
  | n + 1, hn => by
    unfold vsum
    rw [vsum_c hw h hf ha n (by omega), vt_c hw h (by omega) hf ha, stc_fd h.1 (by omega) (by decide)]
theorem vfor_c {V : LW} {w w' : Nat → Int32} (hw : WI w) (h : agv w w') {f a : Nat} (hf : f < 16) (ha : a < am w f) : vfor V w' f a = vfor V w f a := by
  have := wi_n hw
  unfold vfor
  rw [stc_nn h.1, vsum_c hw h hf ha _ (by omega)]
/-- votes and what is bought -/
def tot (V : LW) (w : Nat → Int32) (f a : Nat) : Nat := vfor V w f a + fd w f (7 + a)
theorem wi_b {w : Nat → Int32} (h : WI w) {n a : Nat} (hn : n < 16) (ha : a < 3) : w (10 + 20 * n + (7 + a)) = nI (fd w n (7 + a)) ∧ fd w n (7 + a) ≤ 999 := by
  have hx := wi_x h hn
  match a, ha with
  | 0, _ => exact hx.2.2.1
  | 1, _ => exact hx.2.2.2.1
  | 2, _ => exact hx.2.2.2.2
theorem tot_l {V : LW} {w : Nat → Int32} (h : WI w) {f a : Nat} (hf : f < 16) (ha : a < 3) : tot V w f a ≤ 6000999 := by
  have h1 := wi_n h
  have h2 := vsum_b h (V := V) (f := f) (a := a) (n := nn w) (by omega)
  have h3 := (wi_b h hf ha).2
  unfold tot vfor
  omega
/-- the most of n, and which have it -/
def mxT (t : Nat → Nat) : Nat → Nat
  | 0 => 0
  | n + 1 => if t n < mxT t n then mxT t n else t n
def winS (t : Nat → Nat) (n : Nat) : Nat := bset (fun a => decide (t a = mxT t n)) n
theorem mxT_le {t : Nat → Nat} : ∀ {n a : Nat}, a < n → t a ≤ mxT t n
  | n + 1, a, h => by
    unfold mxT
    by_cases e : a = n
    · rw [e]
      split <;> omega
    · have := mxT_le (t := t) (n := n) (a := a) (by omega)
      split <;> omega
theorem mxT_b {t : Nat → Nat} {m : Nat} : ∀ n, (∀ a, a < n → t a ≤ m) → mxT t n ≤ m
  | 0, _ => Nat.zero_le _
  | n + 1, h => by
    have h1 := mxT_b n fun a ha => h a (by omega)
    have h2 := h n (by omega)
    unfold mxT
    split <;> omega
theorem mxT_c {t t' : Nat → Nat} : ∀ n, (∀ a, a < n → t' a = t a) → mxT t' n = mxT t n
  | 0, _ => rfl
  | n + 1, h => by
    unfold mxT
    rw [mxT_c n fun a ha => h a (by omega), h n (by omega)]
theorem mxT_ex {t : Nat → Nat} : ∀ n, mxT t n = 0 ∨ ∃ a, a < n ∧ t a = mxT t n
  | 0 => Or.inl rfl
  | n + 1 => by
    unfold mxT
    split
    · rcases mxT_ex (t := t) n with h | ⟨a, h, e⟩
      · exact Or.inl h
      · exact Or.inr ⟨a, by omega, e⟩
    · exact Or.inr ⟨n, by omega, rfl⟩
theorem winS_s {t : Nat → Nat} {n : Nat} : winS t (n + 1) = (if mxT t n < t n then 0 else winS t n) ||| (if t n = mxT t (n + 1) then 2 ^ n else 0) := by
  show bset (fun a => decide (t a = mxT t (n + 1))) n ||| (if decide (t n = mxT t (n + 1)) = true then 2 ^ n else 0) = _
  have e : bset (fun a => decide (t a = mxT t (n + 1))) n = if mxT t n < t n then 0 else winS t n := by
    have e1 : mxT t (n + 1) = if t n < mxT t n then mxT t n else t n := rfl
    split
    next h =>
      refine bset_f n fun a ha => ?_
      have := mxT_le (t := t) ha
      rw [e1, if_neg (by omega), decide_eq_false_iff_not]
      omega
    next h =>
      have e2 : mxT t (n + 1) = mxT t n := by
        rw [e1]
        split <;> omega
      rw [e2]
      rfl
  rw [e]
  simp only [decide_eq_true_eq]
theorem winS_lt (t : Nat → Nat) (n : Nat) : winS t n < 2 ^ n := bset_lt n
theorem winS_1 {t : Nat → Nat} {n : Nat} (h : mxT t n ≠ 0) : 1 ≤ winS t n := by
  rcases mxT_ex (t := t) n with e | ⟨a, ha, e⟩
  · exact absurd e h
  · have hb : (winS t n).testBit a = true := by
      unfold winS
      rw [bset_t, decide_eq_true ha, decide_eq_true e]
      rfl
    refine Nat.pos_of_ne_zero fun h0 => ?_
    rw [h0, Nat.zero_testBit] at hb
    cases hb
/-- the most votes at a fork; which arms have them (none, if nobody votes) -/
def mst (V : LW) (w : Nat → Int32) (f : Nat) : Nat := mxT (tot V w f) (am w f)
def wset (V : LW) (w : Nat → Int32) (f : Nat) : Nat := if mst V w f = 0 then 0 else winS (tot V w f) (am w f)
theorem wset_0 {V : LW} {w : Nat → Int32} {f : Nat} : wset V w f = 0 ↔ mst V w f = 0 := by
  unfold wset
  constructor
  · intro h
    split at h
    next e => exact e
    next e =>
      have := winS_1 e
      omega
  · intro h
    rw [if_pos h]
theorem wset_lt (V : LW) (w : Nat → Int32) (f : Nat) : wset V w f < 2 ^ am w f := by
  unfold wset
  split
  · exact Nat.two_pow_pos _
  · exact winS_lt _ _
/-- one arm alone -/
def one (s : Nat) : Bool := decide (s &&& (s - 1) = 0)
def flq (V : LW) (w : Nat → Int32) (f : Nat) : Bool := decide (wset V w f ≠ 0) && !one (wset V w f)
/-- for which arms a town votes -/
def vtd (V : LW) (w : Nat → Int32) (f t : Nat) : Nat := bset (fun a => decide (0 < vt V w t f a)) (am w f)
def dfq (V : LW) (w : Nat → Int32) (f s t : Nat) : Bool := decide (f < t ∧ fd w t 0 = 1) && (decide (vtd V w f t ≠ 0) && decide (vtd V w f t &&& s = 0))
def df1 (r : Nat → Int32) (t : Nat) : Nat → Int32 :=
  if fd r t 14 + 1 < 10 then pu r (10 + 20 * t + 14) (nI (fd r t 14 + 1)) else pu (pu r (10 + 20 * t + 14) (nI 0)) (10 + 20 * t + 15) (nI (if 9 < fd r t 15 + 1 then 9 else fd r t 15 + 1))
/-- defeats of the towns below n, when s is open -/
def dfR (V : LW) (w : Nat → Int32) (f s : Nat) : Nat → Nat → Int32
  | 0 => w
  | t + 1 => if dfq V w f s t = true then df1 (dfR V w f s t) t else dfR V w f s t
def bk1 (r : Nat → Int32) (f m : Nat) : Nat → Int32 :=
  pu (pu (pu (pu (pu r (600 + 4 * vN r 2) (r 1)) (600 + 4 * vN r 2 + 1) (nI f)) (600 + 4 * vN r 2 + 2) (r (10 + 20 * f + 5))) (600 + 4 * vN r 2 + 3) (nI m)) 2 (nI (vN r 2 + 1))
/-- the book's line -/
def bkR (r : Nat → Int32) (f m : Nat) : Nat → Int32 := if vN r 2 = 150 then r else bk1 r f m
def wonN (V : LW) (w : Nat → Int32) (f : Nat) : Nat := if flq V w f = true then 0 else if wset V w f = fd w f 5 then (if 99 < fd w f 6 + 1 then 99 else fd w f 6 + 1) else 1
def opR (V : LW) (w : Nat → Int32) (f : Nat) : Nat → Int32 :=
  if wset V w f = 0 then w else pu (pu (dfR V w f (wset V w f) (nn w)) (10 + 20 * f + 5) (nI (wset V w f))) (10 + 20 * f + 6) (nI (wonN V w f))
def bz (r : Nat → Int32) (f : Nat) : Nat → Nat → Int32
  | 0 => r
  | n + 1 => pu (bz r f n) (10 + 20 * f + (7 + n)) (nI 0)
/-- the row behind an evening at f -/
def evR (V : LW) (w : Nat → Int32) (f : Nat) : Nat → Int32 := bkR (bz (opR V w f) f 3) f (mst V w f)
theorem df1_o {r : Nat → Int32} {t k : Nat} (h : k ≠ 10 + 20 * t + 14) (h' : k ≠ 10 + 20 * t + 15) : df1 r t k = r k := by
  unfold df1
  split
  · exact pu_n h
  · rw [pu_n h', pu_n h]
theorem dfR_o {V : LW} {w : Nat → Int32} {f s k : Nat} : ∀ n, (∀ t, t < n → k ≠ 10 + 20 * t + 14 ∧ k ≠ 10 + 20 * t + 15) → dfR V w f s n k = w k
  | 0, _ => rfl
  | n + 1, h => by
    have h1 := dfR_o (V := V) (w := w) (f := f) (s := s) n fun t ht => h t (by omega)
    unfold dfR
    split
    · rw [df1_o (h n (by omega)).1 (h n (by omega)).2, h1]
    · exact h1
theorem dfR_f {V : LW} {w : Nat → Int32} {f s n m f' : Nat} (hf : f' < 14 ∨ f' = 16 ∨ f' = 17) : dfR V w f s n (10 + 20 * m + f') = w (10 + 20 * m + f') := dfR_o n fun t ht => by omega
theorem dfR_n {V : LW} {w : Nat → Int32} {f s n m f' : Nat} (hm : n ≤ m) (hf : f' < 20) : dfR V w f s n (10 + 20 * m + f') = w (10 + 20 * m + f') := dfR_o n fun t ht => by omega
theorem df1_wi {r : Nat → Int32} (h : WI r) {t : Nat} (ht : t < nn r) (h0 : fd r t 0 = 1) : WI (df1 r t) := by
  have hN := wi_n h
  have hy := wi_y h (n := t) (by omega)
  have l16 := hy.2.2.2.2.2.2.1.2
  have l14 := hy.2.2.2.2.1.2
  have l15 := hy.2.2.2.2.2.1.2
  unfold df1
  split
  · exact WI_t h ht h0 (by omega) (by omega)
  · have w1 := WI_t h (n := t) (f := 14) (v := 0) ht h0 (by omega) (by omega)
    refine WI_t w1 (by rw [nn_pu (by omega)]; exact ht) (by rw [fd_pu_n (by omega)]; exact h0) ?_ (by omega)
    rw [fd_pu_n (by omega)]
    split <;> omega
theorem dfR_wi {V : LW} {w : Nat → Int32} (h : WI w) {f s : Nat} : ∀ n, n ≤ nn w → WI (dfR V w f s n)
  | 0, _ => h
  | n + 1, hn => by
    have h1 := dfR_wi h (V := V) (f := f) (s := s) n (by omega)
    unfold dfR
    split
    next e =>
      unfold dfq at e
      rw [Bool.and_eq_true, decide_eq_true_eq] at e
      have hN := wi_n h
      refine df1_wi h1 ?_ ?_
      · rw [nn_c (dfR_o n fun t ht => by omega)]
        omega
      · rw [fd_c (dfR_f (by omega))]
        exact e.1.2
    next => exact h1
theorem dfR_agv {V : LW} {w : Nat → Int32} {f s n : Nat} : agv w (dfR V w f s n) :=
  ⟨⟨dfR_o n fun t ht => by omega, fun m f' _ hf => dfR_f (by omega)⟩, dfR_o n fun t ht => by omega, fun m f' _ _ hf _ _ _ => dfR_f (by omega)⟩
theorem opR_wi {V : LW} {w : Nat → Int32} (h : WI w) {f : Nat} (hf : f < nn w) (h0 : fd w f 0 = 0) : WI (opR V w f) := by
  have hN := wi_n h
  have h1 := dfR_wi h (V := V) (f := f) (s := wset V w f) (nn w) (Nat.le_refl _)
  have h6 := (wi_x h (n := f) (by omega)).2.1.2
  have e0 : nn (dfR V w f (wset V w f) (nn w)) = nn w := nn_c (dfR_o _ fun t ht => by omega)
  unfold opR
  split
  · exact h
  next e =>
    refine WI_6 (WI_5 h1 (by rw [e0]; exact hf) (by rw [fd_c (dfR_f (by omega))]; exact h0) (by omega) ?_) (by omega) (Or.inl ⟨rfl, ?_⟩)
    · unfold am
      rw [fd_c (dfR_f (by omega))]
      exact wset_lt V w f
    · unfold wonN
      repeat' split
      all_goals omega
theorem bz_wi {r : Nat → Int32} (h : WI r) {f : Nat} (hf : f < 16) : ∀ n, n ≤ 3 → WI (bz r f n)
  | 0, _ => h
  | n + 1, hn => WI_6 (bz_wi h hf n (by omega)) hf (Or.inr ⟨by omega, Nat.zero_le _⟩)
theorem bz_o {r : Nat → Int32} {f k : Nat} : ∀ n, (∀ a, a < n → k ≠ 10 + 20 * f + (7 + a)) → bz r f n k = r k
  | 0, _ => rfl
  | n + 1, h => by
    unfold bz
    rw [pu_n (h n (by omega))]
    exact bz_o n fun a ha => h a (by omega)
theorem wi_2 {w : Nat → Int32} (h : WI w) : w 2 = nI (vN w 2) ∧ vN w 2 ≤ 150 := h.2.1
theorem WI_2 {w : Nat → Int32} (h : WI w) {v : Nat} (hv : v ≤ 150) : WI (pu w 2 (nI v)) := by
  obtain ⟨⟨h0, h1⟩, h2, ⟨h6, h7, h8, h9⟩, hN, hS⟩ := h
  have e0 : nn (pu w 2 (nI v)) = nn w := nn_pu (by decide)
  have ev : vN (pu w 2 (nI v)) 2 = v := by
    unfold vN
    rw [pu_s, ix_nI (by omega)]
  refine ⟨⟨rg_c (pu_n (by decide)) h0, by rw [e0]; exact h1⟩, ⟨by rw [ev, pu_s], by rw [ev]; exact hv⟩, ⟨rg_c (pu_n (by decide)) h6, rg_c (pu_n (by decide)) h7, rg_c (pu_n (by decide)) h8, rg_c (pu_n (by decide)) h9⟩, fun m hm => NI_c (hN m hm) e0 h0.2 fun f' hf' => pu_n (by omega), ?_⟩
  rw [sumH_c 16 fun t ht => fd_pu_n (by omega)]
  exact hS
theorem bkR_wi {r : Nat → Int32} (h : WI r) {f m : Nat} : WI (bkR r f m) := by
  have h2 := wi_2 h
  unfold bkR
  split
  · exact h
  · exact WI_2 (WI_pu_o (WI_pu_o (WI_pu_o (WI_pu_o h (by omega)) (by omega)) (by omega)) (by omega)) (by omega)
theorem evR_wi {V : LW} {w : Nat → Int32} (h : WI w) {f : Nat} (hf : f < nn w) (h0 : fd w f 0 = 0) : WI (evR V w f) := by
  have := wi_n h
  exact bkR_wi (bz_wi (opR_wi h hf h0) (by omega) 3 (Nat.le_refl _))
