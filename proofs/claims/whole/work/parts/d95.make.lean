/-! the constructors: made by wip/whole/tools/pd95b.py -/
def PQ : List (Nat × Nat) := [(2, 1), (2, 2), (2, 3), (2, 4), (1, 0), (7, 5), (9, 0), (9, 1), (9, 2), (9, 3), (9, 4), (9, 5), (9, 6), (9, 7), (7, 6), (7, 7), (7, 8), (7, 9), (7, 10), (1, 1), (22, 2), (22, 3), (22, 4), (1, 2), (26, 2), (26, 3), (26, 4), (1, 3), (1, 4), (0, 0), (32, 1), (32, 2), (32, 3), (32, 4), (31, 0), (37, 5), (39, 0), (39, 1), (39, 2), (39, 3), (39, 4), (39, 5), (39, 6), (39, 7), (37, 6), (37, 7), (37, 8), (37, 9), (37, 10), (31, 1), (52, 2), (52, 3), (52, 4), (31, 2), (56, 2), (56, 3), (56, 4), (31, 3), (31, 4), (0, 1), (62, 1), (62, 2), (62, 3), (62, 4), (61, 0), (67, 5), (69, 0), (69, 1), (69, 2), (69, 3), (69, 4), (69, 5), (69, 6), (69, 7), (67, 6), (67, 7), (67, 8), (67, 9), (67, 10), (61, 1), (82, 2), (82, 3), (82, 4), (61, 2), (86, 2), (86, 3), (86, 4), (61, 3), (61, 4), (0, 2), (91, 0), (93, 5), (95, 0), (95, 1), (95, 2), (95, 3), (95, 4), (95, 5), (95, 6), (95, 7), (93, 6), (93, 7), (93, 8), (93, 9), (93, 10), (92, 0), (108, 5), (110, 0), (110, 1), (110, 2), (110, 3), (110, 4), (110, 5), (110, 6), (110, 7), (108, 6), (108, 7), (108, 8), (108, 9), (108, 10), (92, 1), (123, 5), (125, 0), (125, 1), (125, 2), (125, 3), (125, 4), (125, 5), (125, 6), (125, 7), (123, 6), (123, 7), (123, 8), (123, 9), (123, 10), (92, 2), (138, 5), (140, 0), (140, 1), (140, 2), (140, 3), (140, 4), (140, 5), (140, 6), (140, 7), (138, 6), (138, 7), (138, 8), (138, 9), (138, 10), (92, 3), (153, 5), (155, 0), (155, 1), (155, 2), (155, 3), (155, 4), (155, 5), (155, 6), (155, 7), (153, 6), (153, 7), (153, 8), (153, 9), (153, 10), (92, 4), (0, 3), (168, 0), (168, 6), (168, 7), (168, 8), (0, 4), (173, 0), (0, 5), (175, 0), (175, 1), (175, 2), (174, 0), (174, 1), (174, 2), (174, 3), (0, 6), (182, 2), (182, 0), (182, 1), (0, 7), (185, 0), (185, 1), (185, 2), (184, 2), (184, 3), (184, 4), (184, 5), (184, 6), (184, 9), (184, 10), (184, 11), (184, 0), (184, 1), (0, 8), (196, 0), (196, 1), (196, 2), (196, 3), (196, 6), (196, 7), (196, 8), (196, 9), (196, 10), (196, 11), (196, 27), (196, 28), (196, 29), (196, 31), (196, 32), (196, 33), (196, 34), (196, 35), (196, 36), (196, 38), (196, 42), (196, 43), (196, 44)]
def tqL : List (List Nat) := [[29, 59, 89, 166, 171, 173, 181, 185, 199], [4, 19, 23, 27, 28], [999, 0, 1, 2, 3], [], [], [], [], [999, 999, 999, 999, 999, 5, 14, 15, 16, 17, 18], [], [6, 7, 8, 9, 10, 11, 12, 13], [], [], [], [], [], [], [], [], [], [], [], [], [999, 999, 20, 21, 22], [], [], [], [999, 999, 24, 25, 26], [], [], [], [], [34, 49, 53, 57, 58], [999, 30, 31, 32, 33], [], [], [], [], [999, 999, 999, 999, 999, 35, 44, 45, 46, 47, 48], [], [36, 37, 38, 39, 40, 41, 42, 43], [], [], [], [], [], [], [], [], [], [], [], [], [999, 999, 50, 51, 52], [], [], [], [999, 999, 54, 55, 56], [], [], [], [], [64, 79, 83, 87, 88], [999, 60, 61, 62, 63], [], [], [], [], [999, 999, 999, 999, 999, 65, 74, 75, 76, 77, 78], [], [66, 67, 68, 69, 70, 71, 72, 73], [], [], [], [], [], [], [], [], [], [], [], [], [999, 999, 80, 81, 82], [], [], [], [999, 999, 84, 85, 86], [], [], [], [], [90], [105, 120, 135, 150, 165], [999, 999, 999, 999, 999, 91, 100, 101, 102, 103, 104], [], [92, 93, 94, 95, 96, 97, 98, 99], [], [], [], [], [], [], [], [], [], [], [], [], [999, 999, 999, 999, 999, 106, 115, 116, 117, 118, 119], [], [107, 108, 109, 110, 111, 112, 113, 114], [], [], [], [], [], [], [], [], [], [], [], [], [999, 999, 999, 999, 999, 121, 130, 131, 132, 133, 134], [], [122, 123, 124, 125, 126, 127, 128, 129], [], [], [], [], [], [], [], [], [], [], [], [], [999, 999, 999, 999, 999, 136, 145, 146, 147, 148, 149], [], [137, 138, 139, 140, 141, 142, 143, 144], [], [], [], [], [], [], [], [], [], [], [], [], [999, 999, 999, 999, 999, 151, 160, 161, 162, 163, 164], [], [152, 153, 154, 155, 156, 157, 158, 159], [], [], [], [], [], [], [], [], [], [], [], [], [167, 999, 999, 999, 999, 999, 168, 169, 170], [], [], [], [], [172], [177, 178, 179, 180], [174, 175, 176], [], [], [], [], [], [], [183, 184, 182], [], [197, 198, 189, 190, 191, 192, 193, 999, 999, 194, 195, 196], [186, 187, 188], [], [], [], [], [], [], [], [], [], [], [200, 201, 202, 203, 999, 999, 204, 205, 206, 207, 208, 209, 999, 999, 999, 999, 999, 999, 999, 999, 999, 999, 999, 999, 999, 999, 999, 210, 211, 212, 999, 213, 214, 215, 216, 217, 218, 999, 219, 999, 999, 999, 220, 221, 222], [], [], [], [], [], [], [], [], [], [], [], [], [], [], [], [], [], [], [], [], [], [], []]
def tauQ (a k : Nat) : Nat := (tqL.getD a []).getD k 999
theorem tq_ck : ((List.range 220).all fun a => (List.range (tqL.getD a []).length).all fun k => decide (tauQ a k < 223 → PQ.getD (tauQ a k) (0, 0) = (a, k))) = true := by decide +kernel
theorem tq_len : tqL.length = 220 := by decide +kernel
theorem gD_o {α : Type} {l : List α} {n : Nat} {d : α} (h : l.length ≤ n) : l.getD n d = d := by
  rw [List.getD_eq_getElem?_getD, List.getElem?_eq_none h]
  rfl
theorem tauQ_h {a k : Nat} (h : tauQ a k < 223) : a < 220 ∧ k < (tqL.getD a []).length := by
  unfold tauQ at h
  by_cases ha : a < 220
  · refine ⟨ha, Classical.byContradiction fun hk => ?_⟩
    rw [gD_o (Nat.le_of_not_lt hk)] at h
    omega
  · have : tqL.getD a [] = [] := gD_o (by rw [tq_len]; omega)
    rw [this] at h
    have h : (999 : Nat) < 223 := h
    omega
theorem tauQ_p {a k : Nat} (h : tauQ a k < 223) : PQ.getD (tauQ a k) (0, 0) = (a, k) := by
  obtain ⟨h1, h2⟩ := tauQ_h h
  exact of_decide_eq_true (List.all_eq_true.mp (List.all_eq_true.mp tq_ck a (List.mem_range.mpr h1)) k (List.mem_range.mpr h2)) h
theorem tauQ_u {a k b j : Nat} (h : tauQ a k < 223) (e : tauQ b j = tauQ a k) : b = a ∧ j = k := by
  have h1 := tauQ_p h
  have h2 := tauQ_p (a := b) (k := j) (by rw [e]; exact h)
  rw [e, h1] at h2
  cases h2
  exact ⟨rfl, rfl⟩
/-- the references that stand when m of them are set -/
def RQ (m a k : Nat) : Option Nat := if tauQ a k < m then R0 a k else none
def EC (N m : Nat) (g : Nat → Nat → Int32) (q : Nat → Nat → Int64) : Hp := ((N, g), (q, RQ m))
theorem r0_ck : ((List.range R0L.length).all fun a => (List.range (R0L.getD a []).length).all fun k => decide (tauQ a k < 223 ∨ R0 a k = none)) = true := by decide +kernel
theorem r0_o (a k : Nat) : tauQ a k < 223 ∨ R0 a k = none := by
  by_cases ha : a < R0L.length
  · by_cases hk : k < (R0L.getD a []).length
    · exact of_decide_eq_true (List.all_eq_true.mp (List.all_eq_true.mp r0_ck a (List.mem_range.mpr ha)) k (List.mem_range.mpr hk))
    · exact Or.inr (gD_o (Nat.le_of_not_lt hk))
  · refine Or.inr ?_
    unfold R0
    rw [gD_o (l := R0L) (Nat.le_of_not_lt ha)]
    rfl
theorem EC_E {g : Nat → Nat → Int32} {q : Nat → Nat → Int64} : EC 220 223 g q = E g q := by
  have : RQ 223 = R0 := by
    funext a k
    unfold RQ
    rcases r0_o a k with h | h
    · rw [if_pos h]
    · rw [h]
      split <;> rfl
  unfold EC E
  rw [this]
  rfl
theorem RQ_s {m a k b : Nat} (h : tauQ a k = m) (hm : m < 223) (hr : R0 a k = some b) : up2 (RQ m) a k (some b) = RQ (m + 1) := by
  funext c j
  unfold up2 RQ
  by_cases e : c = a ∧ j = k
  · rw [if_pos e, e.1, e.2, if_pos (by omega), hr]
  · rw [if_neg e]
    have hne : tauQ c j ≠ m := fun e2 => e (tauQ_u (by omega) (e2.trans h.symm))
    by_cases e3 : tauQ c j < m
    · rw [if_pos e3, if_pos (by omega)]
    · rw [if_neg e3, if_neg (by omega)]
section EC
variable {C : CT} {P : QT} {y : Nat} {K : KT} {Kn : Lo → Sk → Hp → Prop} {L : Lo} {S : Sk} {N m a b f k n c d : Nat} {g : Nat → Nat → Int32} {q : Nat → Nat → Int64} {x : Int32}
def okP (N m a f b c : Nat) : Bool := decide (kd a = (4, f / 100)) && decide (a < N) && decide (f % 100 < fn (f / 100)) && decide ((ftab (f / 100) (f % 100)).2.2.2 = true) && decide (fy (f / 100) (f % 100) = 2) && decide (b < N) && decide (c = f / 100) && decide (tauQ a (f % 100) = m) && decide (m < 223) && decide (R0 a (f % 100) = some b)
theorem ce_putR (hy : mK y = 2 ∧ mC y = c) (h : okP N m a f b c = true) : sfd y (EC N m g q) a f (.ref b) = some (EC N (m + 1) g q) := by
  unfold okP at h
  simp only [Bool.and_eq_true, decide_eq_true_eq] at h
  obtain ⟨⟨⟨⟨⟨⟨⟨⟨⟨h1, h2⟩, h3⟩, h4⟩, h5⟩, h6⟩, h7⟩, h8⟩, h9⟩, h10⟩ := h
  show (if kd a = (4, f / 100) ∧ a < nxt (EC N m g q) ∧ f % 100 < fn (f / 100) ∧ (ftab (f / 100) (f % 100)).2.2.2 = true ∧ fy (f / 100) (f % 100) = 2 ∧ b < nxt (EC N m g q) ∧ mK y = 2 ∧ mC y = f / 100 then some (sr (EC N m g q) a (f % 100) (some b)) else none) = _
  rw [if_pos ⟨h1, h2, h3, h4, h5, h6, hy.1, hy.2.trans h7⟩]
  show some ((N, g), (q, up2 (RQ m) a (f % 100) (some b))) = _
  rw [RQ_s h8 h9 h10]
  rfl
def okI (N a f : Nat) (x : Int32) : Bool := decide (kd a = (4, f / 100)) && decide (a < N) && decide (f % 100 < fn (f / 100)) && decide ((ftab (f / 100) (f % 100)).2.2.2 = false) && decide (fy (f / 100) (f % 100) = 0 ∨ (fy (f / 100) (f % 100) = 1 ∧ (x = 0 ∨ x = 1)))
theorem ce_putI (h : okI N a f x = true) : sfd y (EC N m g q) a f (.int x) = some (EC N m (up2 g a (f % 100) x) q) := by
  unfold okI at h
  simp only [Bool.and_eq_true, decide_eq_true_eq] at h
  obtain ⟨⟨⟨⟨h1, h2⟩, h3⟩, h4⟩, h5⟩ := h
  exact if_pos ⟨h1, h2, h3, h4, h5⟩
def okG (N m a f b : Nat) : Bool := decide (f < 9000) && decide (kd a = (4, f / 100)) && decide (a < N) && decide (f % 100 < fn (f / 100)) && decide (fy (f / 100) (f % 100) = 2) && decide (tauQ a (f % 100) < m) && decide (R0 a (f % 100) = some b)
theorem ce_getR (b : Nat) (h : okG N m a f b = true) : fld (EC N m g q) a f = some (.ref b) := by
  unfold okG at h
  simp only [Bool.and_eq_true, decide_eq_true_eq] at h
  obtain ⟨⟨⟨⟨⟨⟨h0, h1⟩, h2⟩, h3⟩, h4⟩, h5⟩, h6⟩ := h
  unfold fld
  rw [if_neg (by omega), if_neg (by omega), if_pos ⟨h1, h2, h3⟩, if_pos h4]
  show (RQ m a (f % 100)).map Value.ref = _
  unfold RQ
  rw [if_pos h5, h6]
  rfl
def okJ (N a f : Nat) : Bool := decide (f < 9000) && decide (kd a = (4, f / 100)) && decide (a < N) && decide (f % 100 < fn (f / 100)) && decide (fy (f / 100) (f % 100) ≠ 2)
theorem ce_getI (h : okJ N a f = true) : fld (EC N m g q) a f = some (.int (g a (f % 100))) := by
  unfold okJ at h
  simp only [Bool.and_eq_true, decide_eq_true_eq] at h
  obtain ⟨⟨⟨⟨h0, h1⟩, h2⟩, h3⟩, h4⟩ := h
  unfold fld
  rw [if_neg (by omega), if_neg (by omega), if_pos ⟨h1, h2, h3⟩, if_neg h4]
  rfl
theorem ce_new (h : (decide (kd N = (4, c)) && decide (N < 220)) = true) : ex1 C P y K Kn (.new c) L S (EC N m g q) = Kn L (.ref N :: S) (EC (N + 1) m g q) := by
  simp only [Bool.and_eq_true, decide_eq_true_eq] at h
  rw [ex1_def rfl]
  show ob (if kd (nxt (EC N m g q)) = (4, c) ∧ nxt (EC N m g q) < NN then some (L, .ref (nxt (EC N m g q)) :: S, sn (EC N m g q) (nxt (EC N m g q) + 1)) else none) _ = _
  rw [if_pos (show kd (nxt (EC N m g q)) = (4, c) ∧ nxt (EC N m g q) < NN from h)]
  rfl
theorem ce_na {t : Nat} (h : (decide (kd N = (t, n)) && decide (N < 220) && decide (n < 2147483648)) = true) : newA t L (.int (nI n) :: S) (EC N m g q) = some (L, .ref N :: S, EC (N + 1) m g q) := by
  simp only [Bool.and_eq_true, decide_eq_true_eq] at h
  obtain ⟨⟨h1, h2⟩, h3⟩ := h
  have hz : ¬ nI n < 0 := by
    rw [nI_n0, nI_ltE h3 (by decide)]
    omega
  unfold newA
  show (if ¬ nI n < 0 ∧ kd N = (t, (nI n).toNatClampNeg) ∧ N < NN then some (L, Value.ref N :: S, sn (EC N m g q) (N + 1)) else none) = _
  rw [nI_cl h3, if_pos ⟨hz, h1, h2⟩]
  rfl
theorem ce_arr (h : (decide (kd N = (0, n)) && decide (N < 220) && decide (n < 2147483648)) = true) : ex1 C P y K Kn (.newarray .int) L (.int (nI n) :: S) (EC N m g q) = Kn L (.ref N :: S) (EC (N + 1) m g q) := by
  rw [ex1_def rfl]
  show ob (newA 0 L (.int (nI n) :: S) (EC N m g q)) _ = _
  rw [ce_na h]
  rfl
theorem ce_arl (h : (decide (kd N = (1, n)) && decide (N < 220) && decide (n < 2147483648)) = true) : ex1 C P y K Kn (.newarray .long) L (.int (nI n) :: S) (EC N m g q) = Kn L (.ref N :: S) (EC (N + 1) m g q) := by
  rw [ex1_def rfl]
  show ob (newA 1 L (.int (nI n) :: S) (EC N m g q)) _ = _
  rw [ce_na h]
  rfl
theorem ce_ana (h : (decide (kd N = (2, n)) && decide (N < 220) && decide (n < 2147483648)) = true) : ex1 C P y K Kn (.anewarray 7) L (.int (nI n) :: S) (EC N m g q) = Kn L (.ref N :: S) (EC (N + 1) m g q) := by
  rw [ex1_def rfl]
  show ob (newA 2 L (.int (nI n) :: S) (EC N m g q)) _ = _
  rw [ce_na h]
  rfl
def okM_ (N m : Nat) : Bool := decide (kd N = (3, 8)) && ((List.range 8).all fun i => kd (N + 1 + i) == (0, 16)) && decide (N + 8 < 220) && decide (m + 8 ≤ 223) && ((List.range 8).all fun i => decide (tauQ N i = m + i) && decide (R0 N i = some (N + 1 + i))) && decide ((tqL.getD N []).length = 8)
theorem RQ_8 (h : okM_ N m = true) : upw (RQ m) N (fun i => if i < 8 then some (N + 1 + i) else none) = RQ (m + 8) := by
  unfold okM_ at h
  rw [Bool.and_eq_true, Bool.and_eq_true, Bool.and_eq_true, Bool.and_eq_true, Bool.and_eq_true] at h
  obtain ⟨⟨⟨⟨⟨h1, h2⟩, h3⟩, h4⟩, h5⟩, h6⟩ := h
  have h4 := of_decide_eq_true h4
  have h6 := of_decide_eq_true h6
  have h5 : ∀ i, i < 8 → tauQ N i = m + i ∧ R0 N i = some (N + 1 + i) := fun i hi => by
    have := List.all_eq_true.mp h5 i (List.mem_range.mpr hi)
    rw [Bool.and_eq_true] at this
    exact ⟨of_decide_eq_true this.1, of_decide_eq_true this.2⟩
  funext c j
  unfold upw
  by_cases e : c = N
  · rw [if_pos e, e]
    unfold RQ
    by_cases hj : j < 8
    · rw [if_pos hj, if_pos (by rw [(h5 j hj).1]; omega), (h5 j hj).2]
    · have : tauQ N j = 999 := by
        unfold tauQ
        exact gD_o (by omega)
      rw [if_neg hj, if_neg (by omega)]
  · rw [if_neg e]
    unfold RQ
    have hne : ∀ i, i < 8 → tauQ c j ≠ m + i := fun i hi e2 => e (tauQ_u (a := N) (k := i) (by rw [(h5 i hi).1]; omega) (e2.trans (h5 i hi).1.symm)).1
    by_cases e3 : tauQ c j < m
    · rw [if_pos e3, if_pos (by omega)]
    · rw [if_neg e3, if_neg fun h => hne (tauQ c j - m) (by omega) (by omega)]
theorem ce_mul {u : Nat} (h : okM_ N m = true) : ex1 C P y K Kn (.multianewarray u 2) L (.int (nI 16) :: .int (nI 8) :: S) (EC N m g q) = Kn L (.ref N :: S) (EC (N + 9) (m + 8) g q) := by
  have hr := RQ_8 h
  unfold okM_ at h
  rw [Bool.and_eq_true, Bool.and_eq_true, Bool.and_eq_true, Bool.and_eq_true, Bool.and_eq_true] at h
  obtain ⟨⟨⟨⟨⟨h1, h2⟩, h3⟩, h4⟩, h5⟩, h6⟩ := h
  rw [ex1_def rfl]
  show ob (newM L (.int (nI 16) :: .int (nI 8) :: S) (EC N m g q)) _ = _
  unfold newM
  show ob (if nI 16 = 16 ∧ nI 8 = 8 ∧ kd N = (3, 8) ∧ ((List.range 8).all fun i => kd (N + 1 + i) == (0, 16)) = true ∧ N + 8 < NN then some (L, Value.ref N :: S, sn (swr (EC N m g q) N (fun i => if i < 8 then some (N + 1 + i) else none)) (N + 9)) else none) _ = _
  rw [if_pos ⟨rfl, rfl, of_decide_eq_true h1, h2, of_decide_eq_true h3⟩]
  show Kn L (.ref N :: S) ((N + 9, g), (q, upw (RQ m) N (fun i => if i < 8 then some (N + 1 + i) else none))) = _
  rw [hr]
  rfl
theorem ce_al {t : Nat} (hk : kd a = (t, n)) (ht : t < 4) (ha : a < N) : aln (EC N m g q) a = some n := by
  unfold aln
  rw [hk, if_pos ht]
  exact if_pos ha
theorem ce_inb {t : Nat} (hk : kd a = (t, n)) (ht : t < 4) (ha : a < N) (h : k < n) (hn : n < 2147483648) : inb (EC N m g q) a (nI k) = true := by
  unfold inb
  rw [ce_al hk ht ha]
  have := nI_toInt (n := k) (by omega)
  simp only [decide_eq_true_eq, this]
  omega
theorem ce_st (hk : kd a = (0, n)) (ha : a < N) (h : k < n) (hn : n < 2147483648) : ist (EC N m g q) a (nI k) x = some (EC N m (up2 g a k x) q) := by
  unfold ist
  rw [if_pos ⟨by rw [hk], ce_inb hk (by decide) ha h hn⟩, nI_cl (by omega)]
  rfl
theorem ce_ld (hk : kd a = (0, n)) (ha : a < N) (h : k < n) (hn : n < 2147483648) : ild (EC N m g q) a (nI k) = some (.int (g a k)) := by
  unfold ild
  rw [if_pos ⟨Or.inl (by rw [hk]), ce_inb hk (by decide) ha h hn⟩, nI_cl (by omega)]
  rfl
theorem ce_rl (hk : kd a = (3, n)) (ha : a < N) (h : k < n) (hn : n < 2147483648) (ht : tauQ a k < m) (hr : R0 a k = some b) : rld (EC N m g q) a (nI k) = some (.ref b) := by
  unfold rld
  rw [if_pos ⟨Or.inr (by rw [hk]), ce_inb hk (by decide) ha h hn⟩, nI_cl (by omega)]
  show (RQ m a k).map Value.ref = _
  unfold RQ
  rw [if_pos ht, hr]
  rfl
theorem ce_rs (hk : kd a = (2, n)) (ha : a < N) (h : k < n) (hn : n < 2147483648) (hb : kd b = (4, 7)) (hb2 : b < N) (ht : tauQ a k = m) (hm : m < 223) (hr : R0 a k = some b) : rst (EC N m g q) a (nI k) b = some (EC N (m + 1) g q) := by
  unfold rst
  rw [if_pos ⟨by rw [hk], ce_inb hk (by decide) ha h hn, hb, hb2⟩, nI_cl (by omega)]
  show some ((N, g), (q, up2 (RQ m) a k (some b))) = _
  rw [RQ_s ht hm hr]
  rfl
theorem c_oi {h : Hp} {Q : QT} : callC (ev (d + 1)) 295 [.ref a] h Q = Q none h := by
  refine propext ⟨?_, fun hq => ⟨none, h, ?_, hq⟩⟩
  · rintro ⟨r, h', hC, hq⟩
    simp only [ev, if_neg (show ¬ (295 : Nat) = jy_cp by decide), if_pos (show (295 : Nat) = jy_oi from rfl)] at hC
    obtain ⟨-, rfl, rfl⟩ := hC
    exact hq
  · simp only [ev, if_neg (show ¬ (295 : Nat) = jy_cp by decide), if_pos (show (295 : Nat) = jy_oi from rfl)]
    refine ⟨⟨a, rfl⟩, ?_, ?_⟩ <;> first | rfl | trivial
theorem mc_co : mK co_init = 2 ∧ mC co_init = 0 := by decide +kernel
theorem mc_de : mK de_init = 2 ∧ mC de_init = 1 := by decide +kernel
theorem mc_la : mK la_init = 2 ∧ mC la_init = 2 := by decide +kernel
theorem mc_pa : mK pa_init = 2 ∧ mC pa_init = 3 := by decide +kernel
theorem mc_ps : mK ps_init = 2 ∧ mC ps_init = 4 := by decide +kernel
theorem mc_re : mK re_init = 2 ∧ mC re_init = 5 := by decide +kernel
theorem mc_ri : mK ri_init = 2 ∧ mC ri_init = 6 := by decide +kernel
theorem mc_st : mK st_init = 2 ∧ mC st_init = 7 := by decide +kernel
theorem mc_th : mK th_init = 2 ∧ mC th_init = 8 := by decide +kernel
theorem mc_to : mK to_init = 2 ∧ mC to_init = 9 := by decide +kernel
theorem mc_wa : mK wa_init = 2 ∧ mC wa_init = 10 := by decide +kernel
theorem mc_vr : mK vr_init = 2 ∧ mC vr_init = 11 := by decide +kernel
theorem mc_mo : mK mo_init = 2 ∧ mC mo_init = 12 := by decide +kernel
theorem i_de_init_2 : callC (ev (d + 2)) de_init [.ref 2] (EC 3 0 g q) P = P none (EC 7 4 g q) := by
  refine call_eq (in_de_init rfl ?_)
  rw [b_de_init_0]
  simp -implicitDefEqProofs (disch := first | assumption | omega | decide +kernel) only [szS_0, szS_i, szS_r, szS_l, x_cons, x_goto, ob_some, kl_i, kl_r, kl_l, kl_n, push_n, push_s, pop_0, pop_i, pop_r, Int.reduceToNat, List.length_cons, List.length_nil, Nat.reduceAdd, Nat.reduceLeDiff, Nat.zero_add, true_and, nI_n0, nat_le, Nat.add_zero, rt_de_init, x_al0, x_call, x_ldc, x_putf, x_vret, c_oi, ce_new, ce_arr, ce_arl, ce_mul, ce_putR mc_de]
  all_goals first | rfl | exact ⟨rfl, rfl⟩ | exact ⟨rfl, trivial⟩ | exact ⟨trivial, rfl⟩ | trivial
theorem i_st_init_7 : callC (ev (d + 2)) st_init [.ref 7] (EC 8 5 g q) P = P none (EC 22 19 g q) := by
  refine call_eq (in_st_init rfl ?_)
  rw [b_st_init_0]
  simp -implicitDefEqProofs (disch := first | assumption | omega | decide +kernel) only [szS_0, szS_i, szS_r, szS_l, x_cons, x_goto, ob_some, kl_i, kl_r, kl_l, kl_n, push_n, push_s, pop_0, pop_i, pop_r, Int.reduceToNat, List.length_cons, List.length_nil, Nat.reduceAdd, Nat.reduceLeDiff, Nat.zero_add, true_and, nI_n0, nat_le, Nat.add_zero, rt_st_init, x_al0, x_call, x_ldc, x_putf, x_vret, c_oi, ce_new, ce_arr, ce_arl, ce_mul, ce_putR mc_st]
  all_goals first | rfl | exact ⟨rfl, rfl⟩ | exact ⟨rfl, trivial⟩ | exact ⟨trivial, rfl⟩ | trivial
theorem i_la_init_22 : callC (ev (d + 2)) la_init [.ref 22] (EC 23 20 g q) P = P none (EC 26 23 g q) := by
  refine call_eq (in_la_init rfl ?_)
  rw [b_la_init_0]
  simp -implicitDefEqProofs (disch := first | assumption | omega | decide +kernel) only [szS_0, szS_i, szS_r, szS_l, x_cons, x_goto, ob_some, kl_i, kl_r, kl_l, kl_n, push_n, push_s, pop_0, pop_i, pop_r, Int.reduceToNat, List.length_cons, List.length_nil, Nat.reduceAdd, Nat.reduceLeDiff, Nat.zero_add, true_and, nI_n0, nat_le, Nat.add_zero, rt_la_init, x_al0, x_call, x_ldc, x_putf, x_vret, c_oi, ce_new, ce_arr, ce_arl, ce_mul, ce_putR mc_la]
  all_goals first | rfl | exact ⟨rfl, rfl⟩ | exact ⟨rfl, trivial⟩ | exact ⟨trivial, rfl⟩ | trivial
theorem i_la_init_26 : callC (ev (d + 2)) la_init [.ref 26] (EC 27 24 g q) P = P none (EC 30 27 g q) := by
  refine call_eq (in_la_init rfl ?_)
  rw [b_la_init_0]
  simp -implicitDefEqProofs (disch := first | assumption | omega | decide +kernel) only [szS_0, szS_i, szS_r, szS_l, x_cons, x_goto, ob_some, kl_i, kl_r, kl_l, kl_n, push_n, push_s, pop_0, pop_i, pop_r, Int.reduceToNat, List.length_cons, List.length_nil, Nat.reduceAdd, Nat.reduceLeDiff, Nat.zero_add, true_and, nI_n0, nat_le, Nat.add_zero, rt_la_init, x_al0, x_call, x_ldc, x_putf, x_vret, c_oi, ce_new, ce_arr, ce_arl, ce_mul, ce_putR mc_la]
  all_goals first | rfl | exact ⟨rfl, rfl⟩ | exact ⟨rfl, trivial⟩ | exact ⟨trivial, rfl⟩ | trivial
theorem i_to_init_1 : callC (ev (d + 3)) to_init [.ref 1] (EC 2 0 g q) P = P none (EC 31 29 g q) := by
  refine call_eq (in_to_init rfl ?_)
  rw [b_to_init_0]
  simp -implicitDefEqProofs (disch := first | assumption | omega | decide +kernel) only [szS_0, szS_i, szS_r, szS_l, x_cons, x_goto, ob_some, kl_i, kl_r, kl_l, kl_n, push_n, push_s, pop_0, pop_i, pop_r, Int.reduceToNat, List.length_cons, List.length_nil, Nat.reduceAdd, Nat.reduceLeDiff, Nat.zero_add, true_and, nI_n0, nat_le, Nat.add_zero, rt_to_init, x_al0, x_call, x_dupi, x_dupr, x_ldc, x_putf, x_vret, c_oi, ce_new, ce_arr, ce_arl, ce_mul, ce_putR mc_to, i_de_init_2, i_st_init_7, i_la_init_22, i_la_init_26]
  all_goals first | rfl | exact ⟨rfl, rfl⟩ | exact ⟨rfl, trivial⟩ | exact ⟨trivial, rfl⟩ | trivial
theorem i_de_init_32 : callC (ev (d + 2)) de_init [.ref 32] (EC 33 30 g q) P = P none (EC 37 34 g q) := by
  refine call_eq (in_de_init rfl ?_)
  rw [b_de_init_0]
  simp -implicitDefEqProofs (disch := first | assumption | omega | decide +kernel) only [szS_0, szS_i, szS_r, szS_l, x_cons, x_goto, ob_some, kl_i, kl_r, kl_l, kl_n, push_n, push_s, pop_0, pop_i, pop_r, Int.reduceToNat, List.length_cons, List.length_nil, Nat.reduceAdd, Nat.reduceLeDiff, Nat.zero_add, true_and, nI_n0, nat_le, Nat.add_zero, rt_de_init, x_al0, x_call, x_ldc, x_putf, x_vret, c_oi, ce_new, ce_arr, ce_arl, ce_mul, ce_putR mc_de]
  all_goals first | rfl | exact ⟨rfl, rfl⟩ | exact ⟨rfl, trivial⟩ | exact ⟨trivial, rfl⟩ | trivial
theorem i_st_init_37 : callC (ev (d + 2)) st_init [.ref 37] (EC 38 35 g q) P = P none (EC 52 49 g q) := by
  refine call_eq (in_st_init rfl ?_)
  rw [b_st_init_0]
  simp -implicitDefEqProofs (disch := first | assumption | omega | decide +kernel) only [szS_0, szS_i, szS_r, szS_l, x_cons, x_goto, ob_some, kl_i, kl_r, kl_l, kl_n, push_n, push_s, pop_0, pop_i, pop_r, Int.reduceToNat, List.length_cons, List.length_nil, Nat.reduceAdd, Nat.reduceLeDiff, Nat.zero_add, true_and, nI_n0, nat_le, Nat.add_zero, rt_st_init, x_al0, x_call, x_ldc, x_putf, x_vret, c_oi, ce_new, ce_arr, ce_arl, ce_mul, ce_putR mc_st]
  all_goals first | rfl | exact ⟨rfl, rfl⟩ | exact ⟨rfl, trivial⟩ | exact ⟨trivial, rfl⟩ | trivial
theorem i_la_init_52 : callC (ev (d + 2)) la_init [.ref 52] (EC 53 50 g q) P = P none (EC 56 53 g q) := by
  refine call_eq (in_la_init rfl ?_)
  rw [b_la_init_0]
  simp -implicitDefEqProofs (disch := first | assumption | omega | decide +kernel) only [szS_0, szS_i, szS_r, szS_l, x_cons, x_goto, ob_some, kl_i, kl_r, kl_l, kl_n, push_n, push_s, pop_0, pop_i, pop_r, Int.reduceToNat, List.length_cons, List.length_nil, Nat.reduceAdd, Nat.reduceLeDiff, Nat.zero_add, true_and, nI_n0, nat_le, Nat.add_zero, rt_la_init, x_al0, x_call, x_ldc, x_putf, x_vret, c_oi, ce_new, ce_arr, ce_arl, ce_mul, ce_putR mc_la]
  all_goals first | rfl | exact ⟨rfl, rfl⟩ | exact ⟨rfl, trivial⟩ | exact ⟨trivial, rfl⟩ | trivial
theorem i_la_init_56 : callC (ev (d + 2)) la_init [.ref 56] (EC 57 54 g q) P = P none (EC 60 57 g q) := by
  refine call_eq (in_la_init rfl ?_)
  rw [b_la_init_0]
  simp -implicitDefEqProofs (disch := first | assumption | omega | decide +kernel) only [szS_0, szS_i, szS_r, szS_l, x_cons, x_goto, ob_some, kl_i, kl_r, kl_l, kl_n, push_n, push_s, pop_0, pop_i, pop_r, Int.reduceToNat, List.length_cons, List.length_nil, Nat.reduceAdd, Nat.reduceLeDiff, Nat.zero_add, true_and, nI_n0, nat_le, Nat.add_zero, rt_la_init, x_al0, x_call, x_ldc, x_putf, x_vret, c_oi, ce_new, ce_arr, ce_arl, ce_mul, ce_putR mc_la]
  all_goals first | rfl | exact ⟨rfl, rfl⟩ | exact ⟨rfl, trivial⟩ | exact ⟨trivial, rfl⟩ | trivial
theorem i_to_init_31 : callC (ev (d + 3)) to_init [.ref 31] (EC 32 30 g q) P = P none (EC 61 59 g q) := by
  refine call_eq (in_to_init rfl ?_)
  rw [b_to_init_0]
  simp -implicitDefEqProofs (disch := first | assumption | omega | decide +kernel) only [szS_0, szS_i, szS_r, szS_l, x_cons, x_goto, ob_some, kl_i, kl_r, kl_l, kl_n, push_n, push_s, pop_0, pop_i, pop_r, Int.reduceToNat, List.length_cons, List.length_nil, Nat.reduceAdd, Nat.reduceLeDiff, Nat.zero_add, true_and, nI_n0, nat_le, Nat.add_zero, rt_to_init, x_al0, x_call, x_dupi, x_dupr, x_ldc, x_putf, x_vret, c_oi, ce_new, ce_arr, ce_arl, ce_mul, ce_putR mc_to, i_de_init_32, i_st_init_37, i_la_init_52, i_la_init_56]
  all_goals first | rfl | exact ⟨rfl, rfl⟩ | exact ⟨rfl, trivial⟩ | exact ⟨trivial, rfl⟩ | trivial
theorem i_de_init_62 : callC (ev (d + 2)) de_init [.ref 62] (EC 63 60 g q) P = P none (EC 67 64 g q) := by
  refine call_eq (in_de_init rfl ?_)
  rw [b_de_init_0]
  simp -implicitDefEqProofs (disch := first | assumption | omega | decide +kernel) only [szS_0, szS_i, szS_r, szS_l, x_cons, x_goto, ob_some, kl_i, kl_r, kl_l, kl_n, push_n, push_s, pop_0, pop_i, pop_r, Int.reduceToNat, List.length_cons, List.length_nil, Nat.reduceAdd, Nat.reduceLeDiff, Nat.zero_add, true_and, nI_n0, nat_le, Nat.add_zero, rt_de_init, x_al0, x_call, x_ldc, x_putf, x_vret, c_oi, ce_new, ce_arr, ce_arl, ce_mul, ce_putR mc_de]
  all_goals first | rfl | exact ⟨rfl, rfl⟩ | exact ⟨rfl, trivial⟩ | exact ⟨trivial, rfl⟩ | trivial
theorem i_st_init_67 : callC (ev (d + 2)) st_init [.ref 67] (EC 68 65 g q) P = P none (EC 82 79 g q) := by
  refine call_eq (in_st_init rfl ?_)
  rw [b_st_init_0]
  simp -implicitDefEqProofs (disch := first | assumption | omega | decide +kernel) only [szS_0, szS_i, szS_r, szS_l, x_cons, x_goto, ob_some, kl_i, kl_r, kl_l, kl_n, push_n, push_s, pop_0, pop_i, pop_r, Int.reduceToNat, List.length_cons, List.length_nil, Nat.reduceAdd, Nat.reduceLeDiff, Nat.zero_add, true_and, nI_n0, nat_le, Nat.add_zero, rt_st_init, x_al0, x_call, x_ldc, x_putf, x_vret, c_oi, ce_new, ce_arr, ce_arl, ce_mul, ce_putR mc_st]
  all_goals first | rfl | exact ⟨rfl, rfl⟩ | exact ⟨rfl, trivial⟩ | exact ⟨trivial, rfl⟩ | trivial
theorem i_la_init_82 : callC (ev (d + 2)) la_init [.ref 82] (EC 83 80 g q) P = P none (EC 86 83 g q) := by
  refine call_eq (in_la_init rfl ?_)
  rw [b_la_init_0]
  simp -implicitDefEqProofs (disch := first | assumption | omega | decide +kernel) only [szS_0, szS_i, szS_r, szS_l, x_cons, x_goto, ob_some, kl_i, kl_r, kl_l, kl_n, push_n, push_s, pop_0, pop_i, pop_r, Int.reduceToNat, List.length_cons, List.length_nil, Nat.reduceAdd, Nat.reduceLeDiff, Nat.zero_add, true_and, nI_n0, nat_le, Nat.add_zero, rt_la_init, x_al0, x_call, x_ldc, x_putf, x_vret, c_oi, ce_new, ce_arr, ce_arl, ce_mul, ce_putR mc_la]
  all_goals first | rfl | exact ⟨rfl, rfl⟩ | exact ⟨rfl, trivial⟩ | exact ⟨trivial, rfl⟩ | trivial
theorem i_la_init_86 : callC (ev (d + 2)) la_init [.ref 86] (EC 87 84 g q) P = P none (EC 90 87 g q) := by
  refine call_eq (in_la_init rfl ?_)
  rw [b_la_init_0]
  simp -implicitDefEqProofs (disch := first | assumption | omega | decide +kernel) only [szS_0, szS_i, szS_r, szS_l, x_cons, x_goto, ob_some, kl_i, kl_r, kl_l, kl_n, push_n, push_s, pop_0, pop_i, pop_r, Int.reduceToNat, List.length_cons, List.length_nil, Nat.reduceAdd, Nat.reduceLeDiff, Nat.zero_add, true_and, nI_n0, nat_le, Nat.add_zero, rt_la_init, x_al0, x_call, x_ldc, x_putf, x_vret, c_oi, ce_new, ce_arr, ce_arl, ce_mul, ce_putR mc_la]
  all_goals first | rfl | exact ⟨rfl, rfl⟩ | exact ⟨rfl, trivial⟩ | exact ⟨trivial, rfl⟩ | trivial
theorem i_to_init_61 : callC (ev (d + 3)) to_init [.ref 61] (EC 62 60 g q) P = P none (EC 91 89 g q) := by
  refine call_eq (in_to_init rfl ?_)
  rw [b_to_init_0]
  simp -implicitDefEqProofs (disch := first | assumption | omega | decide +kernel) only [szS_0, szS_i, szS_r, szS_l, x_cons, x_goto, ob_some, kl_i, kl_r, kl_l, kl_n, push_n, push_s, pop_0, pop_i, pop_r, Int.reduceToNat, List.length_cons, List.length_nil, Nat.reduceAdd, Nat.reduceLeDiff, Nat.zero_add, true_and, nI_n0, nat_le, Nat.add_zero, rt_to_init, x_al0, x_call, x_dupi, x_dupr, x_ldc, x_putf, x_vret, c_oi, ce_new, ce_arr, ce_arl, ce_mul, ce_putR mc_to, i_de_init_62, i_st_init_67, i_la_init_82, i_la_init_86]
  all_goals first | rfl | exact ⟨rfl, rfl⟩ | exact ⟨rfl, trivial⟩ | exact ⟨trivial, rfl⟩ | trivial
theorem i_st_init_93 : callC (ev (d + 2)) st_init [.ref 93] (EC 94 91 g q) P = P none (EC 108 105 g q) := by
  refine call_eq (in_st_init rfl ?_)
  rw [b_st_init_0]
  simp -implicitDefEqProofs (disch := first | assumption | omega | decide +kernel) only [szS_0, szS_i, szS_r, szS_l, x_cons, x_goto, ob_some, kl_i, kl_r, kl_l, kl_n, push_n, push_s, pop_0, pop_i, pop_r, Int.reduceToNat, List.length_cons, List.length_nil, Nat.reduceAdd, Nat.reduceLeDiff, Nat.zero_add, true_and, nI_n0, nat_le, Nat.add_zero, rt_st_init, x_al0, x_call, x_ldc, x_putf, x_vret, c_oi, ce_new, ce_arr, ce_arl, ce_mul, ce_putR mc_st]
  all_goals first | rfl | exact ⟨rfl, rfl⟩ | exact ⟨rfl, trivial⟩ | exact ⟨trivial, rfl⟩ | trivial
theorem i_st_init_108 : callC (ev (d + 2)) st_init [.ref 108] (EC 109 106 g q) P = P none (EC 123 120 g q) := by
  refine call_eq (in_st_init rfl ?_)
  rw [b_st_init_0]
  simp -implicitDefEqProofs (disch := first | assumption | omega | decide +kernel) only [szS_0, szS_i, szS_r, szS_l, x_cons, x_goto, ob_some, kl_i, kl_r, kl_l, kl_n, push_n, push_s, pop_0, pop_i, pop_r, Int.reduceToNat, List.length_cons, List.length_nil, Nat.reduceAdd, Nat.reduceLeDiff, Nat.zero_add, true_and, nI_n0, nat_le, Nat.add_zero, rt_st_init, x_al0, x_call, x_ldc, x_putf, x_vret, c_oi, ce_new, ce_arr, ce_arl, ce_mul, ce_putR mc_st]
  all_goals first | rfl | exact ⟨rfl, rfl⟩ | exact ⟨rfl, trivial⟩ | exact ⟨trivial, rfl⟩ | trivial
theorem i_st_init_123 : callC (ev (d + 2)) st_init [.ref 123] (EC 124 121 g q) P = P none (EC 138 135 g q) := by
  refine call_eq (in_st_init rfl ?_)
  rw [b_st_init_0]
  simp -implicitDefEqProofs (disch := first | assumption | omega | decide +kernel) only [szS_0, szS_i, szS_r, szS_l, x_cons, x_goto, ob_some, kl_i, kl_r, kl_l, kl_n, push_n, push_s, pop_0, pop_i, pop_r, Int.reduceToNat, List.length_cons, List.length_nil, Nat.reduceAdd, Nat.reduceLeDiff, Nat.zero_add, true_and, nI_n0, nat_le, Nat.add_zero, rt_st_init, x_al0, x_call, x_ldc, x_putf, x_vret, c_oi, ce_new, ce_arr, ce_arl, ce_mul, ce_putR mc_st]
  all_goals first | rfl | exact ⟨rfl, rfl⟩ | exact ⟨rfl, trivial⟩ | exact ⟨trivial, rfl⟩ | trivial
theorem i_st_init_138 : callC (ev (d + 2)) st_init [.ref 138] (EC 139 136 g q) P = P none (EC 153 150 g q) := by
  refine call_eq (in_st_init rfl ?_)
  rw [b_st_init_0]
  simp -implicitDefEqProofs (disch := first | assumption | omega | decide +kernel) only [szS_0, szS_i, szS_r, szS_l, x_cons, x_goto, ob_some, kl_i, kl_r, kl_l, kl_n, push_n, push_s, pop_0, pop_i, pop_r, Int.reduceToNat, List.length_cons, List.length_nil, Nat.reduceAdd, Nat.reduceLeDiff, Nat.zero_add, true_and, nI_n0, nat_le, Nat.add_zero, rt_st_init, x_al0, x_call, x_ldc, x_putf, x_vret, c_oi, ce_new, ce_arr, ce_arl, ce_mul, ce_putR mc_st]
  all_goals first | rfl | exact ⟨rfl, rfl⟩ | exact ⟨rfl, trivial⟩ | exact ⟨trivial, rfl⟩ | trivial
theorem i_st_init_153 : callC (ev (d + 2)) st_init [.ref 153] (EC 154 151 g q) P = P none (EC 168 165 g q) := by
  refine call_eq (in_st_init rfl ?_)
  rw [b_st_init_0]
  simp -implicitDefEqProofs (disch := first | assumption | omega | decide +kernel) only [szS_0, szS_i, szS_r, szS_l, x_cons, x_goto, ob_some, kl_i, kl_r, kl_l, kl_n, push_n, push_s, pop_0, pop_i, pop_r, Int.reduceToNat, List.length_cons, List.length_nil, Nat.reduceAdd, Nat.reduceLeDiff, Nat.zero_add, true_and, nI_n0, nat_le, Nat.add_zero, rt_st_init, x_al0, x_call, x_ldc, x_putf, x_vret, c_oi, ce_new, ce_arr, ce_arl, ce_mul, ce_putR mc_st]
  all_goals first | rfl | exact ⟨rfl, rfl⟩ | exact ⟨rfl, trivial⟩ | exact ⟨trivial, rfl⟩ | trivial
theorem i_ps_init_91 : callC (ev (d + 3)) ps_init [.ref 91] (EC 92 90 g q) P = P none (EC 168 166 g q) := by
  refine call_eq (in_ps_init rfl ?_)
  have rs : ∀ {N m k b : Nat} {g : Nat → Nat → Int32}, (decide (92 < N) && decide (k < 5) && decide (kd b = (4, 7)) && decide (b < N) && decide (tauQ 92 k = m) && decide (m < 223) && decide (R0 92 k = some b)) = true → rst (EC N m g q) 92 (nI k) b = some (EC N (m + 1) g q) := fun h => by
    simp only [Bool.and_eq_true, decide_eq_true_eq] at h
    obtain ⟨⟨⟨⟨⟨⟨h1, h2⟩, h3⟩, h4⟩, h5⟩, h6⟩, h7⟩ := h
    exact ce_rs (n := 5) rfl h1 h2 (by decide) h3 h4 h5 h6 h7
  rw [b_ps_init_0]
  simp -implicitDefEqProofs (disch := first | assumption | omega | decide +kernel) only [szS_0, szS_i, szS_r, szS_l, x_cons, x_goto, ob_some, kl_i, kl_r, kl_l, kl_n, push_n, push_s, pop_0, pop_i, pop_r, Int.reduceToNat, List.length_cons, List.length_nil, Nat.reduceAdd, Nat.reduceLeDiff, Nat.zero_add, true_and, nI_n0, nat_le, Nat.add_zero, i_1, rt_ps_init, x_aastore, x_al0, x_call, x_dupi, x_dupr, x_getf, x_goto, x_icge, x_il1, x_inc1, x_is1, x_ldc, x_putf, x_vret, c_oi, ce_ana, ce_putR mc_ps]
  rw [b_ps_init_14]
  simp -implicitDefEqProofs (disch := first | assumption | omega | decide +kernel) only [szS_0, szS_i, szS_r, szS_l, x_cons, x_goto, ob_some, kl_i, kl_r, kl_l, kl_n, push_n, push_s, pop_0, pop_i, pop_r, Int.reduceToNat, List.length_cons, List.length_nil, Nat.reduceAdd, Nat.reduceLeDiff, Nat.zero_add, true_and, nI_n0, nat_le, Nat.add_zero, i_1, rt_ps_init, x_aastore, x_al0, x_call, x_dupi, x_dupr, x_getf, x_goto, x_icge, x_il1, x_inc1, x_is1, x_ldc, x_putf, x_vret, nI_ltE, Nat.reduceLT, ↓reduceIte, ce_getR 92, ce_new, i_st_init_93, rs, nI_add]
  rw [b_ps_init_14]
  simp -implicitDefEqProofs (disch := first | assumption | omega | decide +kernel) only [szS_0, szS_i, szS_r, szS_l, x_cons, x_goto, ob_some, kl_i, kl_r, kl_l, kl_n, push_n, push_s, pop_0, pop_i, pop_r, Int.reduceToNat, List.length_cons, List.length_nil, Nat.reduceAdd, Nat.reduceLeDiff, Nat.zero_add, true_and, nI_n0, nat_le, Nat.add_zero, i_1, rt_ps_init, x_aastore, x_al0, x_call, x_dupi, x_dupr, x_getf, x_goto, x_icge, x_il1, x_inc1, x_is1, x_ldc, x_putf, x_vret, nI_ltE, Nat.reduceLT, ↓reduceIte, ce_getR 92, ce_new, i_st_init_108, rs, nI_add]
  rw [b_ps_init_14]
  simp -implicitDefEqProofs (disch := first | assumption | omega | decide +kernel) only [szS_0, szS_i, szS_r, szS_l, x_cons, x_goto, ob_some, kl_i, kl_r, kl_l, kl_n, push_n, push_s, pop_0, pop_i, pop_r, Int.reduceToNat, List.length_cons, List.length_nil, Nat.reduceAdd, Nat.reduceLeDiff, Nat.zero_add, true_and, nI_n0, nat_le, Nat.add_zero, i_1, rt_ps_init, x_aastore, x_al0, x_call, x_dupi, x_dupr, x_getf, x_goto, x_icge, x_il1, x_inc1, x_is1, x_ldc, x_putf, x_vret, nI_ltE, Nat.reduceLT, ↓reduceIte, ce_getR 92, ce_new, i_st_init_123, rs, nI_add]
  rw [b_ps_init_14]
  simp -implicitDefEqProofs (disch := first | assumption | omega | decide +kernel) only [szS_0, szS_i, szS_r, szS_l, x_cons, x_goto, ob_some, kl_i, kl_r, kl_l, kl_n, push_n, push_s, pop_0, pop_i, pop_r, Int.reduceToNat, List.length_cons, List.length_nil, Nat.reduceAdd, Nat.reduceLeDiff, Nat.zero_add, true_and, nI_n0, nat_le, Nat.add_zero, i_1, rt_ps_init, x_aastore, x_al0, x_call, x_dupi, x_dupr, x_getf, x_goto, x_icge, x_il1, x_inc1, x_is1, x_ldc, x_putf, x_vret, nI_ltE, Nat.reduceLT, ↓reduceIte, ce_getR 92, ce_new, i_st_init_138, rs, nI_add]
  rw [b_ps_init_14]
  simp -implicitDefEqProofs (disch := first | assumption | omega | decide +kernel) only [szS_0, szS_i, szS_r, szS_l, x_cons, x_goto, ob_some, kl_i, kl_r, kl_l, kl_n, push_n, push_s, pop_0, pop_i, pop_r, Int.reduceToNat, List.length_cons, List.length_nil, Nat.reduceAdd, Nat.reduceLeDiff, Nat.zero_add, true_and, nI_n0, nat_le, Nat.add_zero, i_1, rt_ps_init, x_aastore, x_al0, x_call, x_dupi, x_dupr, x_getf, x_goto, x_icge, x_il1, x_inc1, x_is1, x_ldc, x_putf, x_vret, nI_ltE, Nat.reduceLT, ↓reduceIte, ce_getR 92, ce_new, i_st_init_153, rs, nI_add]
  rw [b_ps_init_14]
  simp -implicitDefEqProofs (disch := first | assumption | omega | decide +kernel) only [szS_0, szS_i, szS_r, szS_l, x_cons, x_goto, ob_some, kl_i, kl_r, kl_l, kl_n, push_n, push_s, pop_0, pop_i, pop_r, Int.reduceToNat, List.length_cons, List.length_nil, Nat.reduceAdd, Nat.reduceLeDiff, Nat.zero_add, true_and, nI_n0, nat_le, Nat.add_zero, i_1, rt_ps_init, x_aastore, x_al0, x_call, x_dupi, x_dupr, x_getf, x_goto, x_icge, x_il1, x_inc1, x_is1, x_ldc, x_putf, x_vret, nI_ltE, Nat.lt_irrefl, ↓reduceIte, b_ps_init_38]
  all_goals first | rfl | exact ⟨rfl, rfl⟩ | exact ⟨rfl, trivial⟩ | exact ⟨trivial, rfl⟩ | trivial
theorem i_re_init_168 : callC (ev (d + 2)) re_init [.ref 168] (EC 169 167 g q) P = P none (EC 173 171 (up2 g 168 3 (-1)) q) := by
  refine call_eq (in_re_init rfl ?_)
  rw [b_re_init_0]
  simp -implicitDefEqProofs (disch := first | assumption | omega | decide +kernel) only [szS_0, szS_i, szS_r, szS_l, x_cons, x_goto, ob_some, kl_i, kl_r, kl_l, kl_n, push_n, push_s, pop_0, pop_i, pop_r, Int.reduceToNat, List.length_cons, List.length_nil, Nat.reduceAdd, Nat.reduceLeDiff, Nat.zero_add, true_and, nI_n0, nat_le, Nat.add_zero, rt_re_init, x_al0, x_call, x_ldc, x_m1, x_putf, x_vret, c_oi, ce_arr, ce_putI, ce_putR mc_re, Nat.reduceMod]
  all_goals first | rfl | exact ⟨rfl, rfl⟩ | exact ⟨rfl, trivial⟩ | exact ⟨trivial, rfl⟩ | trivial
theorem i_pa_init_173 : callC (ev (d + 2)) pa_init [.ref 173, .ref 168] (EC 174 172 g q) P = P none (EC 174 173 g q) := by
  refine call_eq (in_pa_init rfl ?_)
  rw [b_pa_init_0]
  simp -implicitDefEqProofs (disch := first | assumption | omega | decide +kernel) only [szS_0, szS_i, szS_r, szS_l, x_cons, x_goto, ob_some, kl_i, kl_r, kl_l, kl_n, push_n, push_s, pop_0, pop_i, pop_r, Int.reduceToNat, List.length_cons, List.length_nil, Nat.reduceAdd, Nat.reduceLeDiff, Nat.zero_add, true_and, nI_n0, nat_le, Nat.add_zero, rt_pa_init, x_al0, x_al1, x_call, x_putf, x_vret, c_oi, ce_new, ce_arr, ce_arl, ce_mul, ce_putR mc_pa]
  all_goals first | rfl | exact ⟨rfl, rfl⟩ | exact ⟨rfl, trivial⟩ | exact ⟨trivial, rfl⟩ | trivial
theorem i_wa_init_175 : callC (ev (d + 2)) wa_init [.ref 175] (EC 176 174 g q) P = P none (EC 179 177 g q) := by
  refine call_eq (in_wa_init rfl ?_)
  rw [b_wa_init_0]
  simp -implicitDefEqProofs (disch := first | assumption | omega | decide +kernel) only [szS_0, szS_i, szS_r, szS_l, x_cons, x_goto, ob_some, kl_i, kl_r, kl_l, kl_n, push_n, push_s, pop_0, pop_i, pop_r, Int.reduceToNat, List.length_cons, List.length_nil, Nat.reduceAdd, Nat.reduceLeDiff, Nat.zero_add, true_and, nI_n0, nat_le, Nat.add_zero, rt_wa_init, x_al0, x_call, x_ldc, x_putf, x_vret, c_oi, ce_new, ce_arr, ce_arl, ce_mul, ce_putR mc_wa]
  all_goals first | rfl | exact ⟨rfl, rfl⟩ | exact ⟨rfl, trivial⟩ | exact ⟨trivial, rfl⟩ | trivial
theorem i_ri_init_174 : callC (ev (d + 3)) ri_init [.ref 174] (EC 175 174 g q) P = P none (EC 182 181 g q) := by
  refine call_eq (in_ri_init rfl ?_)
  rw [b_ri_init_0]
  simp -implicitDefEqProofs (disch := first | assumption | omega | decide +kernel) only [szS_0, szS_i, szS_r, szS_l, x_cons, x_goto, ob_some, kl_i, kl_r, kl_l, kl_n, push_n, push_s, pop_0, pop_i, pop_r, Int.reduceToNat, List.length_cons, List.length_nil, Nat.reduceAdd, Nat.reduceLeDiff, Nat.zero_add, true_and, nI_n0, nat_le, Nat.add_zero, rt_ri_init, x_al0, x_call, x_dupi, x_dupr, x_ldc, x_putf, x_vret, c_oi, ce_new, ce_arr, ce_arl, ce_mul, ce_putR mc_ri, i_wa_init_175]
  all_goals first | rfl | exact ⟨rfl, rfl⟩ | exact ⟨rfl, trivial⟩ | exact ⟨trivial, rfl⟩ | trivial
theorem i_th_init_182 : callC (ev (d + 2)) th_init [.ref 182, .ref 174, .ref 61] (EC 183 182 g q) P = P none (EC 184 185 g q) := by
  refine call_eq (in_th_init rfl ?_)
  rw [b_th_init_0]
  simp -implicitDefEqProofs (disch := first | assumption | omega | decide +kernel) only [szS_0, szS_i, szS_r, szS_l, x_cons, x_goto, ob_some, kl_i, kl_r, kl_l, kl_n, push_n, push_s, pop_0, pop_i, pop_r, Int.reduceToNat, List.length_cons, List.length_nil, Nat.reduceAdd, Nat.reduceLeDiff, Nat.zero_add, true_and, nI_n0, nat_le, Nat.add_zero, rt_th_init, x_al0, x_al1, x_al2, x_call, x_ldc, x_putf, x_vret, c_oi, ce_new, ce_arr, ce_arl, ce_mul, ce_putR mc_th]
  all_goals first | rfl | exact ⟨rfl, rfl⟩ | exact ⟨rfl, trivial⟩ | exact ⟨trivial, rfl⟩ | trivial
theorem i_wa_init_185 : callC (ev (d + 2)) wa_init [.ref 185] (EC 186 186 g q) P = P none (EC 189 189 g q) := by
  refine call_eq (in_wa_init rfl ?_)
  rw [b_wa_init_0]
  simp -implicitDefEqProofs (disch := first | assumption | omega | decide +kernel) only [szS_0, szS_i, szS_r, szS_l, x_cons, x_goto, ob_some, kl_i, kl_r, kl_l, kl_n, push_n, push_s, pop_0, pop_i, pop_r, Int.reduceToNat, List.length_cons, List.length_nil, Nat.reduceAdd, Nat.reduceLeDiff, Nat.zero_add, true_and, nI_n0, nat_le, Nat.add_zero, rt_wa_init, x_al0, x_call, x_ldc, x_putf, x_vret, c_oi, ce_new, ce_arr, ce_arl, ce_mul, ce_putR mc_wa]
  all_goals first | rfl | exact ⟨rfl, rfl⟩ | exact ⟨rfl, trivial⟩ | exact ⟨trivial, rfl⟩ | trivial
theorem i_co_init_184 : callC (ev (d + 3)) co_init [.ref 184, .ref 174, .ref 61] (EC 185 186 g q) P = P none (EC 196 199 g q) := by
  refine call_eq (in_co_init rfl ?_)
  rw [b_co_init_0]
  simp -implicitDefEqProofs (disch := first | assumption | omega | decide +kernel) only [szS_0, szS_i, szS_r, szS_l, x_cons, x_goto, ob_some, kl_i, kl_r, kl_l, kl_n, push_n, push_s, pop_0, pop_i, pop_r, Int.reduceToNat, List.length_cons, List.length_nil, Nat.reduceAdd, Nat.reduceLeDiff, Nat.zero_add, true_and, nI_n0, nat_le, Nat.add_zero, rt_co_init, x_al0, x_al1, x_al2, x_call, x_dupi, x_dupr, x_ldc, x_putf, x_vret, c_oi, ce_new, ce_arr, ce_arl, ce_mul, ce_putR mc_co, i_wa_init_185]
  all_goals first | rfl | exact ⟨rfl, rfl⟩ | exact ⟨rfl, trivial⟩ | exact ⟨trivial, rfl⟩ | trivial
end EC
