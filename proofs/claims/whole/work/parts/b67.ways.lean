/-! ways: one arm of each fork open -/
def forkD (w : Nat → Int32) (n : Nat) : Bool := decide (fd w n 0 = 0)
/-- the product of the arms of the last j nodes' forks -/
def PWd (w : Nat → Int32) : Nat → Nat
  | 0 => 1
  | j + 1 => (if fd w (nn w - (j + 1)) 0 = 0 then am w (nn w - (j + 1)) else 1) * PWd w j
/-- of the first n nodes -/
def APw (w : Nat → Int32) : Nat → Nat
  | 0 => 1
  | n + 1 => APw w n * (if fd w n 0 = 0 then am w n else 1)
/-- what is open at a fork in way v -/
def opV (w : Nat → Int32) (v n : Nat) : Nat := 2 ^ (v / PWd w (nn w - (n + 1)) % am w n)
theorem pw_s {w : Nat → Int32} {n : Nat} (hn : n < nn w) : PWd w (nn w - n) = (if fd w n 0 = 0 then am w n else 1) * PWd w (nn w - (n + 1)) := by
  obtain ⟨j, hj⟩ : ∃ j, nn w - n = j + 1 := ⟨nn w - n - 1, by omega⟩
  rw [hj, show nn w - (n + 1) = j by omega]
  show (if fd w (nn w - (j + 1)) 0 = 0 then am w (nn w - (j + 1)) else 1) * PWd w j = _
  rw [show nn w - (j + 1) = n by omega]
theorem pw_p {w : Nat → Int32} (h : WI w) : ∀ j, j ≤ nn w → 0 < PWd w j
  | 0, _ => Nat.one_pos
  | j + 1, hj => by
    have h0 := wi_n h
    have ih := pw_p h j (by omega)
    unfold PWd
    split
    next e =>
      have := am_2 h (f := nn w - (j + 1)) (by omega) e
      exact Nat.mul_pos (by omega) ih
    next e => omega
theorem ap_pw {w : Nat → Int32} : ∀ n, n ≤ nn w → APw w n * PWd w (nn w - n) = PWd w (nn w)
  | 0, _ => by
    show 1 * PWd w (nn w - 0) = _
    rw [Nat.one_mul, Nat.sub_zero]
  | n + 1, hn => by
    have := ap_pw (w := w) n (by omega)
    rw [pw_s (by omega)] at this
    unfold APw
    rw [Nat.mul_assoc]
    exact this
theorem ap_nn {w : Nat → Int32} : APw w (nn w) = PWd w (nn w) := by
  have := ap_pw (w := w) (nn w) (Nat.le_refl _)
  rw [Nat.sub_self] at this
  show APw w (nn w) = _
  rw [← this]
  exact (Nat.mul_one _).symm
theorem pw_b {w : Nat → Int32} (h : WI w) : ∀ j, j ≤ nn w → PWd w j * 3 ^ cnt (forkD w) (nn w - j) ≤ 3 ^ cnt (forkD w) (nn w)
  | 0, _ => by
    show 1 * _ ≤ _
    rw [Nat.one_mul, Nat.sub_zero]
    exact Nat.le_refl _
  | j + 1, hj => by
    have h0 := wi_n h
    have ih := pw_b h j (by omega)
    have e1 : nn w - j = nn w - (j + 1) + 1 := by omega
    rw [e1, cnt_s] at ih
    unfold PWd
    by_cases e : fd w (nn w - (j + 1)) 0 = 0
    · have hd : forkD w (nn w - (j + 1)) = true := decide_eq_true e
      rw [hd, if_pos rfl, Nat.pow_succ] at ih
      rw [if_pos e]
      have ha := am_le h (n := nn w - (j + 1)) (by omega)
      have e2 : PWd w j * (3 ^ cnt (forkD w) (nn w - (j + 1)) * 3) = 3 * (PWd w j * 3 ^ cnt (forkD w) (nn w - (j + 1))) := by rw [← Nat.mul_assoc, Nat.mul_comm]
      rw [e2] at ih
      rw [Nat.mul_assoc]
      exact Nat.le_trans (Nat.mul_le_mul_right _ ha) ih
    · have hd : forkD w (nn w - (j + 1)) = false := decide_eq_false e
      rw [hd, if_neg Bool.false_ne_true, Nat.add_zero] at ih
      rw [if_neg e, Nat.one_mul]
      exact ih
theorem pw_l {w : Nat → Int32} (h : WI w) (h7 : cnt (forkD w) (nn w) ≤ 7) : PWd w (nn w) ≤ 2187 := by
  have h1 := pw_b h (nn w) (Nat.le_refl _)
  rw [Nat.sub_self] at h1
  have h2 : (3 : Nat) ^ cnt (forkD w) (nn w) ≤ 3 ^ 7 := Nat.pow_le_pow_right (by decide) h7
  have e : cnt (forkD w) 0 = 0 := rfl
  rw [e, Nat.pow_zero, Nat.mul_one] at h1
  have e2 : (3 : Nat) ^ 7 = 2187 := rfl
  omega
theorem opV_o {w : Nat → Int32} (h : WI w) {v n : Nat} (hn : n < nn w) (hs : fd w n 0 = 0) : 1 ≤ opV w v n ∧ opV w v n < 2 ^ am w n ∧ v / PWd w (nn w - (n + 1)) % am w n < am w n := by
  have h2 := am_2 h hn hs
  have hm := Nat.mod_lt (v / PWd w (nn w - (n + 1))) (show am w n > 0 by omega)
  exact ⟨Nat.two_pow_pos _, Nat.pow_lt_pow_right (by decide) hm, hm⟩
theorem opV_O {w : Nat → Int32} (h : WI w) (v : Nat) : opO w (opV w v) := fun n hn hs => ⟨(opV_o h hn hs).1, (opV_o h hn hs).2.1⟩
/-- the way's number divided on -/
theorem pw_dv {w : Nat → Int32} {v n : Nat} (hn : n < nn w) : v / PWd w (nn w - n) = if fd w n 0 = 0 then v / PWd w (nn w - (n + 1)) / am w n else v / PWd w (nn w - (n + 1)) := by
  rw [pw_s hn]
  by_cases e : fd w n 0 = 0
  · rw [if_pos e, if_pos e, Nat.div_div_eq_div_mul, Nat.mul_comm]
  · rw [if_neg e, if_neg e, Nat.one_mul]
/-- the arm in a block of ways -/
theorem pw_dg {w : Nat → Int32} (h : WI w) {v0 K a v n : Nat} (hn : n < nn w) (hs : fd w n 0 = 0) (hv0 : v0 = K * PWd w (nn w - n)) (ha : a < am w n) (h1 : v0 + a * PWd w (nn w - (n + 1)) ≤ v) (h2 : v < v0 + a * PWd w (nn w - (n + 1)) + PWd w (nn w - (n + 1))) : v / PWd w (nn w - (n + 1)) % am w n = a := by
  have h0 := wi_n h
  have hp := pw_p h (nn w - (n + 1)) (by omega)
  rw [pw_s hn, if_pos hs] at hv0
  generalize PWd w (nn w - (n + 1)) = X at hv0 h1 h2 hp ⊢
  have e1 : v0 + a * X = (K * am w n + a) * X := by rw [hv0, Nat.add_mul, Nat.mul_assoc]
  obtain ⟨r, hr⟩ : ∃ r, v = (K * am w n + a) * X + r := ⟨v - (K * am w n + a) * X, by omega⟩
  have hrl : r < X := by omega
  have e2 : v / X = K * am w n + a := by
    rw [hr, Nat.mul_comm, Nat.mul_add_div hp, Nat.div_eq_of_lt hrl, Nat.add_zero]
  rw [e2, Nat.mul_comm K, Nat.mul_add_mod, Nat.mod_eq_of_lt ha]
/-! the water in rows that differ in what is open -/
def wtr (w w' : Nat → Int32) : Prop := stc w w' ∧ w' 7 = w 7 ∧ ∀ n, n < 16 → fd w' n 11 = fd w n 11 ∧ fd w' n 15 = fd w n 15 ∧ fd w' n 16 = fd w n 16
theorem cmN_c {w w' : Nat → Int32} (hw : WI w) (h : wtr w w') {op op' : Nat → Nat} (ho : ∀ n, n < nn w → fd w n 0 = 0 → op' n = op n) {fl : Nat} : ∀ n, n ≤ nn w → ∀ m, cmN w' op' fl n m = cmN w op fl n m
  | 0, _, m => rfl
  | n + 1, hn, m => by
    have h0 := wi_n hw
    have ih := cmN_c hw h ho (fl := fl) n (by omega)
    have ha3 := am_le hw (n := n) (by omega)
    have h7 : vN w' 7 = vN w 7 := congrArg ix h.2.1
    obtain ⟨f1, f2, f3⟩ := h.2.2 n (by omega)
    unfold cmN
    rw [ih m, ih n, stc_am h.1 (by omega)]
    refine congrArg _ (sm_c _ fun a ha => ?_)
    rw [stc_tg h.1 (by omega) (by omega)]
    have e : snt w' op' (cmN w op fl n n) n a = snt w op (cmN w op fl n n) n a := by
      unfold snt
      rw [stc_fd h.1 (by omega) (by decide)]
      by_cases hs : fd w n 0 = 0
      · rw [if_pos hs, if_pos hs, ho n (by omega) hs]
        unfold snF rst0
        rw [h7, stc_am h.1 (by omega)]
      · rw [if_neg hs, if_neg hs]
        unfold snT tak
        rw [f1, f2, f3]
    rw [e]
theorem cmA_c {w w' : Nat → Int32} (hw : WI w) (h : wtr w w') {op op' : Nat → Nat} (ho : ∀ n, n < nn w → fd w n 0 = 0 → op' n = op n) {fl n : Nat} (hn : n ≤ nn w) : cmA w' op' fl n = cmA w op fl n := cmN_c hw h ho n hn n
theorem wtS_c {w w' : Nat → Int32} (hw : WI w) (h : wtr w w') {op op' : Nat → Nat} (ho : ∀ n, n < nn w → fd w n 0 = 0 → op' n = op n) {fl n : Nat} (hn : n ≤ nn w) : wtS w' op' fl n = wtS w op fl n := by
  have h0 := wi_n hw
  refine bset_c n fun m hm => ?_
  obtain ⟨f1, f2, f3⟩ := h.2.2 m (by omega)
  unfold wetP
  rw [stc_fd h.1 (by omega) (by decide), cmA_c hw h ho (by omega), f1, f3]
/-! what comes of the ways -/
def gotV (w : Nat → Int32) (s v : Nat) : Nat → Nat := sm fun m => if s.testBit m = true then (if fd w m 11 < cmA w (opV w v) (vN w 6) m then fd w m 11 else cmA w (opV w v) (vN w 6) m) else 0
def moM (w : Nat → Int32) (s : Nat) : Nat → Nat
  | 0 => 0
  | v + 1 => if moM w s v < gotV w s v (nn w) then gotV w s v (nn w) else moM w s v
def wyP (w : Nat → Int32) (s v : Nat) : Bool := decide (wtS w (opV w v) (vN w 6) (nn w) = s)
/-- the first of the ways below n that is so -/
def fsV (p : Nat → Bool) : Nat → Nat
  | 0 => 0
  | v + 1 => if (p v && decide (cnt p v = 0)) = true then v else fsV p v
def cwB (w : Nat → Int32) (s : Int32) : Bool := decide (s &&& (nI (tws w (nn w)) ^^^ -1) = nI 0) && decide (cnt (forkD w) (nn w) ≤ 7)
def moA (w : Nat → Int32) (s : Int32) : Int32 := if cwB w s = true then nI (moM w (ix s) (PWd w (nn w))) else -1
def askB (w : Nat → Int32) (k : Int32) : Bool := decide (k = nI 0) || (decide (nI 10 ≤ k) && forkB w (k - nI 10))
def fsA (w : Nat → Int32) (s k N : Nat) : Int32 := if cnt (wyP w s) N = 0 then -1 else nI (fsV (wyP w s) N / PWd w (nn w - (k + 1)) % am w k)
def muA (w : Nat → Int32) (s k : Int32) : Int32 := if (cwB w s && askB w k) = true then (if k = nI 0 then nI (cnt (wyP w (ix s)) (PWd w (nn w))) else fsA w (ix s) (ix k - 10) (PWd w (nn w))) else -1
/-- a set of towns alone -/
theorem set_ex {x : Int32} {T : Nat} (hT : T < 65536) (h : x &&& (nI T ^^^ -1) = nI 0) : ∃ s, s < 65536 ∧ x = nI s ∧ ∀ i, s.testBit i = true → T.testBit i = true := by
  have hm1 : (-1 : Int32).toBitVec = BitVec.allOnes 32 := by decide
  have hb : ∀ i, i < 32 → x.toBitVec.getLsbD i = true → T.testBit i = true := by
    intro i hi hx
    have h1 := congrArg (fun y : Int32 => y.toBitVec.getLsbD i) h
    have h1 : (x.toBitVec &&& ((nI T).toBitVec ^^^ (-1 : Int32).toBitVec)).getLsbD i = (nI 0).toBitVec.getLsbD i := h1
    rw [nI_bv, nI_bv, BitVec.getLsbD_and, BitVec.getLsbD_xor, hm1, BitVec.getLsbD_allOnes, BitVec.getLsbD_ofNat, BitVec.getLsbD_ofNat, decide_eq_true hi, hx, Bool.true_and, Bool.true_and, Bool.true_and, Nat.zero_testBit] at h1
    cases hT : T.testBit i
    · rw [hT] at h1
      cases h1
    · rfl
  have hTl : ∀ i, 16 ≤ i → T.testBit i = false := fun i hi => Nat.testBit_lt_two_pow (Nat.lt_of_lt_of_le hT (Nat.pow_le_pow_right (n := 2) (i := 16) (j := i) (show 0 < 2 by decide) hi))
  have hsl : x.toBitVec.toNat < 65536 := by
    refine Nat.lt_pow_two_of_testBit (n := 16) _ fun i hi => ?_
    by_cases h32 : i < 32
    · cases hx : x.toBitVec.toNat.testBit i
      · rfl
      · have := hb i h32 hx
        rw [hTl i hi] at this
        cases this
    · exact Nat.testBit_lt_two_pow (Nat.lt_of_lt_of_le x.toBitVec.isLt (Nat.pow_le_pow_right (n := 2) (i := 32) (j := i) (show 0 < 2 by decide) (by omega)))
  refine ⟨x.toBitVec.toNat, hsl, ?_, fun i hi => ?_⟩
  · refine Int32.toBitVec_inj.mp ?_
    rw [nI_bv]
    refine BitVec.eq_of_toNat_eq ?_
    rw [BitVec.toNat_ofNat]
    exact (Nat.mod_eq_of_lt x.toBitVec.isLt).symm
  · by_cases h32 : i < 32
    · exact hb i h32 hi
    · rw [Nat.testBit_lt_two_pow (Nat.lt_of_lt_of_le hsl (Nat.pow_le_pow_right (n := 2) (i := 16) (j := i) (show 0 < 2 by decide) (by omega)))] at hi
      cases hi
theorem gotV_l {w : Nat → Int32} (h : WI w) {s v : Nat} : ∀ n, n ≤ 16 → gotV w s v n ≤ 999 * n
  | 0, _ => Nat.le_refl _
  | n + 1, hn => by
    have ih := gotV_l h (s := s) (v := v) n (by omega)
    have h1 := (wi_y h (n := n) (by omega)).2.1.2
    show gotV w s v n + (if s.testBit n = true then (if fd w n 11 < cmA w (opV w v) (vN w 6) n then fd w n 11 else cmA w (opV w v) (vN w 6) n) else 0) ≤ _
    split
    · split <;> omega
    · omega
theorem moM_l {w : Nat → Int32} (h : WI w) {s : Nat} : ∀ v, moM w s v ≤ 15984
  | 0 => Nat.zero_le _
  | v + 1 => by
    have h0 := wi_n h
    have ih := moM_l h (s := s) v
    have h1 := gotV_l h (s := s) (v := v) (nn w) (by omega)
    unfold moM
    split <;> omega
