/-! the reference's votes and who moves -/
/-- but the cells of l nothing has changed -/
def fr (l : List Nat) (g g' : Nat → Nat → Int32) : Prop := ∀ a, a ∉ l → g' a = g a
theorem fr_r {l : List Nat} {g : Nat → Nat → Int32} : fr l g g := fun _ _ => rfl
theorem fr_t {l : List Nat} {g g' g2 : Nat → Nat → Int32} (h : fr l g g') (h' : fr l g' g2) : fr l g g2 := fun a ha => (h' a ha).trans (h a ha)
theorem fr_m {l l' : List Nat} {g g' : Nat → Nat → Int32} (hl : (l.all fun x => l'.contains x) = true) (h : fr l g g') : fr l' g g' := fun a ha => h a fun hm => ha (by
  have := List.all_eq_true.mp hl a hm
  exact List.contains_iff_mem.mp this)
theorem fr_w {l : List Nat} {g g' : Nat → Nat → Int32} {a : Nat} {r : Nat → Int32} (ha : l.contains a = true) (h : fr l g g') : fr l g (upw g' a r) := fun b hb => by
  rw [upw_o fun e => hb (by rw [e]; exact List.contains_iff_mem.mp ha)]
  exact h b hb
theorem fr_u {l : List Nat} {g g' : Nat → Nat → Int32} {a k : Nat} {v : Int32} (ha : l.contains a = true) (h : fr l g g') : fr l g (up2 g' a k v) := by
  rw [up2_g]
  exact fr_w ha h
theorem fr_a {l : List Nat} {g g' : Nat → Nat → Int32} (h : fr l g g') {a : Nat} (ha : l.contains a = false) : g' a = g a := h a fun hm => by
  rw [List.contains_iff_mem.mpr hm] at ha
  cases ha
/-- a law's names are those told for it -/
def nmL (ok : Nat → Bool) (l : List (Nat × Nat)) : Prop := ∀ o, o ∈ l → o.1 < 13 → o.1 ≠ 0 → ok o.1 = true
theorem evL_c {ok : Nat → Bool} {F F' : Nat → Int32} (h : ∀ s, ok s = true → F s = F' s) : ∀ (l : List (Nat × Nat)) (st : List Int32), nmL ok l → evL F l st = evL F' l st
  | [], _, _ => rfl
  | o :: l, st, hn => by
    show evL F l (ev1 F o st) = evL F' l (ev1 F' o st)
    have e : ev1 F o st = ev1 F' o st := by
      unfold ev1
      by_cases h1 : o.1 < 13
      · rw [if_pos h1, if_pos h1]
        by_cases h0 : o.1 = 0
        · rw [if_pos h0, if_pos h0]
        · rw [if_neg h0, if_neg h0, h _ (hn o (List.mem_cons_self ..) h1 h0)]
      · rw [if_neg h1, if_neg h1]
    rw [e]
    exact evL_c h l _ fun o' ho => hn o' (List.mem_cons_of_mem _ ho)
def nmW (ok : Nat → Bool) (ls : LW) : Prop := ∀ p, p ∈ ls → nmL ok p.1 ∧ nmL ok p.2
theorem saysL_c {ok : Nat → Bool} {F F' : Nat → Int32} (h : ∀ s, ok s = true → F s = F' s) {o m : Int32} : ∀ (ls : LW), nmW ok ls → saysL F o m ls = saysL F' o m ls
  | [], _ => rfl
  | (A, C) :: r, hn => by
    have h1 := hn (A, C) (List.mem_cons_self ..)
    show (if C = [] ∨ topL (evL F C []) = nI 1 then heldI (topL (evL F A [])) m else saysL F o m r) = _
    rw [evL_c h C [] h1.2, evL_c h A [] h1.1, saysL_c h r fun p hp => hn p (List.mem_cons_of_mem _ hp)]
    rfl
theorem heldI_ex {v : Int32} {h : Nat} (hh : h < 2147483648) : ∃ k, k ≤ h ∧ heldI v (nI h) = nI k := by
  unfold heldI
  by_cases h1 : nI h < v
  · have e : ¬ nI h < nI 0 := by
      rw [nI_ltE hh (by decide)]
      omega
    rw [if_pos h1, if_neg e]
    exact ⟨h, Nat.le_refl _, rfl⟩
  · rw [if_neg h1]
    by_cases h2 : v < nI 0
    · rw [if_pos h2]
      exact ⟨0, Nat.zero_le _, rfl⟩
    · rw [if_neg h2]
      rw [lt_le, leE, nI_I hh] at h1
      rw [lt_le, leE, nI_I (by decide)] at h2
      refine ⟨v.toInt.toNat, by omega, ?_⟩
      rw [eqE, nI_I (by omega)]
      omega
theorem saysL_ex {F : Nat → Int32} {o h : Nat} (ho : o ≤ h) (hh : h < 2147483648) : ∀ (ls : LW), ∃ k, k ≤ h ∧ saysL F (nI o) (nI h) ls = nI k
  | [] => ⟨o, ho, rfl⟩
  | (A, C) :: r => by
    show ∃ k, k ≤ h ∧ (if C = [] ∨ topL (evL F C []) = nI 1 then heldI (topL (evL F A [])) (nI h) else saysL F (nI o) (nI h) r) = nI k
    split
    · exact heldI_ex hh
    · exact saysL_ex ho hh r
/-- a law in the reference's row, with its names -/
def LK (w : Nat → Int32) (k : Nat) (ok : Nat → Bool) (ls : LW) : Prop := LWR w k ls ∧ nmW ok ls
def okV (s : Nat) : Bool := decide (1 ≤ s ∧ s ≤ 10)
def okM (s : Nat) : Bool := decide (s = 1 ∨ s = 2 ∨ s = 3 ∨ s = 4 ∨ s = 9 ∨ s = 11 ∨ s = 12)
/-- what the law of votes asks -/
def FV (w : Nat → Int32) (t f a : Nat) (s : Nat) : Int32 :=
  if s = 1 then w (10 + 20 * t + 10) else if s = 2 then w (10 + 20 * t + 13) else if s = 3 then w (10 + 20 * t + 12) else if s = 4 then w (10 + 20 * t + 11) else if s = 9 then w 1
  else if s = 5 then nI (far w (tg w f a) t + 1) else if s = 6 then nI a else if s = 7 then (if fd w f 5 = 2 ^ a then nI (fd w f 6) else nI 0) else if s = 8 then nI (bt (twc w f) t) else nI f
/-- what the law of moves asks -/
def FM (w : Nat → Int32) (t : Nat) (s : Nat) : Int32 :=
  if s = 1 then w (10 + 20 * t + 10) else if s = 2 then w (10 + 20 * t + 13) else if s = 3 then w (10 + 20 * t + 12) else if s = 4 then w (10 + 20 * t + 11) else if s = 9 then w 1
  else if s = 11 then nI (fd w t 15) else nI t
/-- votes of town t for arm a of fork f -/
def vt (V : LW) (w : Nat → Int32) (t f a : Nat) : Nat := if (bha w f a).testBit t = true then ix (saysL (FV w t f a) (nI (fd w t 10)) (nI (fd w t 10)) V) else 0
/-- who moves from town t -/
def mv (M : LW) (w : Nat → Int32) (t : Nat) : Nat := if fd w t 17 = 1 then 0 else ix (saysL (FM w t) (nI (fd w t 10 / 10)) (nI (fd w t 10)) M)
theorem wi_x {w : Nat → Int32} (h : WI w) {n : Nat} (hn : n < 16) :
    (w (10 + 20 * n + 5) = nI (fd w n 5) ∧ fd w n 5 ≤ 7) ∧ (w (10 + 20 * n + 6) = nI (fd w n 6) ∧ fd w n 6 ≤ 99) ∧ (w (10 + 20 * n + 7) = nI (fd w n 7) ∧ fd w n 7 ≤ 999) ∧ (w (10 + 20 * n + 8) = nI (fd w n 8) ∧ fd w n 8 ≤ 999) ∧ (w (10 + 20 * n + 9) = nI (fd w n 9) ∧ fd w n 9 ≤ 999) := (wi_f h hn).2.1
theorem wi_y {w : Nat → Int32} (h : WI w) {n : Nat} (hn : n < 16) :
    (w (10 + 20 * n + 10) = nI (fd w n 10) ∧ fd w n 10 ≤ 6000000) ∧ (w (10 + 20 * n + 11) = nI (fd w n 11) ∧ fd w n 11 ≤ 999) ∧ (w (10 + 20 * n + 12) = nI (fd w n 12) ∧ fd w n 12 ≤ 1998) ∧ (w (10 + 20 * n + 13) = nI (fd w n 13) ∧ fd w n 13 ≤ 99) ∧ (w (10 + 20 * n + 14) = nI (fd w n 14) ∧ fd w n 14 ≤ 9) ∧ (w (10 + 20 * n + 15) = nI (fd w n 15) ∧ fd w n 15 ≤ 9) ∧ (w (10 + 20 * n + 16) = nI (fd w n 16) ∧ fd w n 16 ≤ 50 * fd w n 15) ∧ (w (10 + 20 * n + 17) = nI (fd w n 17) ∧ fd w n 17 ≤ 1) := (wi_f h hn).2.2.1
theorem vt_I {V : LW} {w : Nat → Int32} (h : WI w) {t f a : Nat} (ht : t < 16) : vt V w t f a ≤ fd w t 10 ∧ ((bha w f a).testBit t = true → saysL (FV w t f a) (nI (fd w t 10)) (nI (fd w t 10)) V = nI (vt V w t f a)) := by
  have hy := (wi_y h ht).1
  obtain ⟨k, h1, h2⟩ := saysL_ex (F := FV w t f a) (Nat.le_refl (fd w t 10)) (show fd w t 10 < 2147483648 by omega) V
  unfold vt
  rw [h2, ix_nI (by omega)]
  refine ⟨?_, fun e => by rw [if_pos e]⟩
  split <;> omega
theorem mv_I {M : LW} {w : Nat → Int32} (h : WI w) {t : Nat} (ht : t < 16) : mv M w t ≤ fd w t 10 ∧ (fd w t 17 ≠ 1 → saysL (FM w t) (nI (fd w t 10 / 10)) (nI (fd w t 10)) M = nI (mv M w t)) := by
  have hy := (wi_y h ht).1
  obtain ⟨k, h1, h2⟩ := saysL_ex (F := FM w t) (Nat.div_le_self (fd w t 10) 10) (show fd w t 10 < 2147483648 by omega) M
  unfold mv
  rw [h2, ix_nI (by omega)]
  refine ⟨?_, fun e => by rw [if_neg e]⟩
  split <;> omega
theorem nI_div {a b : Nat} (ha : a < 2147483648) (hb : b < 2147483648) : nI a / nI b = nI (a / b) := by
  rw [eqE, Int32.toInt_div, nI_I ha, nI_I hb, nI_I (Nat.lt_of_le_of_lt (Nat.div_le_self a b) ha), Int.tdiv_eq_ediv_of_nonneg (Int.natCast_nonneg a), ← Int.natCast_ediv, Int.bmod_def]
  have := Nat.div_le_self a b
  generalize a / b = x at *
  have e : ((x : Nat) : Int) % (2 ^ 32 : Nat) = (x : Nat) := Int.emod_eq_of_lt (by omega) (by omega)
  rw [e, if_pos (by omega)]
theorem nI_ne {a : Nat} (h0 : 0 < a) (h : a < 2147483648) : nI a ≠ 0 := fun e => by
  rw [nI_n0, nI_eqE h (by decide)] at e
  omega
theorem tb_0 {B n : Nat} : (bt B n = 0) = (B.testBit n = false) := by
  rw [bt_t]
  cases B.testBit n <;> simp
theorem tb_1 {B n : Nat} : (bt B n = 1) = (B.testBit n = true) := by
  rw [bt_t]
  cases B.testBit n <;> simp
theorem bt_l {B n : Nat} : bt B n ≤ 1 := by
  rw [bt_t]
  split <;> omega
section MG
variable {d : Nat} {g : Nat → Nat → Int32} {q : Nat → Nat → Int64} {P : QT}
theorem s_lawSays {k : Nat} (hk : k < 2) {o m : Int32} {ls : LW} {ok : Nat → Bool} {F : Nat → Int32} (hL : LK (g 197) k ok ls) (hF : ∀ s, ok s = true → g 206 s = F s) (H : ∀ g', fr [205] g g' → P (some (.int (saysL F o m ls))) (E g' q)) :
    callC (ev (d + 4)) mo_lawSays [.ref 196, .int (nI k), .int o, .int m] (E g q) P := by
  refine in_mo_lawSays rfl ?_
  simp -implicitDefEqProofs (disch := first | assumption | omega) only [szS_0, szS_i, szS_r, szS_l, x_cons, x_goto, ob_some, kl_i, kl_r, kl_l, kl_n, push_n, push_s, pop_0, pop_i, pop_r, Int.reduceToNat, List.length_cons, List.length_nil, Nat.reduceAdd, Nat.reduceLeDiff, Nat.zero_add, true_and, nI_n0, nat_le, Nat.add_zero, i_1, rt_mo_lawSays, x_al0, x_call, x_getf, x_goto, x_iadd, x_iaload, x_iceq, x_icge, x_icne, x_il1, x_il2, x_il3, x_il4, x_imul, x_inc4, x_iret, x_is4, x_ldc, b_mo_lawSays_0, b_mo_lawSays_82, b_mo_lawSays_115, b_mo_lawSays_121, nI_mul]
  have e0 : E g q = E (upw g 205 (g 205)) q := by rw [upw_g]
  rw [e0]
  refine ls_lp hk hL.1.2.1 hL.1.1 ls 0 (g 205) (Nat.zero_add _) hL.1.2.2 fun r' => ?_
  rw [saysL_c hF ls hL.2]
  exact H _ (fr_w rfl fr_r)
def tfR (w : Nat → Int32) (t : Nat) (r : Nat → Int32) : Nat → Int32 := fun j => if j = 9 then w 1 else if j = 4 then w (10 + 20 * t + 11) else if j = 3 then w (10 + 20 * t + 12) else if j = 2 then w (10 + 20 * t + 13) else if j = 1 then w (10 + 20 * t + 10) else r j
theorem s_townFacts {t : Nat} (ht : t < 16) : callC (ev (d + 2)) mo_townFacts [.ref 196, .int (nI t)] (E g q) P = P none (E (upw g 206 (tfR (g 197) t (g 206))) q) := by
  refine call_eq (in_mo_townFacts rfl ?_)
  simp -implicitDefEqProofs (disch := first | assumption | omega) only [szS_0, szS_i, szS_r, szS_l, x_cons, x_goto, ob_some, kl_i, kl_r, kl_l, kl_n, push_n, push_s, pop_0, pop_i, pop_r, Int.reduceToNat, List.length_cons, List.length_nil, Nat.reduceAdd, Nat.reduceLeDiff, Nat.zero_add, true_and, nI_n0, nat_le, Nat.add_zero, rt_mo_townFacts, x_al0, x_call, x_getf, x_iaload, x_iastore, x_il1, x_ldc, x_vret, b_mo_townFacts_0, fd_196_0, fd_196_1, fd_196_2, fd_196_3, fd_196_4, sf_196_4, fd_196_5, sf_196_5, fd_196_6, fd_196_7, fd_196_8, fd_196_9, fd_196_10, fd_196_11, fd_196_12, sf_196_12, fd_196_13, sf_196_13, fd_196_14, sf_196_14, fd_196_15, sf_196_15, fd_196_16, sf_196_16, fd_196_17, sf_196_17, fd_196_18, sf_196_18, fd_196_19, sf_196_19, fd_196_20, sf_196_20, fd_196_21, sf_196_21, fd_196_22, sf_196_22, fd_196_23, sf_196_23, fd_196_24, sf_196_24, fd_196_25, sf_196_25, fd_196_26, sf_196_26, fd_196_27, fd_196_28, fd_196_29, fd_196_30, sf_196_30, fd_196_31, fd_196_32, fd_196_33, fd_196_34, fd_196_35, fd_196_36, fd_196_37, sf_196_37, fd_196_38, fd_196_39, sf_196_39, fd_196_40, sf_196_40, fd_196_41, sf_196_41, fd_196_42, fd_196_43, fd_196_44, ld_206, sd_206, ln_206, ld_197, sd_197, ln_197, s_own, up2_g, upw_w, upw_s, upw_o]
  all_goals first | rfl | exact ⟨rfl, rfl⟩ | exact ⟨rfl, trivial⟩ | exact ⟨trivial, rfl⟩ | trivial
theorem s_isAlone {f a : Nat} (hw : WI (g 197)) (hf : f < 16) (ha : a < 3) : callC (ev (d + 2)) mo_isAlone [.ref 196, .int (nI f), .int (nI a)] (E g q) P = P (some (.int (bI (decide (fd (g 197) f 5 = 2 ^ a))))) (E g q) := by
  refine call_eq (in_mo_isAlone rfl ?_)
  have h5 := (wi_x hw hf).1
  have hp : 2 ^ a < 2 ^ 3 := Nat.pow_lt_pow_right (by decide) ha
  simp -implicitDefEqProofs (disch := first | assumption | omega) only [szS_0, szS_i, szS_r, szS_l, x_cons, x_goto, ob_some, kl_i, kl_r, kl_l, kl_n, push_n, push_s, pop_0, pop_i, pop_r, Int.reduceToNat, List.length_cons, List.length_nil, Nat.reduceAdd, Nat.reduceLeDiff, Nat.zero_add, true_and, nI_n0, nat_le, Nat.add_zero, rt_mo_isAlone_0, rt_mo_isAlone_1, rt_mo_isAlone_b, x_al0, x_call, x_goto, x_icne, x_il1, x_il2, x_iret, x_ishl, x_ldc, b_mo_isAlone_0, b_mo_isAlone_16, b_mo_isAlone_17, s_own, h5.1, nI_shl1, nI_eqE]
  by_cases e : fd (g 197) f 5 = 2 ^ a
  · simp only [e, ↓reduceIte, decide_true, bI, rt_mo_isAlone_1, and_self]
  · simp only [e, ↓reduceIte, decide_false, bI, rt_mo_isAlone_0, and_self, Bool.false_eq_true]
theorem twc_lt (w : Nat → Int32) (f : Nat) : twc w f < 65536 := Nat.lt_of_le_of_lt Nat.and_le_left (tw2_lt w f _)
theorem s_votesOf (hw : WI (g 197)) {V : LW} (hL : LK (g 197) 0 okV V) {t f a : Nat} (ht : t < 16) (hf : f < 16) (ha : a < am (g 197) f) (H : ∀ g', fr [205, 206, 207] g g' → P (some (.int (nI (vt V (g 197) t f a)))) (E g' q)) :
    callC (ev (d + 6)) mo_votesOf [.ref 196, .int (nI t), .int (nI f), .int (nI a)] (E g q) P := by
  refine in_mo_votesOf rfl ?_
  have hB := bh_lt (g 197) (tg (g 197) f a)
  have hB : bha (g 197) f a < 65536 := hB
  have hB2 := twc_lt (g 197) f
  have ham := am_le hw hf
  have htg := tg_lt hw hf ha
  have ha3 : a < 3 := by omega
  have hbl := bt_l (B := bha (g 197) f a) (n := t)
  have h0 := wi_n hw
  rw [b_mo_votesOf_0]
  simp -implicitDefEqProofs (disch := first | assumption | omega) only [szS_0, szS_i, szS_r, szS_l, x_cons, x_goto, ob_some, kl_i, kl_r, kl_l, kl_n, push_n, push_s, pop_0, pop_i, pop_r, Int.reduceToNat, List.length_cons, List.length_nil, Nat.reduceAdd, Nat.reduceLeDiff, Nat.zero_add, true_and, nI_n0, nat_le, Nat.add_zero, rt_mo_votesOf, x_al0, x_call, x_getf, x_goto, x_iand, x_iastore, x_ifeq, x_ifne, x_il1, x_il2, x_il3, x_iret, x_ishr, x_ldc, s_behind, nI_bt, nI_eqE, tb_0]
  by_cases hb : (bha (g 197) f a).testBit t = true
  · have hv := vt_I hw (V := V) (f := f) (a := a) ht
    simp only [hb, Bool.true_eq_false, ↓reduceIte]
    rw [b_mo_votesOf_15]
    simp -implicitDefEqProofs (disch := first | assumption | omega) only [szS_0, szS_i, szS_r, szS_l, x_cons, x_goto, ob_some, kl_i, kl_r, kl_l, kl_n, push_n, push_s, pop_0, pop_i, pop_r, Int.reduceToNat, List.length_cons, List.length_nil, Nat.reduceAdd, Nat.reduceLeDiff, Nat.zero_add, true_and, nI_n0, nat_le, Nat.add_zero, rt_mo_votesOf, x_al0, x_call, x_getf, x_goto, x_iand, x_iastore, x_ifeq, x_ifne, x_il1, x_il2, x_il3, x_iret, x_ishr, x_ldc, fd_196_0, fd_196_1, fd_196_2, fd_196_3, fd_196_4, sf_196_4, fd_196_5, sf_196_5, fd_196_6, fd_196_7, fd_196_8, fd_196_9, fd_196_10, fd_196_11, fd_196_12, sf_196_12, fd_196_13, sf_196_13, fd_196_14, sf_196_14, fd_196_15, sf_196_15, fd_196_16, sf_196_16, fd_196_17, sf_196_17, fd_196_18, sf_196_18, fd_196_19, sf_196_19, fd_196_20, sf_196_20, fd_196_21, sf_196_21, fd_196_22, sf_196_22, fd_196_23, sf_196_23, fd_196_24, sf_196_24, fd_196_25, sf_196_25, fd_196_26, sf_196_26, fd_196_27, fd_196_28, fd_196_29, fd_196_30, sf_196_30, fd_196_31, fd_196_32, fd_196_33, fd_196_34, fd_196_35, fd_196_36, fd_196_37, sf_196_37, fd_196_38, fd_196_39, sf_196_39, fd_196_40, sf_196_40, fd_196_41, sf_196_41, fd_196_42, fd_196_43, fd_196_44, s_townFacts]
    have hw1 : WI (upw g 206 (tfR (g 197) t (g 206)) 197) := by
      rw [upw_o (by decide)]
      exact hw
    refine s_far hw1 hf (by rw [upw_o (by decide)]; exact ha) ht (by rw [upw_o (by decide)]; exact (bh_t hw (by omega)).mp hb) fun r => ?_
    rw [upw_o (by decide)]
    obtain ⟨g1, e1⟩ : ∃ g1, g1 = upw (upw g 206 (tfR (g 197) t (g 206))) 207 r := ⟨_, rfl⟩
    have e197 : g1 197 = g 197 := by rw [e1, upw_o (by decide), upw_o (by decide)]
    have e206 : g1 206 = tfR (g 197) t (g 206) := by rw [e1, upw_o (by decide), upw_s]
    have f1 : fr [205, 206, 207] g g1 := by
      rw [e1]
      exact fr_w rfl (fr_w rfl fr_r)
    rw [← e1]
    have hw2 : ∀ r, WI (upw g1 206 r 197) := fun r => by
      rw [upw_o (by decide), e197]
      exact hw
    have h6 := (wi_x hw hf).2.1
    have h10 := (wi_y hw ht).1
    have fin : ∀ x, x = (if fd (g 197) f 5 = 2 ^ a then nI (fd (g 197) f 6) else nI 0) → wp (ev (d + 5)) P mo_votesOf 67 [some (.ref 196), some (.int (nI t)), some (.int (nI f)), some (.int (nI a))] [.int x, .int (nI 7), .ref 206] (E (upw g1 206 (fun j => if j = 6 then nI a else if j = 5 then nI (far (g 197) (tg (g 197) f a) t + 1) else tfR (g 197) t (g 206) j)) q) := by
      intro x hx
      rw [b_mo_votesOf_67]
      simp -implicitDefEqProofs (disch := first | assumption | omega | exact hw2 _) only [szS_0, szS_i, szS_r, szS_l, x_cons, x_goto, ob_some, kl_i, kl_r, kl_l, kl_n, push_n, push_s, pop_0, pop_i, pop_r, Int.reduceToNat, List.length_cons, List.length_nil, Nat.reduceAdd, Nat.reduceLeDiff, Nat.zero_add, true_and, nI_n0, nat_le, Nat.add_zero, rt_mo_votesOf, x_al0, x_call, x_getf, x_goto, x_iand, x_iastore, x_ifeq, x_ifne, x_il1, x_il2, x_il3, x_iret, x_ishr, x_ldc, fd_196_0, fd_196_1, fd_196_2, fd_196_3, fd_196_4, sf_196_4, fd_196_5, sf_196_5, fd_196_6, fd_196_7, fd_196_8, fd_196_9, fd_196_10, fd_196_11, fd_196_12, sf_196_12, fd_196_13, sf_196_13, fd_196_14, sf_196_14, fd_196_15, sf_196_15, fd_196_16, sf_196_16, fd_196_17, sf_196_17, fd_196_18, sf_196_18, fd_196_19, sf_196_19, fd_196_20, sf_196_20, fd_196_21, sf_196_21, fd_196_22, sf_196_22, fd_196_23, sf_196_23, fd_196_24, sf_196_24, fd_196_25, sf_196_25, fd_196_26, sf_196_26, fd_196_27, fd_196_28, fd_196_29, fd_196_30, sf_196_30, fd_196_31, fd_196_32, fd_196_33, fd_196_34, fd_196_35, fd_196_36, fd_196_37, sf_196_37, fd_196_38, fd_196_39, sf_196_39, fd_196_40, sf_196_40, fd_196_41, sf_196_41, fd_196_42, fd_196_43, fd_196_44, ld_206, sd_206, ln_206, s_twiceOf, up2_g, upw_w, upw_s, upw_o, e197, nI_bt, s_own, h10.1]
      refine s_lawSays (k := 0) (by decide) (ls := V) (ok := okV) (F := FV (g 197) t f a) (by rw [upw_o (by decide), e197]; exact hL) (fun s hs => ?_) fun g' hg' => ?_
      · rw [upw_s]
        have hs := of_decide_eq_true hs
        have : s = 1 ∨ s = 2 ∨ s = 3 ∨ s = 4 ∨ s = 5 ∨ s = 6 ∨ s = 7 ∨ s = 8 ∨ s = 9 ∨ s = 10 := by omega
        rcases this with rfl | rfl | rfl | rfl | rfl | rfl | rfl | rfl | rfl | rfl <;> simp only [FV, tfR, hx, Nat.reduceEqDiff, ↓reduceIte]
      · rw [hv.2 hb]
        simp -implicitDefEqProofs (disch := first | assumption | omega) only [szS_0, szS_i, szS_r, szS_l, x_cons, x_goto, ob_some, kl_i, kl_r, kl_l, kl_n, push_n, push_s, pop_0, pop_i, pop_r, Int.reduceToNat, List.length_cons, List.length_nil, Nat.reduceAdd, Nat.reduceLeDiff, Nat.zero_add, true_and, nI_n0, nat_le, Nat.add_zero, rt_mo_votesOf, x_al0, x_call, x_getf, x_goto, x_iand, x_iastore, x_ifeq, x_ifne, x_il1, x_il2, x_il3, x_iret, x_ishr, x_ldc]
        exact H g' (fr_t f1 (fr_t (fr_w rfl fr_r) (fr_m rfl hg')))
    simp -implicitDefEqProofs (disch := first | assumption | omega | exact hw2 _) only [szS_0, szS_i, szS_r, szS_l, x_cons, x_goto, ob_some, kl_i, kl_r, kl_l, kl_n, push_n, push_s, pop_0, pop_i, pop_r, Int.reduceToNat, List.length_cons, List.length_nil, Nat.reduceAdd, Nat.reduceLeDiff, Nat.zero_add, true_and, nI_n0, nat_le, Nat.add_zero, rt_mo_votesOf, x_al0, x_call, x_getf, x_goto, x_iand, x_iastore, x_ifeq, x_ifne, x_il1, x_il2, x_il3, x_iret, x_ishr, x_ldc, fd_196_0, fd_196_1, fd_196_2, fd_196_3, fd_196_4, sf_196_4, fd_196_5, sf_196_5, fd_196_6, fd_196_7, fd_196_8, fd_196_9, fd_196_10, fd_196_11, fd_196_12, sf_196_12, fd_196_13, sf_196_13, fd_196_14, sf_196_14, fd_196_15, sf_196_15, fd_196_16, sf_196_16, fd_196_17, sf_196_17, fd_196_18, sf_196_18, fd_196_19, sf_196_19, fd_196_20, sf_196_20, fd_196_21, sf_196_21, fd_196_22, sf_196_22, fd_196_23, sf_196_23, fd_196_24, sf_196_24, fd_196_25, sf_196_25, fd_196_26, sf_196_26, fd_196_27, fd_196_28, fd_196_29, fd_196_30, sf_196_30, fd_196_31, fd_196_32, fd_196_33, fd_196_34, fd_196_35, fd_196_36, fd_196_37, sf_196_37, fd_196_38, fd_196_39, sf_196_39, fd_196_40, sf_196_40, fd_196_41, sf_196_41, fd_196_42, fd_196_43, fd_196_44, ld_206, sd_206, ln_206, up2_g, upw_w, upw_s, e206, s_isAlone, upw_o, e197, bI_0]
    by_cases h5 : fd (g 197) f 5 = 2 ^ a
    · simp -implicitDefEqProofs (disch := first | assumption | omega) only [h5, decide_true, Bool.true_eq_false, ↓reduceIte, s_own, upw_o, e197, szS_0, szS_i, szS_r, szS_l, x_cons, x_goto, ob_some, kl_i, kl_r, kl_l, kl_n, push_n, push_s, pop_0, pop_i, pop_r, Int.reduceToNat, List.length_cons, List.length_nil, Nat.reduceAdd, Nat.reduceLeDiff, Nat.zero_add, true_and, nI_n0, nat_le, Nat.add_zero, rt_mo_votesOf, x_al0, x_call, x_getf, x_goto, x_iand, x_iastore, x_ifeq, x_ifne, x_il1, x_il2, x_il3, x_iret, x_ishr, x_ldc, h6.1]
      exact fin _ (if_pos h5).symm
    · simp -implicitDefEqProofs (disch := first | assumption | omega) only [h5, decide_false, ↓reduceIte]
      rw [b_mo_votesOf_66]
      simp -implicitDefEqProofs (disch := first | assumption | omega) only [szS_0, szS_i, szS_r, szS_l, x_cons, x_goto, ob_some, kl_i, kl_r, kl_l, kl_n, push_n, push_s, pop_0, pop_i, pop_r, Int.reduceToNat, List.length_cons, List.length_nil, Nat.reduceAdd, Nat.reduceLeDiff, Nat.zero_add, true_and, nI_n0, nat_le, Nat.add_zero, rt_mo_votesOf, x_al0, x_call, x_getf, x_goto, x_iand, x_iastore, x_ifeq, x_ifne, x_il1, x_il2, x_il3, x_iret, x_ishr, x_ldc]
      exact fin _ (if_neg h5).symm
  · rw [Bool.not_eq_true] at hb
    simp only [hb, ↓reduceIte]
    try simp -implicitDefEqProofs (disch := first | assumption | omega) only [szS_0, szS_i, szS_r, szS_l, x_cons, x_goto, ob_some, kl_i, kl_r, kl_l, kl_n, push_n, push_s, pop_0, pop_i, pop_r, Int.reduceToNat, List.length_cons, List.length_nil, Nat.reduceAdd, Nat.reduceLeDiff, Nat.zero_add, true_and, nI_n0, nat_le, Nat.add_zero, rt_mo_votesOf, x_al0, x_call, x_getf, x_goto, x_iand, x_iastore, x_ifeq, x_ifne, x_il1, x_il2, x_il3, x_iret, x_ishr, x_ldc]
    have : vt V (g 197) t f a = 0 := by
      unfold vt
      rw [hb]
      rfl
    rw [this] at H
    exact H g fr_r
theorem s_movers (hw : WI (g 197)) {M : LW} (hL : LK (g 197) 1 okM M) {t : Nat} (ht : t < 16) (H : ∀ g', fr [205, 206, 207] g g' → P (some (.int (nI (mv M (g 197) t)))) (E g' q)) :
    callC (ev (d + 5)) mo_movers [.ref 196, .int (nI t)] (E g q) P := by
  refine in_mo_movers rfl ?_
  have hy := wi_y hw ht
  have h17 := hy.2.2.2.2.2.2.2
  have h15 := hy.2.2.2.2.2.1
  have h10 := hy.1
  rw [b_mo_movers_0]
  simp -implicitDefEqProofs (disch := first | assumption | omega) only [szS_0, szS_i, szS_r, szS_l, x_cons, x_goto, ob_some, kl_i, kl_r, kl_l, kl_n, push_n, push_s, pop_0, pop_i, pop_r, Int.reduceToNat, List.length_cons, List.length_nil, Nat.reduceAdd, Nat.reduceLeDiff, Nat.zero_add, true_and, nI_n0, nat_le, Nat.add_zero, rt_mo_movers, x_al0, x_call, x_getf, x_iastore, x_icne, x_idiv, x_il1, x_iret, x_ldc, s_own, h17.1, nI_eqE]
  by_cases hb : fd (g 197) t 17 = 1
  · simp only [hb, ↓reduceIte]
    try simp -implicitDefEqProofs (disch := first | assumption | omega) only [szS_0, szS_i, szS_r, szS_l, x_cons, x_goto, ob_some, kl_i, kl_r, kl_l, kl_n, push_n, push_s, pop_0, pop_i, pop_r, Int.reduceToNat, List.length_cons, List.length_nil, Nat.reduceAdd, Nat.reduceLeDiff, Nat.zero_add, true_and, nI_n0, nat_le, Nat.add_zero, rt_mo_movers, x_al0, x_call, x_getf, x_iastore, x_icne, x_idiv, x_il1, x_iret, x_ldc]
    have : mv M (g 197) t = 0 := if_pos hb
    rw [this] at H
    exact H g fr_r
  · have hv := mv_I hw (M := M) ht
    have z10 := nI_ne (a := 10) (by decide) (by decide)
    simp only [hb, ↓reduceIte]
    rw [b_mo_movers_13]
    simp -implicitDefEqProofs (disch := first | assumption | omega) only [szS_0, szS_i, szS_r, szS_l, x_cons, x_goto, ob_some, kl_i, kl_r, kl_l, kl_n, push_n, push_s, pop_0, pop_i, pop_r, Int.reduceToNat, List.length_cons, List.length_nil, Nat.reduceAdd, Nat.reduceLeDiff, Nat.zero_add, true_and, nI_n0, nat_le, Nat.add_zero, rt_mo_movers, x_al0, x_call, x_getf, x_iastore, x_icne, x_idiv, x_il1, x_iret, x_ldc, fd_196_0, fd_196_1, fd_196_2, fd_196_3, fd_196_4, sf_196_4, fd_196_5, sf_196_5, fd_196_6, fd_196_7, fd_196_8, fd_196_9, fd_196_10, fd_196_11, fd_196_12, sf_196_12, fd_196_13, sf_196_13, fd_196_14, sf_196_14, fd_196_15, sf_196_15, fd_196_16, sf_196_16, fd_196_17, sf_196_17, fd_196_18, sf_196_18, fd_196_19, sf_196_19, fd_196_20, sf_196_20, fd_196_21, sf_196_21, fd_196_22, sf_196_22, fd_196_23, sf_196_23, fd_196_24, sf_196_24, fd_196_25, sf_196_25, fd_196_26, sf_196_26, fd_196_27, fd_196_28, fd_196_29, fd_196_30, sf_196_30, fd_196_31, fd_196_32, fd_196_33, fd_196_34, fd_196_35, fd_196_36, fd_196_37, sf_196_37, fd_196_38, fd_196_39, sf_196_39, fd_196_40, sf_196_40, fd_196_41, sf_196_41, fd_196_42, fd_196_43, fd_196_44, ld_206, sd_206, ln_206, s_townFacts, s_own, up2_g, upw_w, upw_s, upw_o, h10.1, nI_div]
    refine s_lawSays (k := 1) (by decide) (ls := M) (ok := okM) (F := FM (g 197) t) (by rw [upw_o (by decide)]; exact hL) (fun s hs => ?_) fun g' hg' => ?_
    · rw [upw_s]
      have hs := of_decide_eq_true hs
      rcases hs with rfl | rfl | rfl | rfl | rfl | rfl | rfl <;> simp only [FM, tfR, h15.1, Nat.reduceEqDiff, ↓reduceIte]
    · rw [hv.2 hb]
      simp -implicitDefEqProofs (disch := first | assumption | omega) only [szS_0, szS_i, szS_r, szS_l, x_cons, x_goto, ob_some, kl_i, kl_r, kl_l, kl_n, push_n, push_s, pop_0, pop_i, pop_r, Int.reduceToNat, List.length_cons, List.length_nil, Nat.reduceAdd, Nat.reduceLeDiff, Nat.zero_add, true_and, nI_n0, nat_le, Nat.add_zero, rt_mo_movers, x_al0, x_call, x_getf, x_iastore, x_icne, x_idiv, x_il1, x_iret, x_ldc]
      exact H g' (fr_t (fr_w rfl fr_r) (fr_m rfl hg'))
/-- votes for an arm of the towns from f + 1 on, below n -/
def vsum (V : LW) (w : Nat → Int32) (f a : Nat) : Nat → Nat
  | 0 => 0
  | n + 1 => vsum V w f a n + (if f < n ∧ fd w n 0 = 1 then vt V w n f a else 0)
theorem vsum_le {V : LW} {w : Nat → Int32} (h : WI w) {f a : Nat} : ∀ n, n ≤ 16 → vsum V w f a n ≤ sumH w n
  | 0, _ => Nat.le_refl _
  | n + 1, hn => by
    have h1 := vsum_le h (V := V) (f := f) (a := a) n (by omega)
    have h2 := (vt_I h (V := V) (t := n) (f := f) (a := a) (by omega)).1
    unfold vsum sumH
    split <;> omega
theorem vsum_0 {V : LW} {w : Nat → Int32} {f a : Nat} : ∀ n, n ≤ f + 1 → vsum V w f a n = 0
  | 0, _ => rfl
  | n + 1, hn => by
    unfold vsum
    rw [vsum_0 n (by omega), if_neg (by omega)]
theorem sumH_m {w : Nat → Int32} : ∀ {n m : Nat}, n ≤ m → sumH w n ≤ sumH w m := by
  intro n m h
  induction m with
  | zero =>
    rw [Nat.le_zero.mp h]
    exact Nat.le_refl _
  | succ m ih =>
    by_cases e : n = m + 1
    · rw [e]
      exact Nat.le_refl _
    · have := ih (by omega)
      show sumH w n ≤ sumH w m + _
      omega
theorem vsum_b {V : LW} {w : Nat → Int32} (h : WI w) {f a n : Nat} (hn : n ≤ 16) : vsum V w f a n ≤ 6000000 := by
  have h1 := vsum_le h (V := V) (f := f) (a := a) n hn
  have h2 := sumH_m (w := w) hn
  have h3 : sumH w 16 ≤ 6000000 := h.2.2.2.2
  omega
def vfor (V : LW) (w : Nat → Int32) (f a : Nat) : Nat := vsum V w f a (nn w)
theorem vf_lp {w : Nat → Int32} (hw : WI w) {V : LW} (hL : LK w 0 okV V) {f a : Nat} (hf : f < 16) (ha : a < am w f) {g0 : Nat → Nat → Int32} (H : ∀ g', fr [205, 206, 207] g0 g' → P (some (.int (nI (vfor V w f a)))) (E g' q)) : ∀ (j n : Nat) (g : Nat → Nat → Int32), n + j = nn w → f < n → g 197 = w → fr [205, 206, 207] g0 g →
    wp (ev (d + 6)) P mo_votesFor 7 [some (.ref 196), some (.int (nI f)), some (.int (nI a)), some (.int (nI (vsum V w f a n))), some (.int (nI n))] [] (E g q) := by
  have h0 := wi_n hw
  intro j
  induction j with
  | zero =>
    intro n g hn hfn hg hr
    have hn : n = nn w := hn
    subst hg
    rw [b_mo_votesFor_7]
    simp -implicitDefEqProofs (disch := first | assumption | omega) only [szS_0, szS_i, szS_r, szS_l, x_cons, x_goto, ob_some, kl_i, kl_r, kl_l, kl_n, push_n, push_s, pop_0, pop_i, pop_r, Int.reduceToNat, List.length_cons, List.length_nil, Nat.reduceAdd, Nat.reduceLeDiff, Nat.zero_add, true_and, nI_n0, nat_le, Nat.add_zero, i_1, rt_mo_votesFor, x_al0, x_call, x_getf, x_goto, x_iadd, x_iaload, x_icge, x_ifeq, x_il1, x_il2, x_il3, x_il4, x_inc4, x_iret, x_is3, x_is4, x_ldc, b_mo_votesFor_0, b_mo_votesFor_39, b_mo_votesFor_40, b_mo_votesFor_48, fd_196_0, fd_196_1, fd_196_2, fd_196_3, fd_196_4, sf_196_4, fd_196_5, sf_196_5, fd_196_6, fd_196_7, fd_196_8, fd_196_9, fd_196_10, fd_196_11, fd_196_12, sf_196_12, fd_196_13, sf_196_13, fd_196_14, sf_196_14, fd_196_15, sf_196_15, fd_196_16, sf_196_16, fd_196_17, sf_196_17, fd_196_18, sf_196_18, fd_196_19, sf_196_19, fd_196_20, sf_196_20, fd_196_21, sf_196_21, fd_196_22, sf_196_22, fd_196_23, sf_196_23, fd_196_24, sf_196_24, fd_196_25, sf_196_25, fd_196_26, sf_196_26, fd_196_27, fd_196_28, fd_196_29, fd_196_30, sf_196_30, fd_196_31, fd_196_32, fd_196_33, fd_196_34, fd_196_35, fd_196_36, fd_196_37, sf_196_37, fd_196_38, fd_196_39, sf_196_39, fd_196_40, sf_196_40, fd_196_41, sf_196_41, fd_196_42, fd_196_43, fd_196_44, ld_197, sd_197, ln_197, h0.1, nI_ltE, hn, Nat.lt_irrefl, ↓reduceIte]
    exact H g hr
  | succ j ih =>
    intro n g hn hfn hg hr
    have hn' : n < nn w := by omega
    have hi := fun g1 => ih (n + 1) g1 (by omega) (by omega)
    subst hg
    have e1 : vsum V (g 197) f a (n + 1) = vsum V (g 197) f a n + (if f < n ∧ fd (g 197) n 0 = 1 then vt V (g 197) n f a else 0) := rfl
    rw [b_mo_votesFor_7]
    simp -implicitDefEqProofs (disch := first | assumption | omega) only [szS_0, szS_i, szS_r, szS_l, x_cons, x_goto, ob_some, kl_i, kl_r, kl_l, kl_n, push_n, push_s, pop_0, pop_i, pop_r, Int.reduceToNat, List.length_cons, List.length_nil, Nat.reduceAdd, Nat.reduceLeDiff, Nat.zero_add, true_and, nI_n0, nat_le, Nat.add_zero, i_1, rt_mo_votesFor, x_al0, x_call, x_getf, x_goto, x_iadd, x_iaload, x_icge, x_ifeq, x_il1, x_il2, x_il3, x_il4, x_inc4, x_iret, x_is3, x_is4, x_ldc, fd_196_0, fd_196_1, fd_196_2, fd_196_3, fd_196_4, sf_196_4, fd_196_5, sf_196_5, fd_196_6, fd_196_7, fd_196_8, fd_196_9, fd_196_10, fd_196_11, fd_196_12, sf_196_12, fd_196_13, sf_196_13, fd_196_14, sf_196_14, fd_196_15, sf_196_15, fd_196_16, sf_196_16, fd_196_17, sf_196_17, fd_196_18, sf_196_18, fd_196_19, sf_196_19, fd_196_20, sf_196_20, fd_196_21, sf_196_21, fd_196_22, sf_196_22, fd_196_23, sf_196_23, fd_196_24, sf_196_24, fd_196_25, sf_196_25, fd_196_26, sf_196_26, fd_196_27, fd_196_28, fd_196_29, fd_196_30, sf_196_30, fd_196_31, fd_196_32, fd_196_33, fd_196_34, fd_196_35, fd_196_36, fd_196_37, sf_196_37, fd_196_38, fd_196_39, sf_196_39, fd_196_40, sf_196_40, fd_196_41, sf_196_41, fd_196_42, fd_196_43, fd_196_44, ld_197, sd_197, ln_197, h0.1, nI_ltE, hn', ↓reduceIte, s_isTown, bI_0, townB_nI, decide_true, Bool.true_and]
    by_cases e : fd (g 197) n 0 = 1
    · simp -implicitDefEqProofs (disch := first | assumption | omega) only [e, decide_true, Bool.true_eq_false, ↓reduceIte]
      refine s_votesOf hw hL (by omega) hf ha fun g' hg' => ?_
      rw [if_pos ⟨hfn, e⟩] at e1
      simp -implicitDefEqProofs (disch := first | assumption | omega) only [szS_0, szS_i, szS_r, szS_l, x_cons, x_goto, ob_some, kl_i, kl_r, kl_l, kl_n, push_n, push_s, pop_0, pop_i, pop_r, Int.reduceToNat, List.length_cons, List.length_nil, Nat.reduceAdd, Nat.reduceLeDiff, Nat.zero_add, true_and, nI_n0, nat_le, Nat.add_zero, i_1, rt_mo_votesFor, x_al0, x_call, x_getf, x_goto, x_iadd, x_iaload, x_icge, x_ifeq, x_il1, x_il2, x_il3, x_il4, x_inc4, x_iret, x_is3, x_is4, x_ldc, b_mo_votesFor_40, nI_add]
      have := hi g' (fr_a hg' rfl) (fr_t hr hg')
      rw [e1] at this
      exact this
    · simp -implicitDefEqProofs (disch := first | assumption | omega) only [e, decide_false, ↓reduceIte]
      rw [if_neg (fun h => e h.2)] at e1
      simp -implicitDefEqProofs (disch := first | assumption | omega) only [szS_0, szS_i, szS_r, szS_l, x_cons, x_goto, ob_some, kl_i, kl_r, kl_l, kl_n, push_n, push_s, pop_0, pop_i, pop_r, Int.reduceToNat, List.length_cons, List.length_nil, Nat.reduceAdd, Nat.reduceLeDiff, Nat.zero_add, true_and, nI_n0, nat_le, Nat.add_zero, i_1, rt_mo_votesFor, x_al0, x_call, x_getf, x_goto, x_iadd, x_iaload, x_icge, x_ifeq, x_il1, x_il2, x_il3, x_il4, x_inc4, x_iret, x_is3, x_is4, x_ldc, b_mo_votesFor_39, b_mo_votesFor_40, nI_add]
      have := hi g rfl hr
      rw [e1] at this
      exact this
theorem s_votesFor (hw : WI (g 197)) {V : LW} (hL : LK (g 197) 0 okV V) {f a : Nat} (hf : f < nn (g 197)) (ha : a < am (g 197) f) (H : ∀ g', fr [205, 206, 207] g g' → P (some (.int (nI (vfor V (g 197) f a)))) (E g' q)) :
    callC (ev (d + 7)) mo_votesFor [.ref 196, .int (nI f), .int (nI a)] (E g q) P := by
  have h0 := wi_n hw
  refine in_mo_votesFor rfl ?_
  simp -implicitDefEqProofs (disch := first | assumption | omega) only [szS_0, szS_i, szS_r, szS_l, x_cons, x_goto, ob_some, kl_i, kl_r, kl_l, kl_n, push_n, push_s, pop_0, pop_i, pop_r, Int.reduceToNat, List.length_cons, List.length_nil, Nat.reduceAdd, Nat.reduceLeDiff, Nat.zero_add, true_and, nI_n0, nat_le, Nat.add_zero, i_1, rt_mo_votesFor, x_al0, x_call, x_getf, x_goto, x_iadd, x_iaload, x_icge, x_ifeq, x_il1, x_il2, x_il3, x_il4, x_inc4, x_iret, x_is3, x_is4, x_ldc, b_mo_votesFor_0, b_mo_votesFor_39, b_mo_votesFor_40, b_mo_votesFor_48, nI_add]
  have := vf_lp (d := d) hw hL (by omega) ha H (nn (g 197) - (f + 1)) (f + 1) g (by omega) (by omega) rfl fr_r
  rw [vsum_0 (f + 1) (Nat.le_refl _)] at this
  exact this
end MG
