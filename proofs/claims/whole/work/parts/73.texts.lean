/-! the texts that the two have -/
def sL (k : Nat) : Nat := lenL.getD k 0
def sB (k i : Nat) : Nat := ((bytL.getD k []).getD i 0).toInt.toNat
theorem sB_ck : ((List.range 25).all fun k => decide (sL k ≤ 100) && (List.range (sL k)).all fun i => decide ((bytL.getD k []).getD i 0 = nI (sB k i) ∧ sB k i < 128)) = true := by decide +kernel
theorem sL_l {k : Nat} (hk : k < 25) : sL k ≤ 100 := by
  have h := List.all_eq_true.mp sB_ck k (List.mem_range.mpr hk)
  rw [Bool.and_eq_true] at h
  exact of_decide_eq_true h.1
theorem sB_ok {k i : Nat} (hk : k < 25) (hi : i < sL k) : (bytL.getD k []).getD i 0 = nI (sB k i) ∧ sB k i < 128 := by
  have h := List.all_eq_true.mp sB_ck k (List.mem_range.mpr hk)
  rw [Bool.and_eq_true] at h
  exact of_decide_eq_true (List.all_eq_true.mp h.2 i (List.mem_range.mpr hi))
theorem kd_x {k : Nat} (hk : k < 25) : kd (100000 + k) = (6, k) := by
  unfold kd
  rw [if_neg (by omega), if_pos (by omega), Nat.add_sub_cancel_left]
theorem kd_y {k : Nat} (hk : k < 25) : kd (200000 + k) = (5, k) := by
  unfold kd
  rw [if_neg (by omega), if_neg (by omega), if_pos (by omega), Nat.add_sub_cancel_left]
theorem fv_x {h : Hp} {k : Nat} (hk : k < 25) : fld h (100000 + k) 9000 = some (.ref (200000 + k)) := by
  unfold fld
  rw [if_pos rfl, kd_x hk, if_pos ⟨rfl, hk⟩]
theorem fc_x {h : Hp} {k : Nat} (hk : k < 25) : fld h (100000 + k) 9001 = some (.int (nI 0)) := by
  unfold fld
  rw [if_neg (by decide), if_pos rfl, kd_x hk, if_pos ⟨rfl, hk⟩]
  rfl
theorem al_y {h : Hp} {k : Nat} (hk : k < 25) : aln h (200000 + k) = some (sL k) := by
  unfold aln
  rw [kd_y hk, if_neg (by decide : ¬ (5 : Nat) < 4), if_pos rfl, if_pos hk]
  rfl
theorem nI_cl {n : Nat} (h : n < 2147483648) : (nI n).toNatClampNeg = n := ix_nI h
theorem bl_y {h : Hp} {k i : Nat} (hk : k < 25) (hi : i < sL k) : bld h (200000 + k) (nI i) = some (.int (nI (sB k i))) := by
  have hl := sL_l hk
  unfold bld inb
  rw [al_y hk, kd_y hk]
  have e : decide ((0 : Int) ≤ (nI i).toInt ∧ (nI i).toInt < ((sL k : Nat) : Int)) = true := by
    rw [nI_I (by omega)]
    exact decide_eq_true ⟨Int.natCast_nonneg _, Int.ofNat_lt.mpr hi⟩
  show (if (5 : Nat) = 5 ∧ decide ((0 : Int) ≤ (nI i).toInt ∧ (nI i).toInt < ((sL k : Nat) : Int)) = true then _ else _) = _
  rw [if_pos ⟨rfl, e⟩, nI_cl (by omega), (sB_ok hk hi).1]
theorem rcv_x {y k : Nat} {h : Hp} {l : List Value} (hk : k < 25) (hm : mC y = 14) : rcv y (.ref (100000 + k) :: l) h = true := by
  unfold rcv
  split
  · rfl
  · show decide _ = true
    rw [kd_x hk]
    exact decide_eq_true (Or.inr (Or.inr ⟨rfl, hk, hm⟩))
theorem nc_1 : ((List.range 256).all fun b => decide ((nI b).toUInt32.toUInt16.toUInt32.toInt32 = nI b) && decide (((nI b).toUInt32 % 65536).toInt32 = nI b) && decide (b &&& 255 = b)) = true := by decide +kernel
theorem nc_ok {b : Nat} (hb : b < 256) : (nI b).toUInt32.toUInt16.toUInt32.toInt32 = nI b ∧ ((nI b).toUInt32 % 65536).toInt32 = nI b ∧ b &&& 255 = b := by
  have h := List.all_eq_true.mp nc_1 b (List.mem_range.mpr hb)
  rw [Bool.and_eq_true, Bool.and_eq_true] at h
  exact ⟨of_decide_eq_true h.1.1, of_decide_eq_true h.1.2, of_decide_eq_true h.2⟩
theorem rt_jlc {b : Nat} (hb : b < 256) : retI jl_charAt (nI b) = True := eq_true ⟨.char, by decide +kernel, congrArg Value.int (nc_ok hb).1⟩
theorem rt_jsc {b : Nat} (hb : b < 256) : retI js_charAt (nI b) = True := eq_true ⟨.char, by decide +kernel, congrArg Value.int (nc_ok hb).1⟩
theorem rt_cod : retI js_coder (nI 0) = True := eq_true ⟨.byte, by decide +kernel, by rfl⟩
section STX
variable {d : Nat} {h : Hp} {P : QT} {k : Nat}
theorem s_coder (hk : k < 25) : callC (ev (d + 1)) js_coder [.ref (100000 + k)] h P = P (some (.int (nI 0))) h := by
  refine call_eq (in_js_coder (rcv_x hk (by decide +kernel)) ?_)
  have n10 : (nI 1 = nI 0) = False := eq_false (by decide)
  have n1 : (1 : Int32) = nI 1 := rfl
  rw [b_js_coder_0]
  simp -implicitDefEqProofs (disch := first | assumption | omega) only [szS_0, szS_i, szS_r, szS_l, x_cons, x_goto, ob_some, kl_i, kl_r, kl_l, kl_n, push_n, push_s, pop_0, pop_i, pop_r, Int.reduceToNat, List.length_cons, List.length_nil, Nat.reduceAdd, Nat.reduceLeDiff, Nat.zero_add, true_and, nI_n0, nat_le, Nat.add_zero, x_al0, x_getf, x_gets1, x_goto, x_ifeq, x_iret, x_ldc, n1, n10, ↓reduceIte, fc_x hk, b_js_coder_14, rt_cod]
  all_goals first | rfl | exact ⟨rfl, rfl⟩ | exact ⟨rfl, trivial⟩ | exact ⟨trivial, rfl⟩ | trivial
theorem s_latin (hk : k < 25) : callC (ev (d + 1)) js_isLatin1 [.ref (100000 + k)] h P = P (some (.int (nI 1))) h := by
  refine call_eq (in_js_isLatin1 (rcv_x hk (by decide +kernel)) ?_)
  have n10 : (nI 1 = nI 0) = False := eq_false (by decide)
  have n1 : (1 : Int32) = nI 1 := rfl
  rw [b_js_isLatin1_0]
  simp -implicitDefEqProofs (disch := first | assumption | omega) only [szS_0, szS_i, szS_r, szS_l, x_cons, x_goto, ob_some, kl_i, kl_r, kl_l, kl_n, push_n, push_s, pop_0, pop_i, pop_r, Int.reduceToNat, List.length_cons, List.length_nil, Nat.reduceAdd, Nat.reduceLeDiff, Nat.zero_add, true_and, nI_n0, nat_le, Nat.add_zero, rt_js_isLatin1_0, rt_js_isLatin1_1, rt_js_isLatin1_b, x_al0, x_getf, x_gets1, x_goto, x_ifeq, x_ifne, x_iret, x_ldc, n1, n10, ↓reduceIte, fc_x hk, b_js_isLatin1_18]
  all_goals first | rfl | exact ⟨rfl, rfl⟩ | exact ⟨rfl, trivial⟩ | exact ⟨trivial, rfl⟩ | trivial
theorem s_len (hk : k < 25) : callC (ev (d + 2)) js_length [.ref (100000 + k)] h P = P (some (.int (nI (sL k)))) h := by
  refine call_eq (in_js_length (rcv_x hk (by decide +kernel)) ?_)
  have hl := sL_l hk
  rw [b_js_length_0]
  simp -implicitDefEqProofs (disch := first | assumption | omega) only [szS_0, szS_i, szS_r, szS_l, x_cons, x_goto, ob_some, kl_i, kl_r, kl_l, kl_n, push_n, push_s, pop_0, pop_i, pop_r, Int.reduceToNat, List.length_cons, List.length_nil, Nat.reduceAdd, Nat.reduceLeDiff, Nat.zero_add, true_and, nI_n0, nat_le, Nat.add_zero, rt_js_length, x_al0, x_alen, x_call, x_getf, x_iret, x_ishr, fv_x hk, al_y hk, s_coder hk, nI_shr, Nat.shiftRight_zero]
  all_goals first | rfl | exact ⟨rfl, rfl⟩ | exact ⟨rfl, trivial⟩ | exact ⟨trivial, rfl⟩ | trivial
theorem s_ckIdx {i n : Nat} (hi : i < n) (hn : n < 2147483648) : callC (ev (d + 2)) js_checkIndex [.int (nI i), .int (nI n)] h P = P none h := by
  refine call_eq (in_js_checkIndex rfl ?_)
  have l1 : ¬ i < 0 := by omega
  have cp : ∀ Q : QT, callC (ev (d + 1)) jp_checkIndex [.int (nI i), .int (nI n), .null] h Q = Q (some (.int (nI i))) h := fun Q => by
    refine call_eq (in_jp_checkIndex rfl ?_)
    rw [b_jp_checkIndex_0]
    simp -implicitDefEqProofs (disch := first | assumption | omega) only [szS_0, szS_i, szS_r, szS_l, x_cons, x_goto, ob_some, kl_i, kl_r, kl_l, kl_n, push_n, push_s, pop_0, pop_i, pop_r, Int.reduceToNat, List.length_cons, List.length_nil, Nat.reduceAdd, Nat.reduceLeDiff, Nat.zero_add, true_and, nI_n0, nat_le, Nat.add_zero, rt_jp_checkIndex, x_al2, x_iclt, x_iflt, x_il0, x_il1, x_iret, nI_ltE, l1, hi, ↓reduceIte, b_jp_checkIndex_16]
    all_goals first | rfl | exact ⟨rfl, rfl⟩ | exact ⟨rfl, trivial⟩ | exact ⟨trivial, rfl⟩ | trivial
  rw [b_js_checkIndex_0]
  simp -implicitDefEqProofs (disch := first | assumption | omega) only [szS_0, szS_i, szS_r, szS_l, x_cons, x_goto, ob_some, kl_i, kl_r, kl_l, kl_n, push_n, push_s, pop_0, pop_i, pop_r, Int.reduceToNat, List.length_cons, List.length_nil, Nat.reduceAdd, Nat.reduceLeDiff, Nat.zero_add, true_and, nI_n0, nat_le, Nat.add_zero, rt_js_checkIndex, x_call, x_gets2, x_il0, x_il1, x_popi, x_vret, pop_N, cp]
  all_goals first | rfl | exact ⟨rfl, rfl⟩ | exact ⟨rfl, trivial⟩ | exact ⟨trivial, rfl⟩ | trivial
/-- the i-th of a text -/
theorem s_charAt (hk : k < 25) {i : Nat} (hi : i < sL k) : callC (ev (d + 4)) js_charAt [.ref (100000 + k), .int (nI i)] h P = P (some (.int (nI (sB k i)))) h := by
  refine call_eq (in_js_charAt (rcv_x hk (by decide +kernel)) ?_)
  have hl := sL_l hk
  have hb := (sB_ok hk hi).2
  have hnc := nc_ok (b := sB k i) (by omega)
  have n10 : (nI 1 = nI 0) = False := eq_false (by decide)
  have cp : ∀ Q : QT, callC (ev (d + 3)) jl_charAt [.ref (200000 + k), .int (nI i)] h Q = Q (some (.int (nI (sB k i)))) h := fun Q => by
    refine call_eq (in_jl_charAt rfl ?_)
    rw [b_jl_charAt_0]
    simp -implicitDefEqProofs (disch := first | assumption | omega) only [szS_0, szS_i, szS_r, szS_l, x_cons, x_goto, ob_some, kl_i, kl_r, kl_l, kl_n, push_n, push_s, pop_0, pop_i, pop_r, Int.reduceToNat, List.length_cons, List.length_nil, Nat.reduceAdd, Nat.reduceLeDiff, Nat.zero_add, true_and, nI_n0, nat_le, Nat.add_zero, x_al0, x_alen, x_baload, x_call, x_i2c, x_iand, x_il1, x_iret, x_ldc, al_y hk, s_ckIdx hi, bl_y hk hi, nI_and, hnc.2.2, hnc.2.1, rt_jlc]
    all_goals first | rfl | exact ⟨rfl, rfl⟩ | exact ⟨rfl, trivial⟩ | exact ⟨trivial, rfl⟩ | trivial
  rw [b_js_charAt_0]
  simp -implicitDefEqProofs (disch := first | assumption | omega) only [szS_0, szS_i, szS_r, szS_l, x_cons, x_goto, ob_some, kl_i, kl_r, kl_l, kl_n, push_n, push_s, pop_0, pop_i, pop_r, Int.reduceToNat, List.length_cons, List.length_nil, Nat.reduceAdd, Nat.reduceLeDiff, Nat.zero_add, true_and, nI_n0, nat_le, Nat.add_zero, x_al0, x_call, x_getf, x_ifeq, x_il1, x_iret, s_latin hk, n10, ↓reduceIte, fv_x hk, cp, rt_jsc]
  all_goals first | rfl | exact ⟨rfl, rfl⟩ | exact ⟨rfl, trivial⟩ | exact ⟨trivial, rfl⟩ | trivial
/-! the signs -/
def fIx (k : Nat) (x : Int32) : Nat → Nat → Int32
  | 0, _ => -1
  | j + 1, i => if nI (sB k i) = x then nI i else fIx k x j (i + 1)
theorem ic_lp (hk : k < 25) {x v : Int32} {n : Nat} (hn : n = sL k) : ∀ (j i : Nat), i + j = n → (P (some (.int (fIx k x j i))) h) →
    wp (ev d) P jl_indexOfChar 7 [some (.ref (200000 + k)), some (.int v), some (.int (nI 0)), some (.int (nI n)), some (.int x), some (.int (nI i))] [] h := by
  have hl := sL_l hk
  intro j
  induction j with
  | zero =>
    intro i hi H
    have hi : i = n := hi
    rw [hi, b_jl_indexOfChar_7]
    simp -implicitDefEqProofs (disch := first | assumption | omega) only [szS_0, szS_i, szS_r, szS_l, x_cons, x_goto, ob_some, kl_i, kl_r, kl_l, kl_n, push_n, push_s, pop_0, pop_i, pop_r, Int.reduceToNat, List.length_cons, List.length_nil, Nat.reduceAdd, Nat.reduceLeDiff, Nat.zero_add, true_and, nI_n0, nat_le, Nat.add_zero, i_1, rt_jl_indexOfChar, x_al0, x_baload, x_goto, x_i2b, x_icge, x_icne, x_il1, x_il2, x_il3, x_il4, x_il5, x_inc5, x_iret, x_is4, x_is5, x_m1, nI_ltE, Nat.lt_irrefl, ↓reduceIte, b_jl_indexOfChar_31]
    exact H
  | succ j ih =>
    intro i hi H
    have hi' : i < n := by omega
    have hb := bl_y (h := h) hk (show i < sL k by omega)
    have e : fIx k x (j + 1) i = if nI (sB k i) = x then nI i else fIx k x j (i + 1) := rfl
    rw [e] at H
    rw [b_jl_indexOfChar_7]
    simp -implicitDefEqProofs (disch := first | assumption | omega) only [szS_0, szS_i, szS_r, szS_l, x_cons, x_goto, ob_some, kl_i, kl_r, kl_l, kl_n, push_n, push_s, pop_0, pop_i, pop_r, Int.reduceToNat, List.length_cons, List.length_nil, Nat.reduceAdd, Nat.reduceLeDiff, Nat.zero_add, true_and, nI_n0, nat_le, Nat.add_zero, i_1, rt_jl_indexOfChar, x_al0, x_baload, x_goto, x_i2b, x_icge, x_icne, x_il1, x_il2, x_il3, x_il4, x_il5, x_inc5, x_iret, x_is4, x_is5, x_m1, nI_ltE, hi', ↓reduceIte, hb]
    by_cases e2 : nI (sB k i) = x
    · rw [if_pos e2] at H
      rw [if_pos e2]
      try simp -implicitDefEqProofs (disch := first | assumption | omega) only [szS_0, szS_i, szS_r, szS_l, x_cons, x_goto, ob_some, kl_i, kl_r, kl_l, kl_n, push_n, push_s, pop_0, pop_i, pop_r, Int.reduceToNat, List.length_cons, List.length_nil, Nat.reduceAdd, Nat.reduceLeDiff, Nat.zero_add, true_and, nI_n0, nat_le, Nat.add_zero, i_1, rt_jl_indexOfChar, x_al0, x_baload, x_goto, x_i2b, x_icge, x_icne, x_il1, x_il2, x_il3, x_il4, x_il5, x_inc5, x_iret, x_is4, x_is5, x_m1]
      exact H
    · rw [if_neg e2] at H
      rw [if_neg e2]
      try simp -implicitDefEqProofs (disch := first | assumption | omega) only [b_jl_indexOfChar_25, szS_0, szS_i, szS_r, szS_l, x_cons, x_goto, ob_some, kl_i, kl_r, kl_l, kl_n, push_n, push_s, pop_0, pop_i, pop_r, Int.reduceToNat, List.length_cons, List.length_nil, Nat.reduceAdd, Nat.reduceLeDiff, Nat.zero_add, true_and, nI_n0, nat_le, Nat.add_zero, i_1, rt_jl_indexOfChar, x_al0, x_baload, x_goto, x_i2b, x_icge, x_icne, x_il1, x_il2, x_il3, x_il4, x_il5, x_inc5, x_iret, x_is4, x_is5, x_m1, nI_add]
      exact ih (i + 1) (by omega) H
def sgS (b : Nat) : Bool := decide (b = 59 ∨ b = 43 ∨ b = 45 ∨ b = 42 ∨ b = 47 ∨ b = 40 ∨ b = 41 ∨ b = 60 ∨ b = 61 ∨ b = 62)
theorem sg_ck : ((List.range 256).all fun b => decide (fIx 1 (nI b).toInt8.toInt32 10 0 < nI 0) == !sgS b) = true := by decide +kernel
theorem sL_1 : sL 1 = 10 := by decide +kernel
theorem s_signs {b : Nat} (hb : b < 256) : callC (ev (d + 5)) js_indexOf [.ref 100001, .int (nI b)] h P = P (some (.int (fIx 1 (nI b).toInt8.toInt32 10 0))) h := by
  refine call_eq (in_js_indexOf (rcv_x (k := 1) (by decide) (by decide +kernel)) ?_)
  have n10 : (nI 1 = nI 0) = False := eq_false (by decide)
  have k1 : (1 : Nat) < 25 := by decide
  have l1 : ¬ b < 0 := by omega
  have l2 : ¬ 255 < b := by omega
  have l3 : ¬ 10 < 10 := by omega
  have fv : fld h 100001 9000 = some (.ref 200001) := fv_x (k := 1) k1
  have al : aln h 200001 = some 10 := by rw [← sL_1]; exact al_y (k := 1) k1
  have ln : ∀ (d : Nat) (Q : QT), callC (ev (d + 2)) js_length [.ref 100001] h Q = Q (some (.int (nI 10))) h := fun d Q => by rw [← sL_1]; exact s_len (k := 1) k1
  have la : ∀ (d : Nat) (Q : QT), callC (ev (d + 1)) js_isLatin1 [.ref 100001] h Q = Q (some (.int (nI 1))) h := fun d Q => s_latin (k := 1) k1
  have ce : ∀ (d : Nat) (Q : QT), callC (ev (d + 1)) jl_canEncode [.int (nI b)] h Q = Q (some (.int (nI 1))) h := fun d Q => by
    refine call_eq (in_jl_canEncode rfl ?_)
    rw [b_jl_canEncode_0]
    simp -implicitDefEqProofs (disch := first | assumption | omega) only [szS_0, szS_i, szS_r, szS_l, x_cons, x_goto, ob_some, kl_i, kl_r, kl_l, kl_n, push_n, push_s, pop_0, pop_i, pop_r, Int.reduceToNat, List.length_cons, List.length_nil, Nat.reduceAdd, Nat.reduceLeDiff, Nat.zero_add, true_and, nI_n0, nat_le, Nat.add_zero, rt_jl_canEncode_0, rt_jl_canEncode_1, rt_jl_canEncode_b, x_goto, x_icgt, x_iflt, x_il0, x_iret, x_ldc, nI_ltE, l1, l2, ↓reduceIte, b_jl_canEncode_16]
    all_goals first | rfl | exact ⟨rfl, rfl⟩ | exact ⟨rfl, trivial⟩ | exact ⟨trivial, rfl⟩ | trivial
  have ic : ∀ (d : Nat) (Q : QT), callC (ev (d + 1)) jl_indexOfChar [.ref 200001, .int (nI b), .int (nI 0), .int (nI 10)] h Q = Q (some (.int (fIx 1 (nI b).toInt8.toInt32 10 0))) h := fun d Q => by
    refine call_eq (in_jl_indexOfChar rfl ?_)
    rw [b_jl_indexOfChar_0]
    simp -implicitDefEqProofs (disch := first | assumption | omega) only [szS_0, szS_i, szS_r, szS_l, x_cons, x_goto, ob_some, kl_i, kl_r, kl_l, kl_n, push_n, push_s, pop_0, pop_i, pop_r, Int.reduceToNat, List.length_cons, List.length_nil, Nat.reduceAdd, Nat.reduceLeDiff, Nat.zero_add, true_and, nI_n0, nat_le, Nat.add_zero, i_1, rt_jl_indexOfChar, x_al0, x_baload, x_goto, x_i2b, x_icge, x_icne, x_il1, x_il2, x_il3, x_il4, x_il5, x_inc5, x_iret, x_is4, x_is5, x_m1]
    exact ic_lp (k := 1) k1 sL_1.symm 10 0 rfl ⟨rfl, rfl⟩
  have io : ∀ (d : Nat) (Q : QT), callC (ev (d + 2)) jl_indexOf [.ref 200001, .int (nI b), .int (nI 0), .int (nI 10)] h Q = Q (some (.int (fIx 1 (nI b).toInt8.toInt32 10 0))) h := fun d Q => by
    refine call_eq (in_jl_indexOf rfl ?_)
    rw [b_jl_indexOf_0]
    simp -implicitDefEqProofs (disch := first | assumption | omega) only [szS_0, szS_i, szS_r, szS_l, x_cons, x_goto, ob_some, kl_i, kl_r, kl_l, kl_n, push_n, push_s, pop_0, pop_i, pop_r, Int.reduceToNat, List.length_cons, List.length_nil, Nat.reduceAdd, Nat.reduceLeDiff, Nat.zero_add, true_and, nI_n0, nat_le, Nat.add_zero, rt_jl_indexOf, x_al0, x_alen, x_call, x_iclt, x_ifne, x_il1, x_il2, x_il3, x_iret, x_is2, x_is3, x_ldc, x_m1, ce, n10, ↓reduceIte, b_jl_indexOf_9, s_jmax, s_jmin, al, nI_ltE, Nat.lt_irrefl, Nat.reduceLT, b_jl_indexOf_29, ic]
    all_goals first | rfl | exact ⟨rfl, rfl⟩ | exact ⟨rfl, trivial⟩ | exact ⟨trivial, rfl⟩ | trivial
  have i2 : ∀ (d : Nat) (Q : QT), callC (ev (d + 4)) js_indexOf2 [.ref 100001, .int (nI b), .int (nI 0)] h Q = Q (some (.int (fIx 1 (nI b).toInt8.toInt32 10 0))) h := fun d Q => by
    refine call_eq (in_js_indexOf2 (rcv_x (k := 1) (by decide) (by decide +kernel)) ?_)
    rw [b_js_indexOf2_0]
    simp -implicitDefEqProofs (disch := first | assumption | omega) only [szS_0, szS_i, szS_r, szS_l, x_cons, x_goto, ob_some, kl_i, kl_r, kl_l, kl_n, push_n, push_s, pop_0, pop_i, pop_r, Int.reduceToNat, List.length_cons, List.length_nil, Nat.reduceAdd, Nat.reduceLeDiff, Nat.zero_add, true_and, nI_n0, nat_le, Nat.add_zero, rt_js_indexOf2, x_al0, x_call, x_getf, x_goto, x_ifeq, x_il1, x_il2, x_iret, la, n10, ↓reduceIte, fv, ln, io, b_js_indexOf2_36]
    all_goals first | rfl | exact ⟨rfl, rfl⟩ | exact ⟨rfl, trivial⟩ | exact ⟨trivial, rfl⟩ | trivial
  rw [b_js_indexOf_0]
  simp -implicitDefEqProofs (disch := first | assumption | omega) only [szS_0, szS_i, szS_r, szS_l, x_cons, x_goto, ob_some, kl_i, kl_r, kl_l, kl_n, push_n, push_s, pop_0, pop_i, pop_r, Int.reduceToNat, List.length_cons, List.length_nil, Nat.reduceAdd, Nat.reduceLeDiff, Nat.zero_add, true_and, nI_n0, nat_le, Nat.add_zero, rt_js_indexOf, x_al0, x_call, x_il1, x_iret, x_ldc, i2]
  all_goals first | rfl | exact ⟨rfl, rfl⟩ | exact ⟨rfl, trivial⟩ | exact ⟨trivial, rfl⟩ | trivial
theorem sg_lt {b : Nat} (hb : b < 256) : (fIx 1 (nI b).toInt8.toInt32 10 0 < nI 0) = (sgS b = false) := by
  have h := List.all_eq_true.mp sg_ck b (List.mem_range.mpr hb)
  rw [beq_iff_eq] at h
  cases hs : sgS b
  · rw [hs] at h
    exact propext ⟨fun _ => rfl, fun _ => of_decide_eq_true h⟩
  · rw [hs] at h
    exact propext ⟨fun h2 => absurd h2 (of_decide_eq_false h), fun h2 => by cases h2⟩
end STX
