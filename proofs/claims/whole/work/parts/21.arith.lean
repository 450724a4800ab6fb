/-! numbers of the programs -/
theorem nI_sum (a b : Nat) : nI a + nI b = nI (a + b) := (Int32.ofNat_add a b).symm
theorem nI_mul (a b : Nat) : nI a * nI b = nI (a * b) := (Int32.ofNat_mul a b).symm
theorem nI_sub {a b : Nat} (h : b ≤ a) : nI a - nI b = nI (a - b) := by
  have e : nI a = nI (a - b) + nI b := by rw [nI_sum, Nat.sub_add_cancel h]
  rw [e, Int32.add_sub_cancel]
theorem nI_n0 : (0 : Int32) = nI 0 := rfl
theorem nat_le {a b : Nat} (h : a ≤ b) : (a ≤ b) = True := eq_true h
theorem nI_I {a : Nat} (h : a < 2147483648) : (nI a).toInt = a := nI_toInt h
theorem nI_ltE {a b : Nat} (ha : a < 2147483648) (hb : b < 2147483648) : (nI a < nI b) = (a < b) := by
  rw [Int32.lt_iff_toInt_lt, nI_I ha, nI_I hb]
  exact propext Int.ofNat_lt
theorem nI_leE {a b : Nat} (ha : a < 2147483648) (hb : b < 2147483648) : (nI a ≤ nI b) = (a ≤ b) := by
  rw [Int32.le_iff_toInt_le, nI_I ha, nI_I hb]
  exact propext Int.ofNat_le
theorem nI_eqE {a b : Nat} (ha : a < 2147483648) (hb : b < 2147483648) : (nI a = nI b) = (a = b) :=
  propext ⟨fun h => by
    have := congrArg Int32.toInt h
    rw [nI_I ha, nI_I hb] at this
    omega, fun h => by rw [h]⟩
theorem ltE {x z : Int32} : (x < z) = (x.toInt < z.toInt) := propext Int32.lt_iff_toInt_lt
theorem leE {x z : Int32} : (x ≤ z) = (x.toInt ≤ z.toInt) := propext Int32.le_iff_toInt_le
theorem eqE {x z : Int32} : (x = z) = (x.toInt = z.toInt) := propext ⟨fun h => by rw [h], Int32.toInt_inj.mp⟩
/-- a truth as the machine has it -/
def bI (b : Prop) [Decidable b] : Int32 := if b then nI 1 else nI 0
theorem bI_t {b : Prop} [Decidable b] (h : b) : bI b = nI 1 := if_pos h
theorem bI_f {b : Prop} [Decidable b] (h : ¬ b) : bI b = nI 0 := if_neg h
theorem bI_0 {b : Prop} [Decidable b] : (bI b = nI 0) = ¬ b := by
  by_cases h : b
  · rw [bI_t h]
    exact propext ⟨fun e => absurd e (by decide), fun e => absurd h e⟩
  · rw [bI_f h]
    exact propext ⟨fun _ => h, fun _ => rfl⟩
theorem bI_1 {b : Prop} [Decidable b] : (bI b = nI 1) = b := by
  by_cases h : b
  · rw [bI_t h]
    exact propext ⟨fun _ => h, fun _ => rfl⟩
  · rw [bI_f h]
    exact propext ⟨fun e => absurd e (by decide), fun e => absurd e h⟩
/-- an Int32 that is a number below n -/
theorem nI_is {x : Int32} {n : Nat} (h0 : nI 0 ≤ x) (h1 : x < nI n) (hn : n < 2147483648) : ∃ k, k < n ∧ x = nI k := by
  rw [leE, nI_I (by decide)] at h0
  rw [ltE, nI_I hn] at h1
  refine ⟨x.toInt.toNat, by omega, ?_⟩
  rw [eqE, nI_I (by omega)]
  omega
section MA
variable {d : Nat} {g : Nat → Nat → Int32} {q : Nat → Nat → Int64} {P : QT}
theorem s_isIn {v l m : Int32} : callC (ev (d + 1)) mo_isIn [.int v, .int l, .int m] (E g q) P = P (some (.int (bI (l ≤ v ∧ v ≤ m)))) (E g q) := by
  refine call_eq (in_mo_isIn rfl ?_)
  simp only [x_cons, ob_some, kl_i, kl_r, kl_l, kl_n, push_n, push_s, pop_0, pop_i, pop_r, Int.reduceToNat, List.length_cons, List.length_nil, Nat.reduceAdd, Nat.reduceLeDiff, Nat.zero_add, true_and, nI_n0, nat_le, rt_mo_isIn_0, rt_mo_isIn_1, x_goto, x_icgt, x_iclt, x_il0, x_il1, x_il2, x_iret, x_ldc, b_mo_isIn_0, b_mo_isIn_14, b_mo_isIn_15]
  by_cases h1 : v < l
  · rw [if_pos h1]
    refine ⟨by rw [bI_f (fun h => by rw [leE] at h; rw [ltE] at h1; omega)], trivial⟩
  · sorry
theorem s_own {n f : Nat} (h : 10 + 20 * n + f < 2955) : callC (ev (d + 1)) mo_own [.ref 196, .int (nI n), .int (nI f)] (E g q) P = P (some (.int (g 197 (10 + 20 * n + f)))) (E g q) := by
  refine call_eq (in_mo_own rfl ?_)
  simp (disch := omega) only [x_cons, ob_some, kl_i, kl_r, kl_l, kl_n, push_n, push_s, pop_0, pop_i, pop_r, Int.reduceToNat, List.length_cons, List.length_nil, Nat.reduceAdd, Nat.reduceLeDiff, Nat.zero_add, true_and, nI_n0, nat_le, rt_mo_own, x_al0, x_getf, x_iadd, x_iaload, x_il1, x_il2, x_imul, x_iret, x_ldc, b_mo_own_0, fd_196_0, fd_196_1, fd_196_2, fd_196_3, fd_196_4, sf_196_4, fd_196_5, sf_196_5, fd_196_6, fd_196_7, fd_196_8, fd_196_9, fd_196_10, fd_196_11, fd_196_12, sf_196_12, fd_196_13, sf_196_13, fd_196_14, sf_196_14, fd_196_15, sf_196_15, fd_196_16, sf_196_16, fd_196_17, sf_196_17, fd_196_18, sf_196_18, fd_196_19, sf_196_19, fd_196_20, sf_196_20, fd_196_21, sf_196_21, fd_196_22, sf_196_22, fd_196_23, sf_196_23, fd_196_24, sf_196_24, fd_196_25, sf_196_25, fd_196_26, sf_196_26, fd_196_27, fd_196_28, fd_196_29, fd_196_30, sf_196_30, fd_196_31, fd_196_32, fd_196_33, fd_196_34, fd_196_35, fd_196_36, fd_196_37, sf_196_37, fd_196_38, fd_196_39, sf_196_39, fd_196_40, sf_196_40, fd_196_41, sf_196_41, fd_196_42, fd_196_43, fd_196_44, ld_197, sd_197, ln_197, nI_sum, nI_mul]
end MA
