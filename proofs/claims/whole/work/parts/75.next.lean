/-! the reference reads words: made by tools/p75.py -/
def bothV (T : Nat → Nat) (b e : Nat) : Nat := if wmt T 18 b e = true then 41 else if wmt T 19 b e = true then 42 else if wmt T 20 b e = true then 43 else if wmt T 21 b e = true then 44 else if wmt T 22 b e = true then 49 else 1
def voteV (T : Nat → Nat) (b e : Nat) : Nat := if wmt T 13 b e = true then 45 else if wmt T 14 b e = true then 46 else if wmt T 15 b e = true then 47 else if wmt T 16 b e = true then 48 else if wmt T 4 b e = true then 50 else if wmt T 17 b e = true then 7 else bothV T b e
def moveV (T : Nat → Nat) (b e : Nat) : Nat := if wmt T 23 b e = true then 51 else if wmt T 5 b e = true then 52 else if wmt T 24 b e = true then 7 else bothV T b e
def deltaV (T : Nat → Nat) (b e : Nat) : Nat := if wmt T 4 b e = true then 10 else if wmt T 5 b e = true then 11 else if wmt T 6 b e = true then 12 else if wmt T 7 b e = true then 13 else if wmt T 8 b e = true then 5 else if wmt T 9 b e = true then 14 else 1
def wordV (T : Nat → Nat) (k b e : Nat) : Nat := if k = 0 then deltaV T b e else if wmt T 10 b e = true then 3 else if wmt T 11 b e = true then 4 else if wmt T 8 b e = true then 5 else if wmt T 12 b e = true then 6 else if k = 1 then voteV T b e else moveV T b e
theorem wcd_y {T : Nat → Nat} {k b e m : Nat} (hk : k < 3) (hm : m < WN k) (h : wmt T (WT k m) b e = true) : wcd T k b e = CT_ k m := by
  unfold wcd
  rw [fwd_y hk h _ (Nat.le_refl _) hm]
theorem wcd_n {T : Nat → Nat} {k b e : Nat} (h : ∀ m, m < WN k → wmt T (WT k m) b e = false) : wcd T k b e = 1 := by
  unfold wcd
  rw [fwd_n _ h]
theorem wcd_z {T : Nat → Nat} {k b e m i c : Nat} (hk : k < 3) (hm : m < WN k) (hi : WT k m = i) (hc : CT_ k m = c) (h : wmt T i b e = true) : wcd T k b e = c := by
  rw [← hc]
  rw [← hi] at h
  exact wcd_y hk hm h
theorem wmt_z {T : Nat → Nat} {k b e m i : Nat} (hi : WT k m = i) (h : wmt T i b e = false) : wmt T (WT k m) b e = false := by
  rw [hi]
  exact h
theorem wordV_0 {T : Nat → Nat} {b e : Nat} : wordV T 0 b e = wcd T 0 b e := by
  have nb : ∀ {x : Bool}, ¬ x = true → x = false := fun {x} h => by cases x; exact rfl; exact absurd rfl h
  unfold wordV
  rw [if_pos rfl]
  unfold deltaV
  by_cases h4 : wmt T 4 b e = true
  · rw [if_pos h4]
    exact (wcd_z (k := 0) (m := 0) (i := 4) (c := 10) (by decide) (by decide) (by decide) (by decide) h4).symm
  rw [if_neg h4]
  by_cases h5 : wmt T 5 b e = true
  · rw [if_pos h5]
    exact (wcd_z (k := 0) (m := 1) (i := 5) (c := 11) (by decide) (by decide) (by decide) (by decide) h5).symm
  rw [if_neg h5]
  by_cases h6 : wmt T 6 b e = true
  · rw [if_pos h6]
    exact (wcd_z (k := 0) (m := 2) (i := 6) (c := 12) (by decide) (by decide) (by decide) (by decide) h6).symm
  rw [if_neg h6]
  by_cases h7 : wmt T 7 b e = true
  · rw [if_pos h7]
    exact (wcd_z (k := 0) (m := 3) (i := 7) (c := 13) (by decide) (by decide) (by decide) (by decide) h7).symm
  rw [if_neg h7]
  by_cases h8 : wmt T 8 b e = true
  · rw [if_pos h8]
    exact (wcd_z (k := 0) (m := 4) (i := 8) (c := 5) (by decide) (by decide) (by decide) (by decide) h8).symm
  rw [if_neg h8]
  by_cases h9 : wmt T 9 b e = true
  · rw [if_pos h9]
    exact (wcd_z (k := 0) (m := 5) (i := 9) (c := 14) (by decide) (by decide) (by decide) (by decide) h9).symm
  rw [if_neg h9]
  refine (wcd_n (k := 0) fun m hm => ?_).symm
  have hm : m < 6 := hm
  have hm : m = 0 ∨ m = 1 ∨ m = 2 ∨ m = 3 ∨ m = 4 ∨ m = 5 := by omega
  rcases hm with rfl | rfl | rfl | rfl | rfl | rfl
  · exact wmt_z (i := 4) (by decide) (nb h4)
  · exact wmt_z (i := 5) (by decide) (nb h5)
  · exact wmt_z (i := 6) (by decide) (nb h6)
  · exact wmt_z (i := 7) (by decide) (nb h7)
  · exact wmt_z (i := 8) (by decide) (nb h8)
  · exact wmt_z (i := 9) (by decide) (nb h9)
theorem wordV_1 {T : Nat → Nat} {b e : Nat} : wordV T 1 b e = wcd T 1 b e := by
  have nb : ∀ {x : Bool}, ¬ x = true → x = false := fun {x} h => by cases x; exact rfl; exact absurd rfl h
  unfold wordV
  rw [if_neg (by decide : ¬ (1 : Nat) = 0)]
  by_cases h10 : wmt T 10 b e = true
  · rw [if_pos h10]
    exact (wcd_z (k := 1) (m := 1) (i := 10) (c := 3) (by decide) (by decide) (by decide) (by decide) h10).symm
  rw [if_neg h10]
  by_cases h11 : wmt T 11 b e = true
  · rw [if_pos h11]
    exact (wcd_z (k := 1) (m := 2) (i := 11) (c := 4) (by decide) (by decide) (by decide) (by decide) h11).symm
  rw [if_neg h11]
  by_cases h8 : wmt T 8 b e = true
  · rw [if_pos h8]
    exact (wcd_z (k := 1) (m := 3) (i := 8) (c := 5) (by decide) (by decide) (by decide) (by decide) h8).symm
  rw [if_neg h8]
  by_cases h12 : wmt T 12 b e = true
  · rw [if_pos h12]
    exact (wcd_z (k := 1) (m := 4) (i := 12) (c := 6) (by decide) (by decide) (by decide) (by decide) h12).symm
  rw [if_neg h12]
  rw [if_pos rfl]
  unfold voteV
  by_cases h13 : wmt T 13 b e = true
  · rw [if_pos h13]
    exact (wcd_z (k := 1) (m := 9) (i := 13) (c := 45) (by decide) (by decide) (by decide) (by decide) h13).symm
  rw [if_neg h13]
  by_cases h14 : wmt T 14 b e = true
  · rw [if_pos h14]
    exact (wcd_z (k := 1) (m := 10) (i := 14) (c := 46) (by decide) (by decide) (by decide) (by decide) h14).symm
  rw [if_neg h14]
  by_cases h15 : wmt T 15 b e = true
  · rw [if_pos h15]
    exact (wcd_z (k := 1) (m := 11) (i := 15) (c := 47) (by decide) (by decide) (by decide) (by decide) h15).symm
  rw [if_neg h15]
  by_cases h16 : wmt T 16 b e = true
  · rw [if_pos h16]
    exact (wcd_z (k := 1) (m := 12) (i := 16) (c := 48) (by decide) (by decide) (by decide) (by decide) h16).symm
  rw [if_neg h16]
  by_cases h4 : wmt T 4 b e = true
  · rw [if_pos h4]
    exact (wcd_z (k := 1) (m := 14) (i := 4) (c := 50) (by decide) (by decide) (by decide) (by decide) h4).symm
  rw [if_neg h4]
  by_cases h17 : wmt T 17 b e = true
  · rw [if_pos h17]
    exact (wcd_z (k := 1) (m := 0) (i := 17) (c := 7) (by decide) (by decide) (by decide) (by decide) h17).symm
  rw [if_neg h17]
  unfold bothV
  by_cases h18 : wmt T 18 b e = true
  · rw [if_pos h18]
    exact (wcd_z (k := 1) (m := 5) (i := 18) (c := 41) (by decide) (by decide) (by decide) (by decide) h18).symm
  rw [if_neg h18]
  by_cases h19 : wmt T 19 b e = true
  · rw [if_pos h19]
    exact (wcd_z (k := 1) (m := 6) (i := 19) (c := 42) (by decide) (by decide) (by decide) (by decide) h19).symm
  rw [if_neg h19]
  by_cases h20 : wmt T 20 b e = true
  · rw [if_pos h20]
    exact (wcd_z (k := 1) (m := 7) (i := 20) (c := 43) (by decide) (by decide) (by decide) (by decide) h20).symm
  rw [if_neg h20]
  by_cases h21 : wmt T 21 b e = true
  · rw [if_pos h21]
    exact (wcd_z (k := 1) (m := 8) (i := 21) (c := 44) (by decide) (by decide) (by decide) (by decide) h21).symm
  rw [if_neg h21]
  by_cases h22 : wmt T 22 b e = true
  · rw [if_pos h22]
    exact (wcd_z (k := 1) (m := 13) (i := 22) (c := 49) (by decide) (by decide) (by decide) (by decide) h22).symm
  rw [if_neg h22]
  refine (wcd_n (k := 1) fun m hm => ?_).symm
  have hm : m < 15 := hm
  have hm : m = 0 ∨ m = 1 ∨ m = 2 ∨ m = 3 ∨ m = 4 ∨ m = 5 ∨ m = 6 ∨ m = 7 ∨ m = 8 ∨ m = 9 ∨ m = 10 ∨ m = 11 ∨ m = 12 ∨ m = 13 ∨ m = 14 := by omega
  rcases hm with rfl | rfl | rfl | rfl | rfl | rfl | rfl | rfl | rfl | rfl | rfl | rfl | rfl | rfl | rfl
  · exact wmt_z (i := 17) (by decide) (nb h17)
  · exact wmt_z (i := 10) (by decide) (nb h10)
  · exact wmt_z (i := 11) (by decide) (nb h11)
  · exact wmt_z (i := 8) (by decide) (nb h8)
  · exact wmt_z (i := 12) (by decide) (nb h12)
  · exact wmt_z (i := 18) (by decide) (nb h18)
  · exact wmt_z (i := 19) (by decide) (nb h19)
  · exact wmt_z (i := 20) (by decide) (nb h20)
  · exact wmt_z (i := 21) (by decide) (nb h21)
  · exact wmt_z (i := 13) (by decide) (nb h13)
  · exact wmt_z (i := 14) (by decide) (nb h14)
  · exact wmt_z (i := 15) (by decide) (nb h15)
  · exact wmt_z (i := 16) (by decide) (nb h16)
  · exact wmt_z (i := 22) (by decide) (nb h22)
  · exact wmt_z (i := 4) (by decide) (nb h4)
theorem wordV_2 {T : Nat → Nat} {b e : Nat} : wordV T 2 b e = wcd T 2 b e := by
  have nb : ∀ {x : Bool}, ¬ x = true → x = false := fun {x} h => by cases x; exact rfl; exact absurd rfl h
  unfold wordV
  rw [if_neg (by decide : ¬ (2 : Nat) = 0)]
  by_cases h10 : wmt T 10 b e = true
  · rw [if_pos h10]
    exact (wcd_z (k := 2) (m := 1) (i := 10) (c := 3) (by decide) (by decide) (by decide) (by decide) h10).symm
  rw [if_neg h10]
  by_cases h11 : wmt T 11 b e = true
  · rw [if_pos h11]
    exact (wcd_z (k := 2) (m := 2) (i := 11) (c := 4) (by decide) (by decide) (by decide) (by decide) h11).symm
  rw [if_neg h11]
  by_cases h8 : wmt T 8 b e = true
  · rw [if_pos h8]
    exact (wcd_z (k := 2) (m := 3) (i := 8) (c := 5) (by decide) (by decide) (by decide) (by decide) h8).symm
  rw [if_neg h8]
  by_cases h12 : wmt T 12 b e = true
  · rw [if_pos h12]
    exact (wcd_z (k := 2) (m := 4) (i := 12) (c := 6) (by decide) (by decide) (by decide) (by decide) h12).symm
  rw [if_neg h12]
  rw [if_neg (by decide : ¬ (2 : Nat) = 1)]
  unfold moveV
  by_cases h23 : wmt T 23 b e = true
  · rw [if_pos h23]
    exact (wcd_z (k := 2) (m := 9) (i := 23) (c := 51) (by decide) (by decide) (by decide) (by decide) h23).symm
  rw [if_neg h23]
  by_cases h5 : wmt T 5 b e = true
  · rw [if_pos h5]
    exact (wcd_z (k := 2) (m := 11) (i := 5) (c := 52) (by decide) (by decide) (by decide) (by decide) h5).symm
  rw [if_neg h5]
  by_cases h24 : wmt T 24 b e = true
  · rw [if_pos h24]
    exact (wcd_z (k := 2) (m := 0) (i := 24) (c := 7) (by decide) (by decide) (by decide) (by decide) h24).symm
  rw [if_neg h24]
  unfold bothV
  by_cases h18 : wmt T 18 b e = true
  · rw [if_pos h18]
    exact (wcd_z (k := 2) (m := 5) (i := 18) (c := 41) (by decide) (by decide) (by decide) (by decide) h18).symm
  rw [if_neg h18]
  by_cases h19 : wmt T 19 b e = true
  · rw [if_pos h19]
    exact (wcd_z (k := 2) (m := 6) (i := 19) (c := 42) (by decide) (by decide) (by decide) (by decide) h19).symm
  rw [if_neg h19]
  by_cases h20 : wmt T 20 b e = true
  · rw [if_pos h20]
    exact (wcd_z (k := 2) (m := 7) (i := 20) (c := 43) (by decide) (by decide) (by decide) (by decide) h20).symm
  rw [if_neg h20]
  by_cases h21 : wmt T 21 b e = true
  · rw [if_pos h21]
    exact (wcd_z (k := 2) (m := 8) (i := 21) (c := 44) (by decide) (by decide) (by decide) (by decide) h21).symm
  rw [if_neg h21]
  by_cases h22 : wmt T 22 b e = true
  · rw [if_pos h22]
    exact (wcd_z (k := 2) (m := 10) (i := 22) (c := 49) (by decide) (by decide) (by decide) (by decide) h22).symm
  rw [if_neg h22]
  refine (wcd_n (k := 2) fun m hm => ?_).symm
  have hm : m < 12 := hm
  have hm : m = 0 ∨ m = 1 ∨ m = 2 ∨ m = 3 ∨ m = 4 ∨ m = 5 ∨ m = 6 ∨ m = 7 ∨ m = 8 ∨ m = 9 ∨ m = 10 ∨ m = 11 := by omega
  rcases hm with rfl | rfl | rfl | rfl | rfl | rfl | rfl | rfl | rfl | rfl | rfl | rfl
  · exact wmt_z (i := 24) (by decide) (nb h24)
  · exact wmt_z (i := 10) (by decide) (nb h10)
  · exact wmt_z (i := 11) (by decide) (nb h11)
  · exact wmt_z (i := 8) (by decide) (nb h8)
  · exact wmt_z (i := 12) (by decide) (nb h12)
  · exact wmt_z (i := 18) (by decide) (nb h18)
  · exact wmt_z (i := 19) (by decide) (nb h19)
  · exact wmt_z (i := 20) (by decide) (nb h20)
  · exact wmt_z (i := 21) (by decide) (nb h21)
  · exact wmt_z (i := 23) (by decide) (nb h23)
  · exact wmt_z (i := 22) (by decide) (nb h22)
  · exact wmt_z (i := 5) (by decide) (nb h5)
theorem wordV_e {T : Nat → Nat} {k b e : Nat} (hk : k < 3) : wordV T k b e = wcd T k b e := by
  have : k = 0 ∨ k = 1 ∨ k = 2 := by omega
  rcases this with rfl | rfl | rfl
  · exact wordV_0
  · exact wordV_1
  · exact wordV_2
/-- the tape, as the reference has it -/
def TT (T : Nat → Nat) (n k : Nat) (g : Nat → Nat → Int32) : Prop := g 196 17 = nI n ∧ n ≤ 400 ∧ (∀ j, j < n → g 204 j = nI (T j) ∧ T j < 256) ∧ g 196 12 = nI k ∧ k < 3
theorem TT_f {T : Nat → Nat} {n k : Nat} {g g' : Nat → Nat → Int32} (h : TT T n k g) (e1 : g' 204 = g 204) (e2 : g' 196 17 = g 196 17) (e3 : g' 196 12 = g 196 12) : TT T n k g' := by
  unfold TT at *
  rw [e1, e2, e3]
  exact h
def seV (T : Nat → Nat) (n i : Nat) : Int32 := if i < n then nI (T i) else -1
theorem seV_1 {T : Nat → Nat} {n i : Nat} (h : i < n) : seV T n i = nI (T i) := if_pos h
theorem seV_0 {T : Nat → Nat} {n : Nat} : seV T n n = -1 := if_neg (Nat.lt_irrefl n)
section NX
variable {d : Nat} {g : Nat → Nat → Int32} {q : Nat → Nat → Int64} {P : QT} {T : Nat → Nat} {n k : Nat}
theorem s_see (hM : TT T n k g) {i : Nat} (hi : i ≤ n) : callC (ev (d + 1)) mo_see [.ref 196, .int (nI i)] (E g q) P = P (some (.int (seV T n i))) (E g q) := by
  refine call_eq (in_mo_see rfl ?_)
  obtain ⟨h1, h2, h3, -⟩ := hM
  rw [b_mo_see_0]
  simp -implicitDefEqProofs (disch := first | assumption | omega) only [szS_0, szS_i, szS_r, szS_l, x_cons, x_goto, ob_some, kl_i, kl_r, kl_l, kl_n, push_n, push_s, pop_0, pop_i, pop_r, Int.reduceToNat, List.length_cons, List.length_nil, Nat.reduceAdd, Nat.reduceLeDiff, Nat.zero_add, true_and, nI_n0, nat_le, Nat.add_zero, rt_mo_see, x_al0, x_getf, x_goto, x_iaload, x_icge, x_il1, x_iret, x_m1, fd_196_0, fd_196_1, fd_196_2, fd_196_3, fd_196_4, sf_196_4, fd_196_5, sf_196_5, fd_196_6, fd_196_7, fd_196_8, fd_196_9, fd_196_10, fd_196_11, fd_196_12, sf_196_12, fd_196_13, sf_196_13, fd_196_14, sf_196_14, fd_196_15, sf_196_15, fd_196_16, sf_196_16, fd_196_17, sf_196_17, fd_196_18, sf_196_18, fd_196_19, sf_196_19, fd_196_20, sf_196_20, fd_196_21, sf_196_21, fd_196_22, sf_196_22, fd_196_23, sf_196_23, fd_196_24, sf_196_24, fd_196_25, sf_196_25, fd_196_26, sf_196_26, fd_196_27, fd_196_28, fd_196_29, fd_196_30, sf_196_30, fd_196_31, fd_196_32, fd_196_33, fd_196_34, fd_196_35, fd_196_36, fd_196_37, sf_196_37, fd_196_38, fd_196_39, sf_196_39, fd_196_40, sf_196_40, fd_196_41, sf_196_41, fd_196_42, fd_196_43, fd_196_44, h1, nI_ltE]
  by_cases h : i < n
  · have e := (h3 i h).1
    simp -implicitDefEqProofs (disch := first | assumption | omega) only [h, ↓reduceIte, szS_0, szS_i, szS_r, szS_l, x_cons, x_goto, ob_some, kl_i, kl_r, kl_l, kl_n, push_n, push_s, pop_0, pop_i, pop_r, Int.reduceToNat, List.length_cons, List.length_nil, Nat.reduceAdd, Nat.reduceLeDiff, Nat.zero_add, true_and, nI_n0, nat_le, Nat.add_zero, rt_mo_see, x_al0, x_getf, x_goto, x_iaload, x_icge, x_il1, x_iret, x_m1, fd_196_0, fd_196_1, fd_196_2, fd_196_3, fd_196_4, sf_196_4, fd_196_5, sf_196_5, fd_196_6, fd_196_7, fd_196_8, fd_196_9, fd_196_10, fd_196_11, fd_196_12, sf_196_12, fd_196_13, sf_196_13, fd_196_14, sf_196_14, fd_196_15, sf_196_15, fd_196_16, sf_196_16, fd_196_17, sf_196_17, fd_196_18, sf_196_18, fd_196_19, sf_196_19, fd_196_20, sf_196_20, fd_196_21, sf_196_21, fd_196_22, sf_196_22, fd_196_23, sf_196_23, fd_196_24, sf_196_24, fd_196_25, sf_196_25, fd_196_26, sf_196_26, fd_196_27, fd_196_28, fd_196_29, fd_196_30, sf_196_30, fd_196_31, fd_196_32, fd_196_33, fd_196_34, fd_196_35, fd_196_36, fd_196_37, sf_196_37, fd_196_38, fd_196_39, sf_196_39, fd_196_40, sf_196_40, fd_196_41, sf_196_41, fd_196_42, fd_196_43, fd_196_44, ld_204, sd_204, ln_204, e, seV_1, b_mo_see_18]
    all_goals first | rfl | exact ⟨rfl, rfl⟩ | exact ⟨rfl, trivial⟩ | exact ⟨trivial, rfl⟩ | trivial
  · have e : i = n := by omega
    subst e
    simp -implicitDefEqProofs (disch := first | assumption | omega) only [h, ↓reduceIte, b_mo_see_17, b_mo_see_18, szS_0, szS_i, szS_r, szS_l, x_cons, x_goto, ob_some, kl_i, kl_r, kl_l, kl_n, push_n, push_s, pop_0, pop_i, pop_r, Int.reduceToNat, List.length_cons, List.length_nil, Nat.reduceAdd, Nat.reduceLeDiff, Nat.zero_add, true_and, nI_n0, nat_le, Nat.add_zero, rt_mo_see, x_al0, x_getf, x_goto, x_iaload, x_icge, x_il1, x_iret, x_m1, seV_0]
    all_goals first | rfl | exact ⟨rfl, rfl⟩ | exact ⟨rfl, trivial⟩ | exact ⟨trivial, rfl⟩ | trivial
theorem s_mletter {v : Int32} : callC (ev (d + 2)) mo_isLetter [.int v] (E g q) P = P (some (.int (bI (decide (nI 97 ≤ v ∧ v ≤ nI 122) || decide (nI 65 ≤ v ∧ v ≤ nI 90))))) (E g q) := by
  refine call_eq (in_mo_isLetter rfl ?_)
  rw [b_mo_isLetter_0]
  simp -implicitDefEqProofs (disch := first | assumption | omega) only [szS_0, szS_i, szS_r, szS_l, x_cons, x_goto, ob_some, kl_i, kl_r, kl_l, kl_n, push_n, push_s, pop_0, pop_i, pop_r, Int.reduceToNat, List.length_cons, List.length_nil, Nat.reduceAdd, Nat.reduceLeDiff, Nat.zero_add, true_and, nI_n0, nat_le, Nat.add_zero, rt_mo_isLetter_0, rt_mo_isLetter_1, rt_mo_isLetter_b, x_call, x_goto, x_ifeq, x_ifne, x_il0, x_iret, x_ldc, s_isIn, bI_0]
  cases decide (nI 97 ≤ v ∧ v ≤ nI 122)
  · simp -implicitDefEqProofs (disch := first | assumption | omega) only [↓reduceIte, szS_0, szS_i, szS_r, szS_l, x_cons, x_goto, ob_some, kl_i, kl_r, kl_l, kl_n, push_n, push_s, pop_0, pop_i, pop_r, Int.reduceToNat, List.length_cons, List.length_nil, Nat.reduceAdd, Nat.reduceLeDiff, Nat.zero_add, true_and, nI_n0, nat_le, Nat.add_zero, rt_mo_isLetter_0, rt_mo_isLetter_1, rt_mo_isLetter_b, x_call, x_goto, x_ifeq, x_ifne, x_il0, x_iret, x_ldc, s_isIn, bI_0]
    cases decide (nI 65 ≤ v ∧ v ≤ nI 90)
    · simp -implicitDefEqProofs (disch := first | assumption | omega) only [↓reduceIte, b_mo_isLetter_26, b_mo_isLetter_27, szS_0, szS_i, szS_r, szS_l, x_cons, x_goto, ob_some, kl_i, kl_r, kl_l, kl_n, push_n, push_s, pop_0, pop_i, pop_r, Int.reduceToNat, List.length_cons, List.length_nil, Nat.reduceAdd, Nat.reduceLeDiff, Nat.zero_add, true_and, nI_n0, nat_le, Nat.add_zero, rt_mo_isLetter_0, rt_mo_isLetter_1, rt_mo_isLetter_b, x_call, x_goto, x_ifeq, x_ifne, x_il0, x_iret, x_ldc]
      all_goals first | rfl | exact ⟨rfl, rfl⟩ | exact ⟨rfl, trivial⟩ | exact ⟨trivial, rfl⟩ | trivial
    · simp -implicitDefEqProofs (disch := first | assumption | omega) only [Bool.true_eq_false, ↓reduceIte, b_mo_isLetter_22, b_mo_isLetter_27, szS_0, szS_i, szS_r, szS_l, x_cons, x_goto, ob_some, kl_i, kl_r, kl_l, kl_n, push_n, push_s, pop_0, pop_i, pop_r, Int.reduceToNat, List.length_cons, List.length_nil, Nat.reduceAdd, Nat.reduceLeDiff, Nat.zero_add, true_and, nI_n0, nat_le, Nat.add_zero, rt_mo_isLetter_0, rt_mo_isLetter_1, rt_mo_isLetter_b, x_call, x_goto, x_ifeq, x_ifne, x_il0, x_iret, x_ldc]
      all_goals first | rfl | exact ⟨rfl, rfl⟩ | exact ⟨rfl, trivial⟩ | exact ⟨trivial, rfl⟩ | trivial
  · simp -implicitDefEqProofs (disch := first | assumption | omega) only [Bool.true_eq_false, ↓reduceIte, b_mo_isLetter_22, b_mo_isLetter_27, szS_0, szS_i, szS_r, szS_l, x_cons, x_goto, ob_some, kl_i, kl_r, kl_l, kl_n, push_n, push_s, pop_0, pop_i, pop_r, Int.reduceToNat, List.length_cons, List.length_nil, Nat.reduceAdd, Nat.reduceLeDiff, Nat.zero_add, true_and, nI_n0, nat_le, Nat.add_zero, rt_mo_isLetter_0, rt_mo_isLetter_1, rt_mo_isLetter_b, x_call, x_goto, x_ifeq, x_ifne, x_il0, x_iret, x_ldc]
    all_goals first | rfl | exact ⟨rfl, rfl⟩ | exact ⟨rfl, trivial⟩ | exact ⟨trivial, rfl⟩ | trivial
theorem s_mdigit {v : Int32} : callC (ev (d + 2)) mo_isDigit [.int v] (E g q) P = P (some (.int (bI (decide (nI 48 ≤ v ∧ v ≤ nI 57))))) (E g q) := by
  refine call_eq (in_mo_isDigit rfl ?_)
  rw [b_mo_isDigit_0]
  simp -implicitDefEqProofs (disch := first | assumption | omega) only [szS_0, szS_i, szS_r, szS_l, x_cons, x_goto, ob_some, kl_i, kl_r, kl_l, kl_n, push_n, push_s, pop_0, pop_i, pop_r, Int.reduceToNat, List.length_cons, List.length_nil, Nat.reduceAdd, Nat.reduceLeDiff, Nat.zero_add, true_and, nI_n0, nat_le, Nat.add_zero, rt_mo_isDigit_0, rt_mo_isDigit_1, rt_mo_isDigit_b, x_call, x_il0, x_iret, x_ldc, s_isIn]
  all_goals first | rfl | exact ⟨rfl, rfl⟩ | exact ⟨rfl, trivial⟩ | exact ⟨trivial, rfl⟩ | trivial
theorem ltr_v {x : Nat} (hx : x < 256) : (decide (nI 97 ≤ nI x ∧ nI x ≤ nI 122) || decide (nI 65 ≤ nI x ∧ nI x ≤ nI 90)) = ltr x := by
  unfold ltr
  rw [← Bool.decide_or]
  exact decide_eq_decide.mpr (by rw [nI_leE (by decide) (by omega), nI_leE (by omega) (by decide), nI_leE (by decide) (by omega), nI_leE (by omega) (by decide)])
theorem dgt_v {x : Nat} (hx : x < 256) : decide (nI 48 ≤ nI x ∧ nI x ≤ nI 57) = dgt x := by
  unfold dgt
  exact decide_eq_decide.mpr (by rw [nI_leE (by decide) (by omega), nI_leE (by omega) (by decide)])
theorem ltr_m : (decide (nI 97 ≤ -1 ∧ -1 ≤ nI 122) || decide (nI 65 ≤ -1 ∧ -1 ≤ nI 90)) = false := by decide
theorem dgt_m : decide (nI 48 ≤ -1 ∧ -1 ≤ nI 57) = false := by decide
/-- whether a text stands there -/
theorem mi_lp3 (hM : TT T n k g) {id b e : Nat} (hk : id < 25) (h20 : g 196 20 = nI b) (hbe : b ≤ e) (hen : e ≤ n) (H : P (some (.int (bI (wmt T id b e)))) (E g q)) : ∀ (j i : Nat) (c : Bool), i + j = sL id → c = (decide (e - b = sL id) && allb (fun i => decide (T (b + i) = sB id i)) i) →
    wp (ev (d + 4)) P mo_is 24 [some (.ref 196), some (.ref (100000 + id)), some (.int (bI c)), some (.int (nI i))] [] (E g q) := by
  have hl := sL_l hk
  obtain ⟨h1, h2, h3, -⟩ := hM
  have hsm : ∀ (i j : Nat) (c : Bool), i + j = sL id → c = false → c = (decide (e - b = sL id) && allb (fun i => decide (T (b + i) = sB id i)) i) → wmt T id b e = false := by
    intro i j c hi hc he
    cases hw : wmt T id b e
    · rfl
    · obtain ⟨a1, a2⟩ := wmt_i.mp hw
      rw [hc, decide_eq_true a1, allb_i.mpr fun x hx => decide_eq_true (a2 x (by omega))] at he
      cases he
  intro j
  induction j with
  | zero =>
    intro i c hi hc
    have hi : i = sL id := hi
    subst hi
    have hc : c = wmt T id b e := hc
    rw [← hc] at H
    rw [b_mo_is_24]
    simp -implicitDefEqProofs (disch := first | assumption | omega) only [szS_0, szS_i, szS_r, szS_l, x_cons, x_goto, ob_some, kl_i, kl_r, kl_l, kl_n, push_n, push_s, pop_0, pop_i, pop_r, Int.reduceToNat, List.length_cons, List.length_nil, Nat.reduceAdd, Nat.reduceLeDiff, Nat.zero_add, true_and, nI_n0, nat_le, Nat.add_zero, i_1, rt_mo_is_0, rt_mo_is_1, rt_mo_is_b, x_al0, x_al1, x_call, x_getf, x_goto, x_iadd, x_iaload, x_icge, x_icne, x_ifeq, x_il2, x_il3, x_inc3, x_iret, x_is2, x_is3, x_isub, x_ldc, s_len hk, nI_ltE, Nat.lt_irrefl, ↓reduceIte, b_mo_is_67]
    exact H
  | succ j ih =>
    intro i c hi hc
    have hi' : i < sL id := by omega
    have hb := sB_ok hk hi'
    rw [b_mo_is_24]
    simp -implicitDefEqProofs (disch := first | assumption | omega) only [szS_0, szS_i, szS_r, szS_l, x_cons, x_goto, ob_some, kl_i, kl_r, kl_l, kl_n, push_n, push_s, pop_0, pop_i, pop_r, Int.reduceToNat, List.length_cons, List.length_nil, Nat.reduceAdd, Nat.reduceLeDiff, Nat.zero_add, true_and, nI_n0, nat_le, Nat.add_zero, i_1, rt_mo_is_0, rt_mo_is_1, rt_mo_is_b, x_al0, x_al1, x_call, x_getf, x_goto, x_iadd, x_iaload, x_icge, x_icne, x_ifeq, x_il2, x_il3, x_inc3, x_iret, x_is2, x_is3, x_isub, x_ldc, s_len hk, nI_ltE, hi', ↓reduceIte, bI_0]
    cases hcb : c
    · rw [hsm i (j + 1) c hi hcb hc] at H
      simp -implicitDefEqProofs (disch := first | assumption | omega) only [↓reduceIte, b_mo_is_67, szS_0, szS_i, szS_r, szS_l, x_cons, x_goto, ob_some, kl_i, kl_r, kl_l, kl_n, push_n, push_s, pop_0, pop_i, pop_r, Int.reduceToNat, List.length_cons, List.length_nil, Nat.reduceAdd, Nat.reduceLeDiff, Nat.zero_add, true_and, nI_n0, nat_le, Nat.add_zero, i_1, rt_mo_is_0, rt_mo_is_1, rt_mo_is_b, x_al0, x_al1, x_call, x_getf, x_goto, x_iadd, x_iaload, x_icge, x_icne, x_ifeq, x_il2, x_il3, x_inc3, x_iret, x_is2, x_is3, x_isub, x_ldc]
      exact H
    · rw [hcb] at hc
      have hc2 := hc.symm
      rw [Bool.and_eq_true] at hc2
      have hlen := of_decide_eq_true hc2.1
      have eT := (h3 (b + i) (by omega)).1
      have eL := (h3 (b + i) (by omega)).2
      have en : allb (fun i => decide (T (b + i) = sB id i)) (i + 1) = (allb (fun i => decide (T (b + i) = sB id i)) i && decide (T (b + i) = sB id i)) := rfl
      rw [hc2.2, Bool.true_and] at en
      simp -implicitDefEqProofs (disch := first | assumption | omega) only [Bool.true_eq_false, ↓reduceIte, szS_0, szS_i, szS_r, szS_l, x_cons, x_goto, ob_some, kl_i, kl_r, kl_l, kl_n, push_n, push_s, pop_0, pop_i, pop_r, Int.reduceToNat, List.length_cons, List.length_nil, Nat.reduceAdd, Nat.reduceLeDiff, Nat.zero_add, true_and, nI_n0, nat_le, Nat.add_zero, i_1, rt_mo_is_0, rt_mo_is_1, rt_mo_is_b, x_al0, x_al1, x_call, x_getf, x_goto, x_iadd, x_iaload, x_icge, x_icne, x_ifeq, x_il2, x_il3, x_inc3, x_iret, x_is2, x_is3, x_isub, x_ldc, fd_196_0, fd_196_1, fd_196_2, fd_196_3, fd_196_4, sf_196_4, fd_196_5, sf_196_5, fd_196_6, fd_196_7, fd_196_8, fd_196_9, fd_196_10, fd_196_11, fd_196_12, sf_196_12, fd_196_13, sf_196_13, fd_196_14, sf_196_14, fd_196_15, sf_196_15, fd_196_16, sf_196_16, fd_196_17, sf_196_17, fd_196_18, sf_196_18, fd_196_19, sf_196_19, fd_196_20, sf_196_20, fd_196_21, sf_196_21, fd_196_22, sf_196_22, fd_196_23, sf_196_23, fd_196_24, sf_196_24, fd_196_25, sf_196_25, fd_196_26, sf_196_26, fd_196_27, fd_196_28, fd_196_29, fd_196_30, sf_196_30, fd_196_31, fd_196_32, fd_196_33, fd_196_34, fd_196_35, fd_196_36, fd_196_37, sf_196_37, fd_196_38, fd_196_39, sf_196_39, fd_196_40, sf_196_40, fd_196_41, sf_196_41, fd_196_42, fd_196_43, fd_196_44, h20, nI_add, ld_204, sd_204, ln_204, eT, s_charAt hk hi', nI_eqE]
      by_cases h : T (b + i) = sB id i
      · rw [decide_eq_true h] at en
        simp -implicitDefEqProofs (disch := first | assumption | omega) only [h, ↓reduceIte, szS_0, szS_i, szS_r, szS_l, x_cons, x_goto, ob_some, kl_i, kl_r, kl_l, kl_n, push_n, push_s, pop_0, pop_i, pop_r, Int.reduceToNat, List.length_cons, List.length_nil, Nat.reduceAdd, Nat.reduceLeDiff, Nat.zero_add, true_and, nI_n0, nat_le, Nat.add_zero, i_1, rt_mo_is_0, rt_mo_is_1, rt_mo_is_b, x_al0, x_al1, x_call, x_getf, x_goto, x_iadd, x_iaload, x_icge, x_icne, x_ifeq, x_il2, x_il3, x_inc3, x_iret, x_is2, x_is3, x_isub, x_ldc, b_mo_is_60, nI_add]
        exact ih (i + 1) true (by omega) (by rw [decide_eq_true hlen, en]; rfl)
      · rw [decide_eq_false h] at en
        simp -implicitDefEqProofs (disch := first | assumption | omega) only [h, ↓reduceIte, b_mo_is_59, b_mo_is_60, szS_0, szS_i, szS_r, szS_l, x_cons, x_goto, ob_some, kl_i, kl_r, kl_l, kl_n, push_n, push_s, pop_0, pop_i, pop_r, Int.reduceToNat, List.length_cons, List.length_nil, Nat.reduceAdd, Nat.reduceLeDiff, Nat.zero_add, true_and, nI_n0, nat_le, Nat.add_zero, i_1, rt_mo_is_0, rt_mo_is_1, rt_mo_is_b, x_al0, x_al1, x_call, x_getf, x_goto, x_iadd, x_iaload, x_icge, x_icne, x_ifeq, x_il2, x_il3, x_inc3, x_iret, x_is2, x_is3, x_isub, x_ldc, nI_add]
        exact ih (i + 1) false (by omega) (by rw [decide_eq_true hlen, en]; rfl)
theorem s_mis (hM : TT T n k g) {id b e : Nat} (hk : id < 25) (h18 : g 196 18 = nI e) (h20 : g 196 20 = nI b) (hbe : b ≤ e) (hen : e ≤ n) : callC (ev (d + 5)) mo_is [.ref 196, .ref (100000 + id)] (E g q) P = P (some (.int (bI (wmt T id b e)))) (E g q) := by
  refine call_eq (in_mo_is rfl ?_)
  have hl := sL_l hk
  have hn := hM.2.1
  rw [b_mo_is_0]
  simp -implicitDefEqProofs (disch := first | assumption | omega) only [szS_0, szS_i, szS_r, szS_l, x_cons, x_goto, ob_some, kl_i, kl_r, kl_l, kl_n, push_n, push_s, pop_0, pop_i, pop_r, Int.reduceToNat, List.length_cons, List.length_nil, Nat.reduceAdd, Nat.reduceLeDiff, Nat.zero_add, true_and, nI_n0, nat_le, Nat.add_zero, i_1, rt_mo_is_0, rt_mo_is_1, rt_mo_is_b, x_al0, x_al1, x_call, x_getf, x_goto, x_iadd, x_iaload, x_icge, x_icne, x_ifeq, x_il2, x_il3, x_inc3, x_iret, x_is2, x_is3, x_isub, x_ldc, fd_196_0, fd_196_1, fd_196_2, fd_196_3, fd_196_4, sf_196_4, fd_196_5, sf_196_5, fd_196_6, fd_196_7, fd_196_8, fd_196_9, fd_196_10, fd_196_11, fd_196_12, sf_196_12, fd_196_13, sf_196_13, fd_196_14, sf_196_14, fd_196_15, sf_196_15, fd_196_16, sf_196_16, fd_196_17, sf_196_17, fd_196_18, sf_196_18, fd_196_19, sf_196_19, fd_196_20, sf_196_20, fd_196_21, sf_196_21, fd_196_22, sf_196_22, fd_196_23, sf_196_23, fd_196_24, sf_196_24, fd_196_25, sf_196_25, fd_196_26, sf_196_26, fd_196_27, fd_196_28, fd_196_29, fd_196_30, sf_196_30, fd_196_31, fd_196_32, fd_196_33, fd_196_34, fd_196_35, fd_196_36, fd_196_37, sf_196_37, fd_196_38, fd_196_39, sf_196_39, fd_196_40, sf_196_40, fd_196_41, sf_196_41, fd_196_42, fd_196_43, fd_196_44, h18, h20, nI_sub, s_len hk, nI_eqE]
  by_cases h : e - b = sL id
  · simp -implicitDefEqProofs (disch := first | assumption | omega) only [h, ↓reduceIte, szS_0, szS_i, szS_r, szS_l, x_cons, x_goto, ob_some, kl_i, kl_r, kl_l, kl_n, push_n, push_s, pop_0, pop_i, pop_r, Int.reduceToNat, List.length_cons, List.length_nil, Nat.reduceAdd, Nat.reduceLeDiff, Nat.zero_add, true_and, nI_n0, nat_le, Nat.add_zero, i_1, rt_mo_is_0, rt_mo_is_1, rt_mo_is_b, x_al0, x_al1, x_call, x_getf, x_goto, x_iadd, x_iaload, x_icge, x_icne, x_ifeq, x_il2, x_il3, x_inc3, x_iret, x_is2, x_is3, x_isub, x_ldc, b_mo_is_21]
    exact mi_lp3 hM hk h20 hbe hen ⟨rfl, rfl⟩ (sL id) 0 true (Nat.zero_add _) (by rw [decide_eq_true h]; rfl)
  · simp -implicitDefEqProofs (disch := first | assumption | omega) only [h, ↓reduceIte, b_mo_is_20, b_mo_is_21, szS_0, szS_i, szS_r, szS_l, x_cons, x_goto, ob_some, kl_i, kl_r, kl_l, kl_n, push_n, push_s, pop_0, pop_i, pop_r, Int.reduceToNat, List.length_cons, List.length_nil, Nat.reduceAdd, Nat.reduceLeDiff, Nat.zero_add, true_and, nI_n0, nat_le, Nat.add_zero, i_1, rt_mo_is_0, rt_mo_is_1, rt_mo_is_b, x_al0, x_al1, x_call, x_getf, x_goto, x_iadd, x_iaload, x_icge, x_icne, x_ifeq, x_il2, x_il3, x_inc3, x_iret, x_is2, x_is3, x_isub, x_ldc]
    exact mi_lp3 hM hk h20 hbe hen ⟨rfl, rfl⟩ (sL id) 0 false (Nat.zero_add _) (by rw [decide_eq_false h]; rfl)
theorem s_bothName (hM : TT T n k g) {b e : Nat} (h18 : g 196 18 = nI e) (h20 : g 196 20 = nI b) (hbe : b ≤ e) (hen : e ≤ n) : callC (ev (d + 6)) mo_bothName [.ref 196] (E g q) P = P (some (.int (nI (bothV T b e)))) (E g q) := by
  refine call_eq (in_mo_bothName rfl ?_)
  have m18 : ∀ Q : QT, callC (ev (d + 5)) mo_is [.ref 196, .ref 100018] (E g q) Q = Q (some (.int (bI (wmt T 18 b e)))) (E g q) := fun Q => s_mis (d := d + 0) (id := 18) hM (by decide) h18 h20 hbe hen
  have m19 : ∀ Q : QT, callC (ev (d + 5)) mo_is [.ref 196, .ref 100019] (E g q) Q = Q (some (.int (bI (wmt T 19 b e)))) (E g q) := fun Q => s_mis (d := d + 0) (id := 19) hM (by decide) h18 h20 hbe hen
  have m20 : ∀ Q : QT, callC (ev (d + 5)) mo_is [.ref 196, .ref 100020] (E g q) Q = Q (some (.int (bI (wmt T 20 b e)))) (E g q) := fun Q => s_mis (d := d + 0) (id := 20) hM (by decide) h18 h20 hbe hen
  have m21 : ∀ Q : QT, callC (ev (d + 5)) mo_is [.ref 196, .ref 100021] (E g q) Q = Q (some (.int (bI (wmt T 21 b e)))) (E g q) := fun Q => s_mis (d := d + 0) (id := 21) hM (by decide) h18 h20 hbe hen
  have m22 : ∀ Q : QT, callC (ev (d + 5)) mo_is [.ref 196, .ref 100022] (E g q) Q = Q (some (.int (bI (wmt T 22 b e)))) (E g q) := fun Q => s_mis (d := d + 0) (id := 22) hM (by decide) h18 h20 hbe hen
  unfold bothV
  rw [b_mo_bothName_0]
  simp -implicitDefEqProofs (disch := first | assumption | omega) only [szS_0, szS_i, szS_r, szS_l, x_cons, x_goto, ob_some, kl_i, kl_r, kl_l, kl_n, push_n, push_s, pop_0, pop_i, pop_r, Int.reduceToNat, List.length_cons, List.length_nil, Nat.reduceAdd, Nat.reduceLeDiff, Nat.zero_add, true_and, nI_n0, nat_le, Nat.add_zero, rt_mo_bothName, x_al0, x_call, x_goto, x_ifeq, x_iret, x_ldc, x_str, m18, bI_0]
  cases wmt T 18 b e
  rotate_left
  · simp -implicitDefEqProofs (disch := first | assumption | omega) only [Bool.true_eq_false, ↓reduceIte, szS_0, szS_i, szS_r, szS_l, x_cons, x_goto, ob_some, kl_i, kl_r, kl_l, kl_n, push_n, push_s, pop_0, pop_i, pop_r, Int.reduceToNat, List.length_cons, List.length_nil, Nat.reduceAdd, Nat.reduceLeDiff, Nat.zero_add, true_and, nI_n0, nat_le, Nat.add_zero, rt_mo_bothName, x_al0, x_call, x_goto, x_ifeq, x_iret, x_ldc, x_str]
    all_goals first | rfl | exact ⟨rfl, rfl⟩ | exact ⟨rfl, trivial⟩ | exact ⟨trivial, rfl⟩ | trivial
  simp -implicitDefEqProofs (disch := first | assumption | omega) only [↓reduceIte, Bool.false_eq_true, b_mo_bothName_12, szS_0, szS_i, szS_r, szS_l, x_cons, x_goto, ob_some, kl_i, kl_r, kl_l, kl_n, push_n, push_s, pop_0, pop_i, pop_r, Int.reduceToNat, List.length_cons, List.length_nil, Nat.reduceAdd, Nat.reduceLeDiff, Nat.zero_add, true_and, nI_n0, nat_le, Nat.add_zero, rt_mo_bothName, x_al0, x_call, x_goto, x_ifeq, x_iret, x_ldc, x_str, m19, bI_0]
  cases wmt T 19 b e
  rotate_left
  · simp -implicitDefEqProofs (disch := first | assumption | omega) only [Bool.true_eq_false, ↓reduceIte, szS_0, szS_i, szS_r, szS_l, x_cons, x_goto, ob_some, kl_i, kl_r, kl_l, kl_n, push_n, push_s, pop_0, pop_i, pop_r, Int.reduceToNat, List.length_cons, List.length_nil, Nat.reduceAdd, Nat.reduceLeDiff, Nat.zero_add, true_and, nI_n0, nat_le, Nat.add_zero, rt_mo_bothName, x_al0, x_call, x_goto, x_ifeq, x_iret, x_ldc, x_str]
    all_goals first | rfl | exact ⟨rfl, rfl⟩ | exact ⟨rfl, trivial⟩ | exact ⟨trivial, rfl⟩ | trivial
  simp -implicitDefEqProofs (disch := first | assumption | omega) only [↓reduceIte, Bool.false_eq_true, b_mo_bothName_24, szS_0, szS_i, szS_r, szS_l, x_cons, x_goto, ob_some, kl_i, kl_r, kl_l, kl_n, push_n, push_s, pop_0, pop_i, pop_r, Int.reduceToNat, List.length_cons, List.length_nil, Nat.reduceAdd, Nat.reduceLeDiff, Nat.zero_add, true_and, nI_n0, nat_le, Nat.add_zero, rt_mo_bothName, x_al0, x_call, x_goto, x_ifeq, x_iret, x_ldc, x_str, m20, bI_0]
  cases wmt T 20 b e
  rotate_left
  · simp -implicitDefEqProofs (disch := first | assumption | omega) only [Bool.true_eq_false, ↓reduceIte, szS_0, szS_i, szS_r, szS_l, x_cons, x_goto, ob_some, kl_i, kl_r, kl_l, kl_n, push_n, push_s, pop_0, pop_i, pop_r, Int.reduceToNat, List.length_cons, List.length_nil, Nat.reduceAdd, Nat.reduceLeDiff, Nat.zero_add, true_and, nI_n0, nat_le, Nat.add_zero, rt_mo_bothName, x_al0, x_call, x_goto, x_ifeq, x_iret, x_ldc, x_str]
    all_goals first | rfl | exact ⟨rfl, rfl⟩ | exact ⟨rfl, trivial⟩ | exact ⟨trivial, rfl⟩ | trivial
  simp -implicitDefEqProofs (disch := first | assumption | omega) only [↓reduceIte, Bool.false_eq_true, b_mo_bothName_36, szS_0, szS_i, szS_r, szS_l, x_cons, x_goto, ob_some, kl_i, kl_r, kl_l, kl_n, push_n, push_s, pop_0, pop_i, pop_r, Int.reduceToNat, List.length_cons, List.length_nil, Nat.reduceAdd, Nat.reduceLeDiff, Nat.zero_add, true_and, nI_n0, nat_le, Nat.add_zero, rt_mo_bothName, x_al0, x_call, x_goto, x_ifeq, x_iret, x_ldc, x_str, m21, bI_0]
  cases wmt T 21 b e
  rotate_left
  · simp -implicitDefEqProofs (disch := first | assumption | omega) only [Bool.true_eq_false, ↓reduceIte, szS_0, szS_i, szS_r, szS_l, x_cons, x_goto, ob_some, kl_i, kl_r, kl_l, kl_n, push_n, push_s, pop_0, pop_i, pop_r, Int.reduceToNat, List.length_cons, List.length_nil, Nat.reduceAdd, Nat.reduceLeDiff, Nat.zero_add, true_and, nI_n0, nat_le, Nat.add_zero, rt_mo_bothName, x_al0, x_call, x_goto, x_ifeq, x_iret, x_ldc, x_str]
    all_goals first | rfl | exact ⟨rfl, rfl⟩ | exact ⟨rfl, trivial⟩ | exact ⟨trivial, rfl⟩ | trivial
  simp -implicitDefEqProofs (disch := first | assumption | omega) only [↓reduceIte, Bool.false_eq_true, b_mo_bothName_48, szS_0, szS_i, szS_r, szS_l, x_cons, x_goto, ob_some, kl_i, kl_r, kl_l, kl_n, push_n, push_s, pop_0, pop_i, pop_r, Int.reduceToNat, List.length_cons, List.length_nil, Nat.reduceAdd, Nat.reduceLeDiff, Nat.zero_add, true_and, nI_n0, nat_le, Nat.add_zero, rt_mo_bothName, x_al0, x_call, x_goto, x_ifeq, x_iret, x_ldc, x_str, m22, bI_0]
  cases wmt T 22 b e
  rotate_left
  · simp -implicitDefEqProofs (disch := first | assumption | omega) only [Bool.true_eq_false, ↓reduceIte, b_mo_bothName_63, szS_0, szS_i, szS_r, szS_l, x_cons, x_goto, ob_some, kl_i, kl_r, kl_l, kl_n, push_n, push_s, pop_0, pop_i, pop_r, Int.reduceToNat, List.length_cons, List.length_nil, Nat.reduceAdd, Nat.reduceLeDiff, Nat.zero_add, true_and, nI_n0, nat_le, Nat.add_zero, rt_mo_bothName, x_al0, x_call, x_goto, x_ifeq, x_iret, x_ldc, x_str]
    all_goals first | rfl | exact ⟨rfl, rfl⟩ | exact ⟨rfl, trivial⟩ | exact ⟨trivial, rfl⟩ | trivial
  simp -implicitDefEqProofs (disch := first | assumption | omega) only [↓reduceIte, Bool.false_eq_true, b_mo_bothName_62, b_mo_bothName_63, szS_0, szS_i, szS_r, szS_l, x_cons, x_goto, ob_some, kl_i, kl_r, kl_l, kl_n, push_n, push_s, pop_0, pop_i, pop_r, Int.reduceToNat, List.length_cons, List.length_nil, Nat.reduceAdd, Nat.reduceLeDiff, Nat.zero_add, true_and, nI_n0, nat_le, Nat.add_zero, rt_mo_bothName, x_al0, x_call, x_goto, x_ifeq, x_iret, x_ldc, x_str]
  all_goals first | rfl | exact ⟨rfl, rfl⟩ | exact ⟨rfl, trivial⟩ | exact ⟨trivial, rfl⟩ | trivial
theorem s_voteName (hM : TT T n k g) {b e : Nat} (h18 : g 196 18 = nI e) (h20 : g 196 20 = nI b) (hbe : b ≤ e) (hen : e ≤ n) : callC (ev (d + 7)) mo_voteName [.ref 196] (E g q) P = P (some (.int (nI (voteV T b e)))) (E g q) := by
  refine call_eq (in_mo_voteName rfl ?_)
  have m13 : ∀ Q : QT, callC (ev (d + 6)) mo_is [.ref 196, .ref 100013] (E g q) Q = Q (some (.int (bI (wmt T 13 b e)))) (E g q) := fun Q => s_mis (d := d + 1) (id := 13) hM (by decide) h18 h20 hbe hen
  have m14 : ∀ Q : QT, callC (ev (d + 6)) mo_is [.ref 196, .ref 100014] (E g q) Q = Q (some (.int (bI (wmt T 14 b e)))) (E g q) := fun Q => s_mis (d := d + 1) (id := 14) hM (by decide) h18 h20 hbe hen
  have m15 : ∀ Q : QT, callC (ev (d + 6)) mo_is [.ref 196, .ref 100015] (E g q) Q = Q (some (.int (bI (wmt T 15 b e)))) (E g q) := fun Q => s_mis (d := d + 1) (id := 15) hM (by decide) h18 h20 hbe hen
  have m16 : ∀ Q : QT, callC (ev (d + 6)) mo_is [.ref 196, .ref 100016] (E g q) Q = Q (some (.int (bI (wmt T 16 b e)))) (E g q) := fun Q => s_mis (d := d + 1) (id := 16) hM (by decide) h18 h20 hbe hen
  have m4 : ∀ Q : QT, callC (ev (d + 6)) mo_is [.ref 196, .ref 100004] (E g q) Q = Q (some (.int (bI (wmt T 4 b e)))) (E g q) := fun Q => s_mis (d := d + 1) (id := 4) hM (by decide) h18 h20 hbe hen
  have m17 : ∀ Q : QT, callC (ev (d + 6)) mo_is [.ref 196, .ref 100017] (E g q) Q = Q (some (.int (bI (wmt T 17 b e)))) (E g q) := fun Q => s_mis (d := d + 1) (id := 17) hM (by decide) h18 h20 hbe hen
  unfold voteV
  rw [b_mo_voteName_0]
  simp -implicitDefEqProofs (disch := first | assumption | omega) only [szS_0, szS_i, szS_r, szS_l, x_cons, x_goto, ob_some, kl_i, kl_r, kl_l, kl_n, push_n, push_s, pop_0, pop_i, pop_r, Int.reduceToNat, List.length_cons, List.length_nil, Nat.reduceAdd, Nat.reduceLeDiff, Nat.zero_add, true_and, nI_n0, nat_le, Nat.add_zero, rt_mo_voteName, x_al0, x_call, x_goto, x_ifeq, x_iret, x_ldc, x_str, m13, bI_0]
  cases wmt T 13 b e
  rotate_left
  · simp -implicitDefEqProofs (disch := first | assumption | omega) only [Bool.true_eq_false, ↓reduceIte, szS_0, szS_i, szS_r, szS_l, x_cons, x_goto, ob_some, kl_i, kl_r, kl_l, kl_n, push_n, push_s, pop_0, pop_i, pop_r, Int.reduceToNat, List.length_cons, List.length_nil, Nat.reduceAdd, Nat.reduceLeDiff, Nat.zero_add, true_and, nI_n0, nat_le, Nat.add_zero, rt_mo_voteName, x_al0, x_call, x_goto, x_ifeq, x_iret, x_ldc, x_str]
    all_goals first | rfl | exact ⟨rfl, rfl⟩ | exact ⟨rfl, trivial⟩ | exact ⟨trivial, rfl⟩ | trivial
  simp -implicitDefEqProofs (disch := first | assumption | omega) only [↓reduceIte, Bool.false_eq_true, b_mo_voteName_12, szS_0, szS_i, szS_r, szS_l, x_cons, x_goto, ob_some, kl_i, kl_r, kl_l, kl_n, push_n, push_s, pop_0, pop_i, pop_r, Int.reduceToNat, List.length_cons, List.length_nil, Nat.reduceAdd, Nat.reduceLeDiff, Nat.zero_add, true_and, nI_n0, nat_le, Nat.add_zero, rt_mo_voteName, x_al0, x_call, x_goto, x_ifeq, x_iret, x_ldc, x_str, m14, bI_0]
  cases wmt T 14 b e
  rotate_left
  · simp -implicitDefEqProofs (disch := first | assumption | omega) only [Bool.true_eq_false, ↓reduceIte, szS_0, szS_i, szS_r, szS_l, x_cons, x_goto, ob_some, kl_i, kl_r, kl_l, kl_n, push_n, push_s, pop_0, pop_i, pop_r, Int.reduceToNat, List.length_cons, List.length_nil, Nat.reduceAdd, Nat.reduceLeDiff, Nat.zero_add, true_and, nI_n0, nat_le, Nat.add_zero, rt_mo_voteName, x_al0, x_call, x_goto, x_ifeq, x_iret, x_ldc, x_str]
    all_goals first | rfl | exact ⟨rfl, rfl⟩ | exact ⟨rfl, trivial⟩ | exact ⟨trivial, rfl⟩ | trivial
  simp -implicitDefEqProofs (disch := first | assumption | omega) only [↓reduceIte, Bool.false_eq_true, b_mo_voteName_24, szS_0, szS_i, szS_r, szS_l, x_cons, x_goto, ob_some, kl_i, kl_r, kl_l, kl_n, push_n, push_s, pop_0, pop_i, pop_r, Int.reduceToNat, List.length_cons, List.length_nil, Nat.reduceAdd, Nat.reduceLeDiff, Nat.zero_add, true_and, nI_n0, nat_le, Nat.add_zero, rt_mo_voteName, x_al0, x_call, x_goto, x_ifeq, x_iret, x_ldc, x_str, m15, bI_0]
  cases wmt T 15 b e
  rotate_left
  · simp -implicitDefEqProofs (disch := first | assumption | omega) only [Bool.true_eq_false, ↓reduceIte, szS_0, szS_i, szS_r, szS_l, x_cons, x_goto, ob_some, kl_i, kl_r, kl_l, kl_n, push_n, push_s, pop_0, pop_i, pop_r, Int.reduceToNat, List.length_cons, List.length_nil, Nat.reduceAdd, Nat.reduceLeDiff, Nat.zero_add, true_and, nI_n0, nat_le, Nat.add_zero, rt_mo_voteName, x_al0, x_call, x_goto, x_ifeq, x_iret, x_ldc, x_str]
    all_goals first | rfl | exact ⟨rfl, rfl⟩ | exact ⟨rfl, trivial⟩ | exact ⟨trivial, rfl⟩ | trivial
  simp -implicitDefEqProofs (disch := first | assumption | omega) only [↓reduceIte, Bool.false_eq_true, b_mo_voteName_36, szS_0, szS_i, szS_r, szS_l, x_cons, x_goto, ob_some, kl_i, kl_r, kl_l, kl_n, push_n, push_s, pop_0, pop_i, pop_r, Int.reduceToNat, List.length_cons, List.length_nil, Nat.reduceAdd, Nat.reduceLeDiff, Nat.zero_add, true_and, nI_n0, nat_le, Nat.add_zero, rt_mo_voteName, x_al0, x_call, x_goto, x_ifeq, x_iret, x_ldc, x_str, m16, bI_0]
  cases wmt T 16 b e
  rotate_left
  · simp -implicitDefEqProofs (disch := first | assumption | omega) only [Bool.true_eq_false, ↓reduceIte, szS_0, szS_i, szS_r, szS_l, x_cons, x_goto, ob_some, kl_i, kl_r, kl_l, kl_n, push_n, push_s, pop_0, pop_i, pop_r, Int.reduceToNat, List.length_cons, List.length_nil, Nat.reduceAdd, Nat.reduceLeDiff, Nat.zero_add, true_and, nI_n0, nat_le, Nat.add_zero, rt_mo_voteName, x_al0, x_call, x_goto, x_ifeq, x_iret, x_ldc, x_str]
    all_goals first | rfl | exact ⟨rfl, rfl⟩ | exact ⟨rfl, trivial⟩ | exact ⟨trivial, rfl⟩ | trivial
  simp -implicitDefEqProofs (disch := first | assumption | omega) only [↓reduceIte, Bool.false_eq_true, b_mo_voteName_48, szS_0, szS_i, szS_r, szS_l, x_cons, x_goto, ob_some, kl_i, kl_r, kl_l, kl_n, push_n, push_s, pop_0, pop_i, pop_r, Int.reduceToNat, List.length_cons, List.length_nil, Nat.reduceAdd, Nat.reduceLeDiff, Nat.zero_add, true_and, nI_n0, nat_le, Nat.add_zero, rt_mo_voteName, x_al0, x_call, x_goto, x_ifeq, x_iret, x_ldc, x_str, m4, bI_0]
  cases wmt T 4 b e
  rotate_left
  · simp -implicitDefEqProofs (disch := first | assumption | omega) only [Bool.true_eq_false, ↓reduceIte, szS_0, szS_i, szS_r, szS_l, x_cons, x_goto, ob_some, kl_i, kl_r, kl_l, kl_n, push_n, push_s, pop_0, pop_i, pop_r, Int.reduceToNat, List.length_cons, List.length_nil, Nat.reduceAdd, Nat.reduceLeDiff, Nat.zero_add, true_and, nI_n0, nat_le, Nat.add_zero, rt_mo_voteName, x_al0, x_call, x_goto, x_ifeq, x_iret, x_ldc, x_str]
    all_goals first | rfl | exact ⟨rfl, rfl⟩ | exact ⟨rfl, trivial⟩ | exact ⟨trivial, rfl⟩ | trivial
  simp -implicitDefEqProofs (disch := first | assumption | omega) only [↓reduceIte, Bool.false_eq_true, b_mo_voteName_60, szS_0, szS_i, szS_r, szS_l, x_cons, x_goto, ob_some, kl_i, kl_r, kl_l, kl_n, push_n, push_s, pop_0, pop_i, pop_r, Int.reduceToNat, List.length_cons, List.length_nil, Nat.reduceAdd, Nat.reduceLeDiff, Nat.zero_add, true_and, nI_n0, nat_le, Nat.add_zero, rt_mo_voteName, x_al0, x_call, x_goto, x_ifeq, x_iret, x_ldc, x_str, m17, bI_0]
  cases wmt T 17 b e
  rotate_left
  · simp -implicitDefEqProofs (disch := first | assumption | omega) only [Bool.true_eq_false, ↓reduceIte, b_mo_voteName_78, szS_0, szS_i, szS_r, szS_l, x_cons, x_goto, ob_some, kl_i, kl_r, kl_l, kl_n, push_n, push_s, pop_0, pop_i, pop_r, Int.reduceToNat, List.length_cons, List.length_nil, Nat.reduceAdd, Nat.reduceLeDiff, Nat.zero_add, true_and, nI_n0, nat_le, Nat.add_zero, rt_mo_voteName, x_al0, x_call, x_goto, x_ifeq, x_iret, x_ldc, x_str]
    all_goals first | rfl | exact ⟨rfl, rfl⟩ | exact ⟨rfl, trivial⟩ | exact ⟨trivial, rfl⟩ | trivial
  simp -implicitDefEqProofs (disch := first | assumption | omega) only [↓reduceIte, Bool.false_eq_true, b_mo_voteName_74, b_mo_voteName_78, szS_0, szS_i, szS_r, szS_l, x_cons, x_goto, ob_some, kl_i, kl_r, kl_l, kl_n, push_n, push_s, pop_0, pop_i, pop_r, Int.reduceToNat, List.length_cons, List.length_nil, Nat.reduceAdd, Nat.reduceLeDiff, Nat.zero_add, true_and, nI_n0, nat_le, Nat.add_zero, rt_mo_voteName, x_al0, x_call, x_goto, x_ifeq, x_iret, x_ldc, x_str, s_bothName (d := d) hM h18 h20 hbe hen]
  all_goals first | rfl | exact ⟨rfl, rfl⟩ | exact ⟨rfl, trivial⟩ | exact ⟨trivial, rfl⟩ | trivial
theorem s_moveName (hM : TT T n k g) {b e : Nat} (h18 : g 196 18 = nI e) (h20 : g 196 20 = nI b) (hbe : b ≤ e) (hen : e ≤ n) : callC (ev (d + 7)) mo_moveName [.ref 196] (E g q) P = P (some (.int (nI (moveV T b e)))) (E g q) := by
  refine call_eq (in_mo_moveName rfl ?_)
  have m23 : ∀ Q : QT, callC (ev (d + 6)) mo_is [.ref 196, .ref 100023] (E g q) Q = Q (some (.int (bI (wmt T 23 b e)))) (E g q) := fun Q => s_mis (d := d + 1) (id := 23) hM (by decide) h18 h20 hbe hen
  have m5 : ∀ Q : QT, callC (ev (d + 6)) mo_is [.ref 196, .ref 100005] (E g q) Q = Q (some (.int (bI (wmt T 5 b e)))) (E g q) := fun Q => s_mis (d := d + 1) (id := 5) hM (by decide) h18 h20 hbe hen
  have m24 : ∀ Q : QT, callC (ev (d + 6)) mo_is [.ref 196, .ref 100024] (E g q) Q = Q (some (.int (bI (wmt T 24 b e)))) (E g q) := fun Q => s_mis (d := d + 1) (id := 24) hM (by decide) h18 h20 hbe hen
  unfold moveV
  rw [b_mo_moveName_0]
  simp -implicitDefEqProofs (disch := first | assumption | omega) only [szS_0, szS_i, szS_r, szS_l, x_cons, x_goto, ob_some, kl_i, kl_r, kl_l, kl_n, push_n, push_s, pop_0, pop_i, pop_r, Int.reduceToNat, List.length_cons, List.length_nil, Nat.reduceAdd, Nat.reduceLeDiff, Nat.zero_add, true_and, nI_n0, nat_le, Nat.add_zero, rt_mo_moveName, x_al0, x_call, x_goto, x_ifeq, x_iret, x_ldc, x_str, m23, bI_0]
  cases wmt T 23 b e
  rotate_left
  · simp -implicitDefEqProofs (disch := first | assumption | omega) only [Bool.true_eq_false, ↓reduceIte, szS_0, szS_i, szS_r, szS_l, x_cons, x_goto, ob_some, kl_i, kl_r, kl_l, kl_n, push_n, push_s, pop_0, pop_i, pop_r, Int.reduceToNat, List.length_cons, List.length_nil, Nat.reduceAdd, Nat.reduceLeDiff, Nat.zero_add, true_and, nI_n0, nat_le, Nat.add_zero, rt_mo_moveName, x_al0, x_call, x_goto, x_ifeq, x_iret, x_ldc, x_str]
    all_goals first | rfl | exact ⟨rfl, rfl⟩ | exact ⟨rfl, trivial⟩ | exact ⟨trivial, rfl⟩ | trivial
  simp -implicitDefEqProofs (disch := first | assumption | omega) only [↓reduceIte, Bool.false_eq_true, b_mo_moveName_12, szS_0, szS_i, szS_r, szS_l, x_cons, x_goto, ob_some, kl_i, kl_r, kl_l, kl_n, push_n, push_s, pop_0, pop_i, pop_r, Int.reduceToNat, List.length_cons, List.length_nil, Nat.reduceAdd, Nat.reduceLeDiff, Nat.zero_add, true_and, nI_n0, nat_le, Nat.add_zero, rt_mo_moveName, x_al0, x_call, x_goto, x_ifeq, x_iret, x_ldc, x_str, m5, bI_0]
  cases wmt T 5 b e
  rotate_left
  · simp -implicitDefEqProofs (disch := first | assumption | omega) only [Bool.true_eq_false, ↓reduceIte, szS_0, szS_i, szS_r, szS_l, x_cons, x_goto, ob_some, kl_i, kl_r, kl_l, kl_n, push_n, push_s, pop_0, pop_i, pop_r, Int.reduceToNat, List.length_cons, List.length_nil, Nat.reduceAdd, Nat.reduceLeDiff, Nat.zero_add, true_and, nI_n0, nat_le, Nat.add_zero, rt_mo_moveName, x_al0, x_call, x_goto, x_ifeq, x_iret, x_ldc, x_str]
    all_goals first | rfl | exact ⟨rfl, rfl⟩ | exact ⟨rfl, trivial⟩ | exact ⟨trivial, rfl⟩ | trivial
  simp -implicitDefEqProofs (disch := first | assumption | omega) only [↓reduceIte, Bool.false_eq_true, b_mo_moveName_24, szS_0, szS_i, szS_r, szS_l, x_cons, x_goto, ob_some, kl_i, kl_r, kl_l, kl_n, push_n, push_s, pop_0, pop_i, pop_r, Int.reduceToNat, List.length_cons, List.length_nil, Nat.reduceAdd, Nat.reduceLeDiff, Nat.zero_add, true_and, nI_n0, nat_le, Nat.add_zero, rt_mo_moveName, x_al0, x_call, x_goto, x_ifeq, x_iret, x_ldc, x_str, m24, bI_0]
  cases wmt T 24 b e
  rotate_left
  · simp -implicitDefEqProofs (disch := first | assumption | omega) only [Bool.true_eq_false, ↓reduceIte, b_mo_moveName_42, szS_0, szS_i, szS_r, szS_l, x_cons, x_goto, ob_some, kl_i, kl_r, kl_l, kl_n, push_n, push_s, pop_0, pop_i, pop_r, Int.reduceToNat, List.length_cons, List.length_nil, Nat.reduceAdd, Nat.reduceLeDiff, Nat.zero_add, true_and, nI_n0, nat_le, Nat.add_zero, rt_mo_moveName, x_al0, x_call, x_goto, x_ifeq, x_iret, x_ldc, x_str]
    all_goals first | rfl | exact ⟨rfl, rfl⟩ | exact ⟨rfl, trivial⟩ | exact ⟨trivial, rfl⟩ | trivial
  simp -implicitDefEqProofs (disch := first | assumption | omega) only [↓reduceIte, Bool.false_eq_true, b_mo_moveName_38, b_mo_moveName_42, szS_0, szS_i, szS_r, szS_l, x_cons, x_goto, ob_some, kl_i, kl_r, kl_l, kl_n, push_n, push_s, pop_0, pop_i, pop_r, Int.reduceToNat, List.length_cons, List.length_nil, Nat.reduceAdd, Nat.reduceLeDiff, Nat.zero_add, true_and, nI_n0, nat_le, Nat.add_zero, rt_mo_moveName, x_al0, x_call, x_goto, x_ifeq, x_iret, x_ldc, x_str, s_bothName (d := d) hM h18 h20 hbe hen]
  all_goals first | rfl | exact ⟨rfl, rfl⟩ | exact ⟨rfl, trivial⟩ | exact ⟨trivial, rfl⟩ | trivial
theorem s_deltaWord (hM : TT T n k g) {b e : Nat} (h18 : g 196 18 = nI e) (h20 : g 196 20 = nI b) (hbe : b ≤ e) (hen : e ≤ n) : callC (ev (d + 6)) mo_deltaWord [.ref 196] (E g q) P = P (some (.int (nI (deltaV T b e)))) (E g q) := by
  refine call_eq (in_mo_deltaWord rfl ?_)
  have m4 : ∀ Q : QT, callC (ev (d + 5)) mo_is [.ref 196, .ref 100004] (E g q) Q = Q (some (.int (bI (wmt T 4 b e)))) (E g q) := fun Q => s_mis (d := d + 0) (id := 4) hM (by decide) h18 h20 hbe hen
  have m5 : ∀ Q : QT, callC (ev (d + 5)) mo_is [.ref 196, .ref 100005] (E g q) Q = Q (some (.int (bI (wmt T 5 b e)))) (E g q) := fun Q => s_mis (d := d + 0) (id := 5) hM (by decide) h18 h20 hbe hen
  have m6 : ∀ Q : QT, callC (ev (d + 5)) mo_is [.ref 196, .ref 100006] (E g q) Q = Q (some (.int (bI (wmt T 6 b e)))) (E g q) := fun Q => s_mis (d := d + 0) (id := 6) hM (by decide) h18 h20 hbe hen
  have m7 : ∀ Q : QT, callC (ev (d + 5)) mo_is [.ref 196, .ref 100007] (E g q) Q = Q (some (.int (bI (wmt T 7 b e)))) (E g q) := fun Q => s_mis (d := d + 0) (id := 7) hM (by decide) h18 h20 hbe hen
  have m8 : ∀ Q : QT, callC (ev (d + 5)) mo_is [.ref 196, .ref 100008] (E g q) Q = Q (some (.int (bI (wmt T 8 b e)))) (E g q) := fun Q => s_mis (d := d + 0) (id := 8) hM (by decide) h18 h20 hbe hen
  have m9 : ∀ Q : QT, callC (ev (d + 5)) mo_is [.ref 196, .ref 100009] (E g q) Q = Q (some (.int (bI (wmt T 9 b e)))) (E g q) := fun Q => s_mis (d := d + 0) (id := 9) hM (by decide) h18 h20 hbe hen
  unfold deltaV
  rw [b_mo_deltaWord_0]
  simp -implicitDefEqProofs (disch := first | assumption | omega) only [szS_0, szS_i, szS_r, szS_l, x_cons, x_goto, ob_some, kl_i, kl_r, kl_l, kl_n, push_n, push_s, pop_0, pop_i, pop_r, Int.reduceToNat, List.length_cons, List.length_nil, Nat.reduceAdd, Nat.reduceLeDiff, Nat.zero_add, true_and, nI_n0, nat_le, Nat.add_zero, rt_mo_deltaWord, x_al0, x_call, x_goto, x_ifeq, x_iret, x_ldc, x_str, m4, bI_0]
  cases wmt T 4 b e
  rotate_left
  · simp -implicitDefEqProofs (disch := first | assumption | omega) only [Bool.true_eq_false, ↓reduceIte, szS_0, szS_i, szS_r, szS_l, x_cons, x_goto, ob_some, kl_i, kl_r, kl_l, kl_n, push_n, push_s, pop_0, pop_i, pop_r, Int.reduceToNat, List.length_cons, List.length_nil, Nat.reduceAdd, Nat.reduceLeDiff, Nat.zero_add, true_and, nI_n0, nat_le, Nat.add_zero, rt_mo_deltaWord, x_al0, x_call, x_goto, x_ifeq, x_iret, x_ldc, x_str]
    all_goals first | rfl | exact ⟨rfl, rfl⟩ | exact ⟨rfl, trivial⟩ | exact ⟨trivial, rfl⟩ | trivial
  simp -implicitDefEqProofs (disch := first | assumption | omega) only [↓reduceIte, Bool.false_eq_true, b_mo_deltaWord_12, szS_0, szS_i, szS_r, szS_l, x_cons, x_goto, ob_some, kl_i, kl_r, kl_l, kl_n, push_n, push_s, pop_0, pop_i, pop_r, Int.reduceToNat, List.length_cons, List.length_nil, Nat.reduceAdd, Nat.reduceLeDiff, Nat.zero_add, true_and, nI_n0, nat_le, Nat.add_zero, rt_mo_deltaWord, x_al0, x_call, x_goto, x_ifeq, x_iret, x_ldc, x_str, m5, bI_0]
  cases wmt T 5 b e
  rotate_left
  · simp -implicitDefEqProofs (disch := first | assumption | omega) only [Bool.true_eq_false, ↓reduceIte, szS_0, szS_i, szS_r, szS_l, x_cons, x_goto, ob_some, kl_i, kl_r, kl_l, kl_n, push_n, push_s, pop_0, pop_i, pop_r, Int.reduceToNat, List.length_cons, List.length_nil, Nat.reduceAdd, Nat.reduceLeDiff, Nat.zero_add, true_and, nI_n0, nat_le, Nat.add_zero, rt_mo_deltaWord, x_al0, x_call, x_goto, x_ifeq, x_iret, x_ldc, x_str]
    all_goals first | rfl | exact ⟨rfl, rfl⟩ | exact ⟨rfl, trivial⟩ | exact ⟨trivial, rfl⟩ | trivial
  simp -implicitDefEqProofs (disch := first | assumption | omega) only [↓reduceIte, Bool.false_eq_true, b_mo_deltaWord_24, szS_0, szS_i, szS_r, szS_l, x_cons, x_goto, ob_some, kl_i, kl_r, kl_l, kl_n, push_n, push_s, pop_0, pop_i, pop_r, Int.reduceToNat, List.length_cons, List.length_nil, Nat.reduceAdd, Nat.reduceLeDiff, Nat.zero_add, true_and, nI_n0, nat_le, Nat.add_zero, rt_mo_deltaWord, x_al0, x_call, x_goto, x_ifeq, x_iret, x_ldc, x_str, m6, bI_0]
  cases wmt T 6 b e
  rotate_left
  · simp -implicitDefEqProofs (disch := first | assumption | omega) only [Bool.true_eq_false, ↓reduceIte, szS_0, szS_i, szS_r, szS_l, x_cons, x_goto, ob_some, kl_i, kl_r, kl_l, kl_n, push_n, push_s, pop_0, pop_i, pop_r, Int.reduceToNat, List.length_cons, List.length_nil, Nat.reduceAdd, Nat.reduceLeDiff, Nat.zero_add, true_and, nI_n0, nat_le, Nat.add_zero, rt_mo_deltaWord, x_al0, x_call, x_goto, x_ifeq, x_iret, x_ldc, x_str]
    all_goals first | rfl | exact ⟨rfl, rfl⟩ | exact ⟨rfl, trivial⟩ | exact ⟨trivial, rfl⟩ | trivial
  simp -implicitDefEqProofs (disch := first | assumption | omega) only [↓reduceIte, Bool.false_eq_true, b_mo_deltaWord_36, szS_0, szS_i, szS_r, szS_l, x_cons, x_goto, ob_some, kl_i, kl_r, kl_l, kl_n, push_n, push_s, pop_0, pop_i, pop_r, Int.reduceToNat, List.length_cons, List.length_nil, Nat.reduceAdd, Nat.reduceLeDiff, Nat.zero_add, true_and, nI_n0, nat_le, Nat.add_zero, rt_mo_deltaWord, x_al0, x_call, x_goto, x_ifeq, x_iret, x_ldc, x_str, m7, bI_0]
  cases wmt T 7 b e
  rotate_left
  · simp -implicitDefEqProofs (disch := first | assumption | omega) only [Bool.true_eq_false, ↓reduceIte, szS_0, szS_i, szS_r, szS_l, x_cons, x_goto, ob_some, kl_i, kl_r, kl_l, kl_n, push_n, push_s, pop_0, pop_i, pop_r, Int.reduceToNat, List.length_cons, List.length_nil, Nat.reduceAdd, Nat.reduceLeDiff, Nat.zero_add, true_and, nI_n0, nat_le, Nat.add_zero, rt_mo_deltaWord, x_al0, x_call, x_goto, x_ifeq, x_iret, x_ldc, x_str]
    all_goals first | rfl | exact ⟨rfl, rfl⟩ | exact ⟨rfl, trivial⟩ | exact ⟨trivial, rfl⟩ | trivial
  simp -implicitDefEqProofs (disch := first | assumption | omega) only [↓reduceIte, Bool.false_eq_true, b_mo_deltaWord_48, szS_0, szS_i, szS_r, szS_l, x_cons, x_goto, ob_some, kl_i, kl_r, kl_l, kl_n, push_n, push_s, pop_0, pop_i, pop_r, Int.reduceToNat, List.length_cons, List.length_nil, Nat.reduceAdd, Nat.reduceLeDiff, Nat.zero_add, true_and, nI_n0, nat_le, Nat.add_zero, rt_mo_deltaWord, x_al0, x_call, x_goto, x_ifeq, x_iret, x_ldc, x_str, m8, bI_0]
  cases wmt T 8 b e
  rotate_left
  · simp -implicitDefEqProofs (disch := first | assumption | omega) only [Bool.true_eq_false, ↓reduceIte, szS_0, szS_i, szS_r, szS_l, x_cons, x_goto, ob_some, kl_i, kl_r, kl_l, kl_n, push_n, push_s, pop_0, pop_i, pop_r, Int.reduceToNat, List.length_cons, List.length_nil, Nat.reduceAdd, Nat.reduceLeDiff, Nat.zero_add, true_and, nI_n0, nat_le, Nat.add_zero, rt_mo_deltaWord, x_al0, x_call, x_goto, x_ifeq, x_iret, x_ldc, x_str]
    all_goals first | rfl | exact ⟨rfl, rfl⟩ | exact ⟨rfl, trivial⟩ | exact ⟨trivial, rfl⟩ | trivial
  simp -implicitDefEqProofs (disch := first | assumption | omega) only [↓reduceIte, Bool.false_eq_true, b_mo_deltaWord_59, szS_0, szS_i, szS_r, szS_l, x_cons, x_goto, ob_some, kl_i, kl_r, kl_l, kl_n, push_n, push_s, pop_0, pop_i, pop_r, Int.reduceToNat, List.length_cons, List.length_nil, Nat.reduceAdd, Nat.reduceLeDiff, Nat.zero_add, true_and, nI_n0, nat_le, Nat.add_zero, rt_mo_deltaWord, x_al0, x_call, x_goto, x_ifeq, x_iret, x_ldc, x_str, m9, bI_0]
  cases wmt T 9 b e
  rotate_left
  · simp -implicitDefEqProofs (disch := first | assumption | omega) only [Bool.true_eq_false, ↓reduceIte, b_mo_deltaWord_74, szS_0, szS_i, szS_r, szS_l, x_cons, x_goto, ob_some, kl_i, kl_r, kl_l, kl_n, push_n, push_s, pop_0, pop_i, pop_r, Int.reduceToNat, List.length_cons, List.length_nil, Nat.reduceAdd, Nat.reduceLeDiff, Nat.zero_add, true_and, nI_n0, nat_le, Nat.add_zero, rt_mo_deltaWord, x_al0, x_call, x_goto, x_ifeq, x_iret, x_ldc, x_str]
    all_goals first | rfl | exact ⟨rfl, rfl⟩ | exact ⟨rfl, trivial⟩ | exact ⟨trivial, rfl⟩ | trivial
  simp -implicitDefEqProofs (disch := first | assumption | omega) only [↓reduceIte, Bool.false_eq_true, b_mo_deltaWord_73, b_mo_deltaWord_74, szS_0, szS_i, szS_r, szS_l, x_cons, x_goto, ob_some, kl_i, kl_r, kl_l, kl_n, push_n, push_s, pop_0, pop_i, pop_r, Int.reduceToNat, List.length_cons, List.length_nil, Nat.reduceAdd, Nat.reduceLeDiff, Nat.zero_add, true_and, nI_n0, nat_le, Nat.add_zero, rt_mo_deltaWord, x_al0, x_call, x_goto, x_ifeq, x_iret, x_ldc, x_str]
  all_goals first | rfl | exact ⟨rfl, rfl⟩ | exact ⟨rfl, trivial⟩ | exact ⟨trivial, rfl⟩ | trivial
theorem s_word (hM : TT T n k g) {b e : Nat} (h18 : g 196 18 = nI e) (h20 : g 196 20 = nI b) (hbe : b ≤ e) (hen : e ≤ n) : callC (ev (d + 8)) mo_word [.ref 196] (E g q) P = P (some (.int (nI (wcd T k b e)))) (E g q) := by
  rw [← wordV_e hM.2.2.2.2]
  refine call_eq (in_mo_word rfl ?_)
  have hk := hM.2.2.2.2
  have e12 := hM.2.2.2.1
  have m10 : ∀ Q : QT, callC (ev (d + 7)) mo_is [.ref 196, .ref 100010] (E g q) Q = Q (some (.int (bI (wmt T 10 b e)))) (E g q) := fun Q => s_mis (d := d + 2) (id := 10) hM (by decide) h18 h20 hbe hen
  have m11 : ∀ Q : QT, callC (ev (d + 7)) mo_is [.ref 196, .ref 100011] (E g q) Q = Q (some (.int (bI (wmt T 11 b e)))) (E g q) := fun Q => s_mis (d := d + 2) (id := 11) hM (by decide) h18 h20 hbe hen
  have m8 : ∀ Q : QT, callC (ev (d + 7)) mo_is [.ref 196, .ref 100008] (E g q) Q = Q (some (.int (bI (wmt T 8 b e)))) (E g q) := fun Q => s_mis (d := d + 2) (id := 8) hM (by decide) h18 h20 hbe hen
  have m12 : ∀ Q : QT, callC (ev (d + 7)) mo_is [.ref 196, .ref 100012] (E g q) Q = Q (some (.int (bI (wmt T 12 b e)))) (E g q) := fun Q => s_mis (d := d + 2) (id := 12) hM (by decide) h18 h20 hbe hen
  unfold wordV
  rw [b_mo_word_0]
  simp -implicitDefEqProofs (disch := first | assumption | omega) only [szS_0, szS_i, szS_r, szS_l, x_cons, x_goto, ob_some, kl_i, kl_r, kl_l, kl_n, push_n, push_s, pop_0, pop_i, pop_r, Int.reduceToNat, List.length_cons, List.length_nil, Nat.reduceAdd, Nat.reduceLeDiff, Nat.zero_add, true_and, nI_n0, nat_le, Nat.add_zero, rt_mo_word, x_al0, x_call, x_getf, x_goto, x_icne, x_ifeq, x_ifne, x_iret, x_ldc, x_str, fd_196_0, fd_196_1, fd_196_2, fd_196_3, fd_196_4, sf_196_4, fd_196_5, sf_196_5, fd_196_6, fd_196_7, fd_196_8, fd_196_9, fd_196_10, fd_196_11, fd_196_12, sf_196_12, fd_196_13, sf_196_13, fd_196_14, sf_196_14, fd_196_15, sf_196_15, fd_196_16, sf_196_16, fd_196_17, sf_196_17, fd_196_18, sf_196_18, fd_196_19, sf_196_19, fd_196_20, sf_196_20, fd_196_21, sf_196_21, fd_196_22, sf_196_22, fd_196_23, sf_196_23, fd_196_24, sf_196_24, fd_196_25, sf_196_25, fd_196_26, sf_196_26, fd_196_27, fd_196_28, fd_196_29, fd_196_30, sf_196_30, fd_196_31, fd_196_32, fd_196_33, fd_196_34, fd_196_35, fd_196_36, fd_196_37, sf_196_37, fd_196_38, fd_196_39, sf_196_39, fd_196_40, sf_196_40, fd_196_41, sf_196_41, fd_196_42, fd_196_43, fd_196_44, e12, nI_eqE]
  by_cases k0 : k = 0
  · simp -implicitDefEqProofs (disch := first | assumption | omega) only [k0, ↓reduceIte, szS_0, szS_i, szS_r, szS_l, x_cons, x_goto, ob_some, kl_i, kl_r, kl_l, kl_n, push_n, push_s, pop_0, pop_i, pop_r, Int.reduceToNat, List.length_cons, List.length_nil, Nat.reduceAdd, Nat.reduceLeDiff, Nat.zero_add, true_and, nI_n0, nat_le, Nat.add_zero, rt_mo_word, x_al0, x_call, x_getf, x_goto, x_icne, x_ifeq, x_ifne, x_iret, x_ldc, x_str, s_deltaWord (d := d + 1) hM h18 h20 hbe hen]
    all_goals first | rfl | exact ⟨rfl, rfl⟩ | exact ⟨rfl, trivial⟩ | exact ⟨trivial, rfl⟩ | trivial
  rw [if_neg k0, if_neg k0]
  rw [b_mo_word_12]
  simp -implicitDefEqProofs (disch := first | assumption | omega) only [↓reduceIte, Bool.false_eq_true, szS_0, szS_i, szS_r, szS_l, x_cons, x_goto, ob_some, kl_i, kl_r, kl_l, kl_n, push_n, push_s, pop_0, pop_i, pop_r, Int.reduceToNat, List.length_cons, List.length_nil, Nat.reduceAdd, Nat.reduceLeDiff, Nat.zero_add, true_and, nI_n0, nat_le, Nat.add_zero, rt_mo_word, x_al0, x_call, x_getf, x_goto, x_icne, x_ifeq, x_ifne, x_iret, x_ldc, x_str, m10, bI_0]
  cases wmt T 10 b e
  rotate_left
  · simp -implicitDefEqProofs (disch := first | assumption | omega) only [Bool.true_eq_false, ↓reduceIte, szS_0, szS_i, szS_r, szS_l, x_cons, x_goto, ob_some, kl_i, kl_r, kl_l, kl_n, push_n, push_s, pop_0, pop_i, pop_r, Int.reduceToNat, List.length_cons, List.length_nil, Nat.reduceAdd, Nat.reduceLeDiff, Nat.zero_add, true_and, nI_n0, nat_le, Nat.add_zero, rt_mo_word, x_al0, x_call, x_getf, x_goto, x_icne, x_ifeq, x_ifne, x_iret, x_ldc, x_str]
    all_goals first | rfl | exact ⟨rfl, rfl⟩ | exact ⟨rfl, trivial⟩ | exact ⟨trivial, rfl⟩ | trivial
  simp -implicitDefEqProofs (disch := first | assumption | omega) only [↓reduceIte, Bool.false_eq_true, b_mo_word_23, szS_0, szS_i, szS_r, szS_l, x_cons, x_goto, ob_some, kl_i, kl_r, kl_l, kl_n, push_n, push_s, pop_0, pop_i, pop_r, Int.reduceToNat, List.length_cons, List.length_nil, Nat.reduceAdd, Nat.reduceLeDiff, Nat.zero_add, true_and, nI_n0, nat_le, Nat.add_zero, rt_mo_word, x_al0, x_call, x_getf, x_goto, x_icne, x_ifeq, x_ifne, x_iret, x_ldc, x_str, m11, bI_0]
  cases wmt T 11 b e
  rotate_left
  · simp -implicitDefEqProofs (disch := first | assumption | omega) only [Bool.true_eq_false, ↓reduceIte, szS_0, szS_i, szS_r, szS_l, x_cons, x_goto, ob_some, kl_i, kl_r, kl_l, kl_n, push_n, push_s, pop_0, pop_i, pop_r, Int.reduceToNat, List.length_cons, List.length_nil, Nat.reduceAdd, Nat.reduceLeDiff, Nat.zero_add, true_and, nI_n0, nat_le, Nat.add_zero, rt_mo_word, x_al0, x_call, x_getf, x_goto, x_icne, x_ifeq, x_ifne, x_iret, x_ldc, x_str]
    all_goals first | rfl | exact ⟨rfl, rfl⟩ | exact ⟨rfl, trivial⟩ | exact ⟨trivial, rfl⟩ | trivial
  simp -implicitDefEqProofs (disch := first | assumption | omega) only [↓reduceIte, Bool.false_eq_true, b_mo_word_34, szS_0, szS_i, szS_r, szS_l, x_cons, x_goto, ob_some, kl_i, kl_r, kl_l, kl_n, push_n, push_s, pop_0, pop_i, pop_r, Int.reduceToNat, List.length_cons, List.length_nil, Nat.reduceAdd, Nat.reduceLeDiff, Nat.zero_add, true_and, nI_n0, nat_le, Nat.add_zero, rt_mo_word, x_al0, x_call, x_getf, x_goto, x_icne, x_ifeq, x_ifne, x_iret, x_ldc, x_str, m8, bI_0]
  cases wmt T 8 b e
  rotate_left
  · simp -implicitDefEqProofs (disch := first | assumption | omega) only [Bool.true_eq_false, ↓reduceIte, szS_0, szS_i, szS_r, szS_l, x_cons, x_goto, ob_some, kl_i, kl_r, kl_l, kl_n, push_n, push_s, pop_0, pop_i, pop_r, Int.reduceToNat, List.length_cons, List.length_nil, Nat.reduceAdd, Nat.reduceLeDiff, Nat.zero_add, true_and, nI_n0, nat_le, Nat.add_zero, rt_mo_word, x_al0, x_call, x_getf, x_goto, x_icne, x_ifeq, x_ifne, x_iret, x_ldc, x_str]
    all_goals first | rfl | exact ⟨rfl, rfl⟩ | exact ⟨rfl, trivial⟩ | exact ⟨trivial, rfl⟩ | trivial
  simp -implicitDefEqProofs (disch := first | assumption | omega) only [↓reduceIte, Bool.false_eq_true, b_mo_word_45, szS_0, szS_i, szS_r, szS_l, x_cons, x_goto, ob_some, kl_i, kl_r, kl_l, kl_n, push_n, push_s, pop_0, pop_i, pop_r, Int.reduceToNat, List.length_cons, List.length_nil, Nat.reduceAdd, Nat.reduceLeDiff, Nat.zero_add, true_and, nI_n0, nat_le, Nat.add_zero, rt_mo_word, x_al0, x_call, x_getf, x_goto, x_icne, x_ifeq, x_ifne, x_iret, x_ldc, x_str, m12, bI_0]
  cases wmt T 12 b e
  rotate_left
  · simp -implicitDefEqProofs (disch := first | assumption | omega) only [Bool.true_eq_false, ↓reduceIte, szS_0, szS_i, szS_r, szS_l, x_cons, x_goto, ob_some, kl_i, kl_r, kl_l, kl_n, push_n, push_s, pop_0, pop_i, pop_r, Int.reduceToNat, List.length_cons, List.length_nil, Nat.reduceAdd, Nat.reduceLeDiff, Nat.zero_add, true_and, nI_n0, nat_le, Nat.add_zero, rt_mo_word, x_al0, x_call, x_getf, x_goto, x_icne, x_ifeq, x_ifne, x_iret, x_ldc, x_str]
    all_goals first | rfl | exact ⟨rfl, rfl⟩ | exact ⟨rfl, trivial⟩ | exact ⟨trivial, rfl⟩ | trivial
  simp -implicitDefEqProofs (disch := first | assumption | omega) only [↓reduceIte, Bool.false_eq_true, b_mo_word_57, szS_0, szS_i, szS_r, szS_l, x_cons, x_goto, ob_some, kl_i, kl_r, kl_l, kl_n, push_n, push_s, pop_0, pop_i, pop_r, Int.reduceToNat, List.length_cons, List.length_nil, Nat.reduceAdd, Nat.reduceLeDiff, Nat.zero_add, true_and, nI_n0, nat_le, Nat.add_zero, rt_mo_word, x_al0, x_call, x_getf, x_goto, x_icne, x_ifeq, x_ifne, x_iret, x_ldc, x_str, fd_196_0, fd_196_1, fd_196_2, fd_196_3, fd_196_4, sf_196_4, fd_196_5, sf_196_5, fd_196_6, fd_196_7, fd_196_8, fd_196_9, fd_196_10, fd_196_11, fd_196_12, sf_196_12, fd_196_13, sf_196_13, fd_196_14, sf_196_14, fd_196_15, sf_196_15, fd_196_16, sf_196_16, fd_196_17, sf_196_17, fd_196_18, sf_196_18, fd_196_19, sf_196_19, fd_196_20, sf_196_20, fd_196_21, sf_196_21, fd_196_22, sf_196_22, fd_196_23, sf_196_23, fd_196_24, sf_196_24, fd_196_25, sf_196_25, fd_196_26, sf_196_26, fd_196_27, fd_196_28, fd_196_29, fd_196_30, sf_196_30, fd_196_31, fd_196_32, fd_196_33, fd_196_34, fd_196_35, fd_196_36, fd_196_37, sf_196_37, fd_196_38, fd_196_39, sf_196_39, fd_196_40, sf_196_40, fd_196_41, sf_196_41, fd_196_42, fd_196_43, fd_196_44, e12, nI_eqE]
  by_cases k1 : k = 1
  · simp -implicitDefEqProofs (disch := first | assumption | omega) only [k1, ↓reduceIte, szS_0, szS_i, szS_r, szS_l, x_cons, x_goto, ob_some, kl_i, kl_r, kl_l, kl_n, push_n, push_s, pop_0, pop_i, pop_r, Int.reduceToNat, List.length_cons, List.length_nil, Nat.reduceAdd, Nat.reduceLeDiff, Nat.zero_add, true_and, nI_n0, nat_le, Nat.add_zero, rt_mo_word, x_al0, x_call, x_getf, x_goto, x_icne, x_ifeq, x_ifne, x_iret, x_ldc, x_str, s_voteName (d := d) hM h18 h20 hbe hen, b_mo_word_76]
    all_goals first | rfl | exact ⟨rfl, rfl⟩ | exact ⟨rfl, trivial⟩ | exact ⟨trivial, rfl⟩ | trivial
  · simp -implicitDefEqProofs (disch := first | assumption | omega) only [k1, ↓reduceIte, b_mo_word_72, b_mo_word_76, szS_0, szS_i, szS_r, szS_l, x_cons, x_goto, ob_some, kl_i, kl_r, kl_l, kl_n, push_n, push_s, pop_0, pop_i, pop_r, Int.reduceToNat, List.length_cons, List.length_nil, Nat.reduceAdd, Nat.reduceLeDiff, Nat.zero_add, true_and, nI_n0, nat_le, Nat.add_zero, rt_mo_word, x_al0, x_call, x_getf, x_goto, x_icne, x_ifeq, x_ifne, x_iret, x_ldc, x_str, s_moveName (d := d) hM h18 h20 hbe hen]
    all_goals first | rfl | exact ⟨rfl, rfl⟩ | exact ⟨rfl, trivial⟩ | exact ⟨trivial, rfl⟩ | trivial
end NX
