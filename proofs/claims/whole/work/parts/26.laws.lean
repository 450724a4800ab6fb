/-! laws: their lines as lists of steps (what, number) -/
def opB (s : Nat) (a b : Int32) : Int32 :=
  if s = 23 then a + b else if s = 24 then a - b else if s = 25 then a * b
  else if s = 27 then (if a < b then nI 1 else nI 0) else if s = 28 then (if a = b then nI 1 else nI 0) else if s = 29 then (if b < a then nI 1 else nI 0)
  else if s = 31 then a &&& b else a ||| b
/-- one step on the stack, its top first -/
def ev1 (F : Nat → Int32) (o : Nat × Nat) (st : List Int32) : List Int32 :=
  if o.1 < 13 then (if o.1 = 0 then nI o.2 else F o.1) :: st
  else if o.1 = 26 then (match st with
    | x :: s => (x / nI o.2) :: s
    | [] => [])
  else if o.1 = 30 then (match st with
    | x :: s => (nI 1 - x) :: s
    | [] => [])
  else (match st with
    | y :: x :: s => opB o.1 x y :: s
    | s => s)
def evL (F : Nat → Int32) : List (Nat × Nat) → List Int32 → List Int32
  | [], st => st
  | o :: l, st => evL F l (ev1 F o st)
/-- the stack's sorts: true for a truth -/
def ty1 (o : Nat × Nat) (ts : List Bool) : Option (List Bool) :=
  if o.1 < 13 then (if ts.length < 40 ∧ (o.1 = 0 → o.2 ≤ 9999) then some (false :: ts) else none)
  else if o.1 = 26 then (match ts with
    | false :: s => if 1 ≤ o.2 ∧ o.2 ≤ 9999 then some (false :: s) else none
    | _ => none)
  else if o.1 = 30 then (match ts with
    | true :: s => some (true :: s)
    | _ => none)
  else if o.1 = 23 ∨ o.1 = 24 ∨ o.1 = 25 then (match ts with
    | false :: false :: s => some (false :: s)
    | _ => none)
  else if o.1 = 27 ∨ o.1 = 28 ∨ o.1 = 29 then (match ts with
    | false :: false :: s => some (true :: s)
    | _ => none)
  else if o.1 = 31 ∨ o.1 = 32 then (match ts with
    | true :: true :: s => some (true :: s)
    | _ => none)
  else none
def tyL : List (Nat × Nat) → List Bool → Option (List Bool)
  | [], ts => some ts
  | o :: l, ts => (ty1 o ts).bind (tyL l)
/-- the four sorts of a step -/
theorem ty1_c {o : Nat × Nat} {ts ts' : List Bool} (h : ty1 o ts = some ts') :
    (o.1 < 13 ∧ ts.length < 40 ∧ (o.1 = 0 → o.2 ≤ 9999) ∧ ts' = false :: ts) ∨
    (o.1 = 26 ∧ 1 ≤ o.2 ∧ o.2 ≤ 9999 ∧ ∃ s, ts = false :: s ∧ ts' = false :: s) ∨
    (o.1 = 30 ∧ ∃ s, ts = true :: s ∧ ts' = true :: s) ∨
    ((o.1 = 23 ∨ o.1 = 24 ∨ o.1 = 25) ∧ ∃ s, ts = false :: false :: s ∧ ts' = false :: s) ∨
    ((o.1 = 27 ∨ o.1 = 28 ∨ o.1 = 29) ∧ ∃ s, ts = false :: false :: s ∧ ts' = true :: s) ∨
    ((o.1 = 31 ∨ o.1 = 32) ∧ ∃ s, ts = true :: true :: s ∧ ts' = true :: s) := by
  unfold ty1 at h
  split at h
  next h1 =>
    split at h
    next h2 =>
      cases h
      exact Or.inl ⟨h1, h2.1, h2.2, rfl⟩
    next => cases h
  next =>
    refine Or.inr ?_
    split at h
    next h1 =>
      split at h
      next s =>
        split at h
        next h2 =>
          cases h
          exact Or.inl ⟨h1, h2.1, h2.2, s, rfl, rfl⟩
        next => cases h
      next => cases h
    next =>
      refine Or.inr ?_
      split at h
      next h1 =>
        split at h
        next s =>
          cases h
          exact Or.inl ⟨h1, s, rfl, rfl⟩
        next => cases h
      next =>
        refine Or.inr ?_
        split at h
        next h1 =>
          split at h
          next s =>
            cases h
            exact Or.inl ⟨h1, s, rfl, rfl⟩
          next => cases h
        next =>
          refine Or.inr ?_
          split at h
          next h1 =>
            split at h
            next s =>
              cases h
              exact Or.inl ⟨h1, s, rfl, rfl⟩
            next => cases h
          next =>
            refine Or.inr ?_
            split at h
            next h1 =>
              split at h
              next s =>
                cases h
                exact ⟨h1, s, rfl, rfl⟩
              next => cases h
            next => cases h
def pkR (r : Nat → Int32) : List Int32 → Prop
  | [] => True
  | x :: s => r s.length = x ∧ pkR r s
theorem pkR_u {r : Nat → Int32} {k : Nat} {v : Int32} : ∀ {s : List Int32}, s.length ≤ k → pkR r s → pkR (fun j => if j = k then v else r j) s
  | [], _, _ => trivial
  | x :: s, h, ⟨h1, h2⟩ => by
    have h : s.length + 1 ≤ k := h
    refine ⟨?_, pkR_u (by omega) h2⟩
    show (if s.length = k then v else r s.length) = x
    rw [if_neg (by omega)]
    exact h1
/-- the steps from place i on in the reference's row -/
def stpR (w : Nat → Int32) (k : Nat) : Nat → List (Nat × Nat) → Prop
  | _, [] => True
  | i, o :: l => w (1315 + 820 * k + 2 * i) = nI o.1 ∧ (o.1 = 0 ∨ o.1 = 26 → w (1315 + 820 * k + 2 * i + 1) = nI o.2) ∧ stpR w k (i + 1) l
section ME
variable {d : Nat} {g : Nat → Nat → Int32} {q : Nat → Nat → Int64} {P : QT}
theorem s_both {s : Nat} {a b : Int32} (hs : s = 23 ∨ s = 24 ∨ s = 25 ∨ s = 27 ∨ s = 28 ∨ s = 29 ∨ s = 31 ∨ s = 32) : callC (ev (d + 1)) mo_both [.int (nI s), .int a, .int b] (E g q) P = P (some (.int (opB s a b))) (E g q) := by
  refine call_eq (in_mo_both rfl ?_)
  rw [b_mo_both_0]
  simp only [x_cons, x_il0, x_tsw]
  rcases hs with rfl | rfl | rfl | rfl | rfl | rfl | rfl | rfl
  · show wp (ev d) _ mo_both 52 _ _ _
    simp -implicitDefEqProofs (disch := first | assumption | omega) only [szS_0, szS_i, szS_r, szS_l, x_cons, x_goto, ob_some, kl_i, kl_r, kl_l, kl_n, push_n, push_s, pop_0, pop_i, pop_r, Int.reduceToNat, List.length_cons, List.length_nil, Nat.reduceAdd, Nat.reduceLeDiff, Nat.zero_add, true_and, nI_n0, nat_le, Nat.add_zero, rt_mo_both, x_goto, x_iadd, x_iand, x_icge, x_icle, x_icne, x_il0, x_il1, x_il2, x_imul, x_ior, x_iret, x_isub, x_ldc, x_tsw, b_mo_both_0, b_mo_both_52, b_mo_both_56, b_mo_both_60, b_mo_both_64, b_mo_both_73, b_mo_both_74, b_mo_both_75, b_mo_both_84, b_mo_both_85, b_mo_both_86, b_mo_both_95, b_mo_both_96, b_mo_both_97, b_mo_both_101]
    exact ⟨rfl, trivial⟩
  · show wp (ev d) _ mo_both 56 _ _ _
    simp -implicitDefEqProofs (disch := first | assumption | omega) only [szS_0, szS_i, szS_r, szS_l, x_cons, x_goto, ob_some, kl_i, kl_r, kl_l, kl_n, push_n, push_s, pop_0, pop_i, pop_r, Int.reduceToNat, List.length_cons, List.length_nil, Nat.reduceAdd, Nat.reduceLeDiff, Nat.zero_add, true_and, nI_n0, nat_le, Nat.add_zero, rt_mo_both, x_goto, x_iadd, x_iand, x_icge, x_icle, x_icne, x_il0, x_il1, x_il2, x_imul, x_ior, x_iret, x_isub, x_ldc, x_tsw, b_mo_both_0, b_mo_both_52, b_mo_both_56, b_mo_both_60, b_mo_both_64, b_mo_both_73, b_mo_both_74, b_mo_both_75, b_mo_both_84, b_mo_both_85, b_mo_both_86, b_mo_both_95, b_mo_both_96, b_mo_both_97, b_mo_both_101]
    exact ⟨rfl, trivial⟩
  · show wp (ev d) _ mo_both 60 _ _ _
    simp -implicitDefEqProofs (disch := first | assumption | omega) only [szS_0, szS_i, szS_r, szS_l, x_cons, x_goto, ob_some, kl_i, kl_r, kl_l, kl_n, push_n, push_s, pop_0, pop_i, pop_r, Int.reduceToNat, List.length_cons, List.length_nil, Nat.reduceAdd, Nat.reduceLeDiff, Nat.zero_add, true_and, nI_n0, nat_le, Nat.add_zero, rt_mo_both, x_goto, x_iadd, x_iand, x_icge, x_icle, x_icne, x_il0, x_il1, x_il2, x_imul, x_ior, x_iret, x_isub, x_ldc, x_tsw, b_mo_both_0, b_mo_both_52, b_mo_both_56, b_mo_both_60, b_mo_both_64, b_mo_both_73, b_mo_both_74, b_mo_both_75, b_mo_both_84, b_mo_both_85, b_mo_both_86, b_mo_both_95, b_mo_both_96, b_mo_both_97, b_mo_both_101]
    exact ⟨rfl, trivial⟩
  · show wp (ev d) _ mo_both 64 _ _ _
    simp -implicitDefEqProofs (disch := first | assumption | omega) only [szS_0, szS_i, szS_r, szS_l, x_cons, x_goto, ob_some, kl_i, kl_r, kl_l, kl_n, push_n, push_s, pop_0, pop_i, pop_r, Int.reduceToNat, List.length_cons, List.length_nil, Nat.reduceAdd, Nat.reduceLeDiff, Nat.zero_add, true_and, nI_n0, nat_le, Nat.add_zero, rt_mo_both, x_goto, x_iadd, x_iand, x_icge, x_icle, x_icne, x_il0, x_il1, x_il2, x_imul, x_ior, x_iret, x_isub, x_ldc, x_tsw, b_mo_both_0, b_mo_both_52, b_mo_both_56, b_mo_both_60, b_mo_both_64, b_mo_both_73, b_mo_both_74, b_mo_both_75, b_mo_both_84, b_mo_both_85, b_mo_both_86, b_mo_both_95, b_mo_both_96, b_mo_both_97, b_mo_both_101]
    unfold opB
    split <;> simp_all
  · show wp (ev d) _ mo_both 75 _ _ _
    simp -implicitDefEqProofs (disch := first | assumption | omega) only [szS_0, szS_i, szS_r, szS_l, x_cons, x_goto, ob_some, kl_i, kl_r, kl_l, kl_n, push_n, push_s, pop_0, pop_i, pop_r, Int.reduceToNat, List.length_cons, List.length_nil, Nat.reduceAdd, Nat.reduceLeDiff, Nat.zero_add, true_and, nI_n0, nat_le, Nat.add_zero, rt_mo_both, x_goto, x_iadd, x_iand, x_icge, x_icle, x_icne, x_il0, x_il1, x_il2, x_imul, x_ior, x_iret, x_isub, x_ldc, x_tsw, b_mo_both_0, b_mo_both_52, b_mo_both_56, b_mo_both_60, b_mo_both_64, b_mo_both_73, b_mo_both_74, b_mo_both_75, b_mo_both_84, b_mo_both_85, b_mo_both_86, b_mo_both_95, b_mo_both_96, b_mo_both_97, b_mo_both_101]
    unfold opB
    split <;> simp_all
  · show wp (ev d) _ mo_both 86 _ _ _
    simp -implicitDefEqProofs (disch := first | assumption | omega) only [szS_0, szS_i, szS_r, szS_l, x_cons, x_goto, ob_some, kl_i, kl_r, kl_l, kl_n, push_n, push_s, pop_0, pop_i, pop_r, Int.reduceToNat, List.length_cons, List.length_nil, Nat.reduceAdd, Nat.reduceLeDiff, Nat.zero_add, true_and, nI_n0, nat_le, Nat.add_zero, rt_mo_both, x_goto, x_iadd, x_iand, x_icge, x_icle, x_icne, x_il0, x_il1, x_il2, x_imul, x_ior, x_iret, x_isub, x_ldc, x_tsw, b_mo_both_0, b_mo_both_52, b_mo_both_56, b_mo_both_60, b_mo_both_64, b_mo_both_73, b_mo_both_74, b_mo_both_75, b_mo_both_84, b_mo_both_85, b_mo_both_86, b_mo_both_95, b_mo_both_96, b_mo_both_97, b_mo_both_101]
    unfold opB
    split <;> simp_all
  · show wp (ev d) _ mo_both 97 _ _ _
    simp -implicitDefEqProofs (disch := first | assumption | omega) only [szS_0, szS_i, szS_r, szS_l, x_cons, x_goto, ob_some, kl_i, kl_r, kl_l, kl_n, push_n, push_s, pop_0, pop_i, pop_r, Int.reduceToNat, List.length_cons, List.length_nil, Nat.reduceAdd, Nat.reduceLeDiff, Nat.zero_add, true_and, nI_n0, nat_le, Nat.add_zero, rt_mo_both, x_goto, x_iadd, x_iand, x_icge, x_icle, x_icne, x_il0, x_il1, x_il2, x_imul, x_ior, x_iret, x_isub, x_ldc, x_tsw, b_mo_both_0, b_mo_both_52, b_mo_both_56, b_mo_both_60, b_mo_both_64, b_mo_both_73, b_mo_both_74, b_mo_both_75, b_mo_both_84, b_mo_both_85, b_mo_both_86, b_mo_both_95, b_mo_both_96, b_mo_both_97, b_mo_both_101]
    exact ⟨rfl, trivial⟩
  · show wp (ev d) _ mo_both 101 _ _ _
    simp -implicitDefEqProofs (disch := first | assumption | omega) only [szS_0, szS_i, szS_r, szS_l, x_cons, x_goto, ob_some, kl_i, kl_r, kl_l, kl_n, push_n, push_s, pop_0, pop_i, pop_r, Int.reduceToNat, List.length_cons, List.length_nil, Nat.reduceAdd, Nat.reduceLeDiff, Nat.zero_add, true_and, nI_n0, nat_le, Nat.add_zero, rt_mo_both, x_goto, x_iadd, x_iand, x_icge, x_icle, x_icne, x_il0, x_il1, x_il2, x_imul, x_ior, x_iret, x_isub, x_ldc, x_tsw, b_mo_both_0, b_mo_both_52, b_mo_both_56, b_mo_both_60, b_mo_both_64, b_mo_both_73, b_mo_both_74, b_mo_both_75, b_mo_both_84, b_mo_both_85, b_mo_both_86, b_mo_both_95, b_mo_both_96, b_mo_both_97, b_mo_both_101]
    exact ⟨rfl, trivial⟩
theorem ct_lp {k : Nat} (hk : k < 2) {b0 : Int32} {t : Bool} : ∀ (l : List (Nat × Nat)) (i : Nat) (st : List Int32) (ts : List Bool) (r : Nat → Int32) (o6 o7 : Option Value),
    i + l.length ≤ 400 → stpR (g 197) k i l → tyL l ts = some [t] → st.length = ts.length → ts.length ≤ 40 → pkR r st →
    (∀ x r', evL (g 206) l st = [x] → P (some (.int x)) (E (upw g 205 r') q)) →
    wp (ev (d + 2)) P mo_comesTo 6 [some (.ref 196), some (.int (nI k)), some (.int b0), some (.int (nI (i + l.length))), some (.int (nI st.length)), some (.int (nI i)), o6, o7] [] (E (upw g 205 r) q) := by
  intro l
  induction l with
  | nil =>
    intro i st ts r o6 o7 hi hR hT hl h40 hp H
    have hT : some ts = some [t] := hT
    cases hT
    match st, hl, hp with
    | [x], _, hp =>
      have hx : r 0 = x := hp.1
      rw [b_mo_comesTo_6]
      simp -implicitDefEqProofs (disch := first | assumption | omega) only [szS_0, szS_i, szS_r, szS_l, x_cons, x_goto, ob_some, kl_i, kl_r, kl_l, kl_n, push_n, push_s, pop_0, pop_i, pop_r, Int.reduceToNat, List.length_cons, List.length_nil, Nat.reduceAdd, Nat.reduceLeDiff, Nat.zero_add, true_and, nI_n0, nat_le, Nat.add_zero, i_1, i_m1, rt_mo_comesTo, x_al0, x_call, x_dup2, x_getf, x_goto, x_iadd, x_iaload, x_iastore, x_icge, x_icne, x_idiv, x_ifne, x_il1, x_il2, x_il3, x_il4, x_il5, x_il6, x_il7, x_imul, x_inc4, x_inc5, x_iret, x_is4, x_is5, x_is6, x_is7, x_isub, x_ldc, b_mo_comesTo_0, b_mo_comesTo_79, b_mo_comesTo_86, b_mo_comesTo_93, b_mo_comesTo_117, b_mo_comesTo_147, b_mo_comesTo_180, b_mo_comesTo_186, fd_196_0, fd_196_1, fd_196_2, fd_196_3, fd_196_4, sf_196_4, fd_196_5, sf_196_5, fd_196_6, fd_196_7, fd_196_8, fd_196_9, fd_196_10, fd_196_11, fd_196_12, sf_196_12, fd_196_13, sf_196_13, fd_196_14, sf_196_14, fd_196_15, sf_196_15, fd_196_16, sf_196_16, fd_196_17, sf_196_17, fd_196_18, sf_196_18, fd_196_19, sf_196_19, fd_196_20, sf_196_20, fd_196_21, sf_196_21, fd_196_22, sf_196_22, fd_196_23, sf_196_23, fd_196_24, sf_196_24, fd_196_25, sf_196_25, fd_196_26, sf_196_26, fd_196_27, fd_196_28, fd_196_29, fd_196_30, sf_196_30, fd_196_31, fd_196_32, fd_196_33, fd_196_34, fd_196_35, fd_196_36, fd_196_37, sf_196_37, fd_196_38, fd_196_39, sf_196_39, fd_196_40, sf_196_40, fd_196_41, sf_196_41, fd_196_42, fd_196_43, fd_196_44, ld_205, sd_205, ln_205, upw_s, List.length_nil, Nat.add_zero, nI_ltE, Nat.lt_irrefl, ↓reduceIte, hx]
      exact H x r rfl
  | cons o l ih =>
    intro i st ts r o6 o7 hi hR hT hl h40 hp H
    obtain ⟨hR1, hR2, hR3⟩ := hR
    have hi : i + (l.length + 1) ≤ 400 := hi
    have hT : (ty1 o ts).bind (tyL l) = some [t] := hT
    obtain ⟨ts', hT1, hT2⟩ := Option.bind_eq_some_iff.mp hT
    have el : i + (o :: l).length = i + 1 + l.length := by
      rw [List.length_cons]
      omega
    have H' : ∀ x r', evL (g 206) l (ev1 (g 206) o st) = [x] → P (some (.int x)) (E (upw g 205 r') q) := H
    have ih' := fun st' r' o6 o7 => ih (i + 1) st' ts' r' o6 o7 (by omega) hR3 hT2
    have hlt : i < i + 1 + l.length := by omega
    have e1 : 1315 + 820 * k + 2 * i + 1 < 2955 := by omega
    have e2 : 1315 + 820 * k + 2 * i = 1315 + (820 * k + 2 * i) := by omega
    have hos : o.1 ≤ 32 := by rcases ty1_c hT1 with h | h | h | h | h | h <;> omega
    have hst : st.length ≤ 40 := by omega
    rw [el, b_mo_comesTo_6]
    simp -implicitDefEqProofs (disch := first | assumption | omega) only [szS_0, szS_i, szS_r, szS_l, x_cons, x_goto, ob_some, kl_i, kl_r, kl_l, kl_n, push_n, push_s, pop_0, pop_i, pop_r, Int.reduceToNat, List.length_cons, List.length_nil, Nat.reduceAdd, Nat.reduceLeDiff, Nat.zero_add, true_and, nI_n0, nat_le, Nat.add_zero, i_1, i_m1, rt_mo_comesTo, x_al0, x_call, x_dup2, x_getf, x_goto, x_iadd, x_iaload, x_iastore, x_icge, x_icne, x_idiv, x_ifne, x_il1, x_il2, x_il3, x_il4, x_il5, x_il6, x_il7, x_imul, x_inc4, x_inc5, x_iret, x_is4, x_is5, x_is6, x_is7, x_isub, x_ldc, fd_196_0, fd_196_1, fd_196_2, fd_196_3, fd_196_4, sf_196_4, fd_196_5, sf_196_5, fd_196_6, fd_196_7, fd_196_8, fd_196_9, fd_196_10, fd_196_11, fd_196_12, sf_196_12, fd_196_13, sf_196_13, fd_196_14, sf_196_14, fd_196_15, sf_196_15, fd_196_16, sf_196_16, fd_196_17, sf_196_17, fd_196_18, sf_196_18, fd_196_19, sf_196_19, fd_196_20, sf_196_20, fd_196_21, sf_196_21, fd_196_22, sf_196_22, fd_196_23, sf_196_23, fd_196_24, sf_196_24, fd_196_25, sf_196_25, fd_196_26, sf_196_26, fd_196_27, fd_196_28, fd_196_29, fd_196_30, sf_196_30, fd_196_31, fd_196_32, fd_196_33, fd_196_34, fd_196_35, fd_196_36, fd_196_37, sf_196_37, fd_196_38, fd_196_39, sf_196_39, fd_196_40, sf_196_40, fd_196_41, sf_196_41, fd_196_42, fd_196_43, fd_196_44, ld_197, sd_197, ln_197, upw_o, nI_ltE, nI_eqE, hlt, ↓reduceIte, nI_mul, nI_add, hR1]
    rcases ty1_c hT1 with ⟨h1, h2, h3, h4⟩ | ⟨h1, h2, h3, s, h4, h5⟩ | ⟨h1, s, h4, h5⟩ | h | h | h
    · have h1' : o.1 < 23 := by omega
      simp only [h1', ↓reduceIte]
      have fin : ∀ v, v = (if o.1 = 0 then nI o.2 else g 206 o.1) → wp (ev (d + 2)) P mo_comesTo 86 [some (.ref 196), some (.int (nI k)), some (.int b0), some (.int (nI (i + 1 + l.length))), some (.int (nI st.length)), some (.int (nI i)), some (.int (nI o.1)), some (.int (g 197 (1315 + 820 * k + 2 * i + 1)))] [.int v, .int (nI st.length), .ref 205] (E (upw g 205 r) q) := by
        intro v hv
        simp -implicitDefEqProofs (disch := first | assumption | omega) only [szS_0, szS_i, szS_r, szS_l, x_cons, x_goto, ob_some, kl_i, kl_r, kl_l, kl_n, push_n, push_s, pop_0, pop_i, pop_r, Int.reduceToNat, List.length_cons, List.length_nil, Nat.reduceAdd, Nat.reduceLeDiff, Nat.zero_add, true_and, nI_n0, nat_le, Nat.add_zero, i_1, i_m1, rt_mo_comesTo, x_al0, x_call, x_dup2, x_getf, x_goto, x_iadd, x_iaload, x_iastore, x_icge, x_icne, x_idiv, x_ifne, x_il1, x_il2, x_il3, x_il4, x_il5, x_il6, x_il7, x_imul, x_inc4, x_inc5, x_iret, x_is4, x_is5, x_is6, x_is7, x_isub, x_ldc, b_mo_comesTo_86, b_mo_comesTo_180, ld_205, sd_205, ln_205, up2_w, nI_add]
        have := ih' (v :: st) (fun j => if j = st.length then v else r j) (some (.int (nI o.1))) (some (.int (g 197 (1315 + 820 * k + 2 * i + 1)))) (by rw [h4, List.length_cons, List.length_cons, hl]) (by rw [h4, List.length_cons]; omega) ⟨if_pos rfl, pkR_u (Nat.le_refl _) hp⟩ (by
          intro x r' hx
          refine H' x r' ?_
          unfold ev1
          rw [if_pos h1, ← hv]
          exact hx)
        exact this
      by_cases h0 : o.1 = 0
      · simp only [h0, ↓reduceIte]
        have := fin (g 197 (1315 + 820 * k + 2 * i + 1)) (by rw [hR2 (Or.inl h0), if_pos h0])
        rw [h0] at this
        exact this
      · simp only [h0, ↓reduceIte]
        simp -implicitDefEqProofs (disch := first | assumption | omega) only [szS_0, szS_i, szS_r, szS_l, x_cons, x_goto, ob_some, kl_i, kl_r, kl_l, kl_n, push_n, push_s, pop_0, pop_i, pop_r, Int.reduceToNat, List.length_cons, List.length_nil, Nat.reduceAdd, Nat.reduceLeDiff, Nat.zero_add, true_and, nI_n0, nat_le, Nat.add_zero, i_1, i_m1, rt_mo_comesTo, x_al0, x_call, x_dup2, x_getf, x_goto, x_iadd, x_iaload, x_iastore, x_icge, x_icne, x_idiv, x_ifne, x_il1, x_il2, x_il3, x_il4, x_il5, x_il6, x_il7, x_imul, x_inc4, x_inc5, x_iret, x_is4, x_is5, x_is6, x_is7, x_isub, x_ldc, b_mo_comesTo_79, fd_196_0, fd_196_1, fd_196_2, fd_196_3, fd_196_4, sf_196_4, fd_196_5, sf_196_5, fd_196_6, fd_196_7, fd_196_8, fd_196_9, fd_196_10, fd_196_11, fd_196_12, sf_196_12, fd_196_13, sf_196_13, fd_196_14, sf_196_14, fd_196_15, sf_196_15, fd_196_16, sf_196_16, fd_196_17, sf_196_17, fd_196_18, sf_196_18, fd_196_19, sf_196_19, fd_196_20, sf_196_20, fd_196_21, sf_196_21, fd_196_22, sf_196_22, fd_196_23, sf_196_23, fd_196_24, sf_196_24, fd_196_25, sf_196_25, fd_196_26, sf_196_26, fd_196_27, fd_196_28, fd_196_29, fd_196_30, sf_196_30, fd_196_31, fd_196_32, fd_196_33, fd_196_34, fd_196_35, fd_196_36, fd_196_37, sf_196_37, fd_196_38, fd_196_39, sf_196_39, fd_196_40, sf_196_40, fd_196_41, sf_196_41, fd_196_42, fd_196_43, fd_196_44, ld_206, sd_206, ln_206, upw_o]
        exact fin _ (by rw [if_neg h0])
    · subst h4
      match st, hl, hp with
      | x :: st, hl, hp =>
        have hl' : st.length = s.length := by simpa using hl
        have hlen : st.length < 40 := by
          rw [List.length_cons] at h40
          omega
        have n1 : ¬ o.1 < 23 := by omega
        have hx : r st.length = x := hp.1
        have hv := hR2 (Or.inr h1)
        have n26 : (o.1 = 26) = True := eq_true h1
        have nz : nI o.2 ≠ 0 := fun e => by
          rw [nI_n0, nI_eqE (by omega) (by decide)] at e
          omega
        simp only [n1, ↓reduceIte]
        simp -implicitDefEqProofs (disch := first | assumption | omega) only [szS_0, szS_i, szS_r, szS_l, x_cons, x_goto, ob_some, kl_i, kl_r, kl_l, kl_n, push_n, push_s, pop_0, pop_i, pop_r, Int.reduceToNat, List.length_cons, List.length_nil, Nat.reduceAdd, Nat.reduceLeDiff, Nat.zero_add, true_and, nI_n0, nat_le, Nat.add_zero, i_1, i_m1, rt_mo_comesTo, x_al0, x_call, x_dup2, x_getf, x_goto, x_iadd, x_iaload, x_iastore, x_icge, x_icne, x_idiv, x_ifne, x_il1, x_il2, x_il3, x_il4, x_il5, x_il6, x_il7, x_imul, x_inc4, x_inc5, x_iret, x_is4, x_is5, x_is6, x_is7, x_isub, x_ldc, b_mo_comesTo_93, b_mo_comesTo_180, fd_196_0, fd_196_1, fd_196_2, fd_196_3, fd_196_4, sf_196_4, fd_196_5, sf_196_5, fd_196_6, fd_196_7, fd_196_8, fd_196_9, fd_196_10, fd_196_11, fd_196_12, sf_196_12, fd_196_13, sf_196_13, fd_196_14, sf_196_14, fd_196_15, sf_196_15, fd_196_16, sf_196_16, fd_196_17, sf_196_17, fd_196_18, sf_196_18, fd_196_19, sf_196_19, fd_196_20, sf_196_20, fd_196_21, sf_196_21, fd_196_22, sf_196_22, fd_196_23, sf_196_23, fd_196_24, sf_196_24, fd_196_25, sf_196_25, fd_196_26, sf_196_26, fd_196_27, fd_196_28, fd_196_29, fd_196_30, sf_196_30, fd_196_31, fd_196_32, fd_196_33, fd_196_34, fd_196_35, fd_196_36, fd_196_37, sf_196_37, fd_196_38, fd_196_39, sf_196_39, fd_196_40, sf_196_40, fd_196_41, sf_196_41, fd_196_42, fd_196_43, fd_196_44, ld_205, sd_205, ln_205, upw_s, n26, nI_eqE, ↓reduceIte, List.length_cons, pk_sub, Nat.add_sub_cancel, hx, hv, up2_w, nI_add]
        have := ih' (x / nI o.2 :: st) (fun j => if j = st.length then x / nI o.2 else r j) (some (.int (nI o.1))) (some (.int (nI o.2))) (by rw [h5, List.length_cons, List.length_cons, hl']) (by rw [h5, List.length_cons]; rw [List.length_cons] at h40; exact h40) ⟨if_pos rfl, pkR_u (Nat.le_refl _) hp.2⟩ (by
          intro y r' hy
          refine H' y r' ?_
          unfold ev1
          rw [if_neg (by omega), if_pos h1]
          exact hy)
        exact this
    · subst h4
      match st, hl, hp with
      | x :: st, hl, hp =>
        have hl' : st.length = s.length := by simpa using hl
        have hlen : st.length < 40 := by
          rw [List.length_cons] at h40
          omega
        have n1 : ¬ o.1 < 23 := by omega
        have hx : r st.length = x := hp.1
        have n26 : (o.1 = 26) = False := eq_false (by omega)
        have n30 : (o.1 = 30) = True := eq_true h1
        simp only [n1, ↓reduceIte]
        simp -implicitDefEqProofs (disch := first | assumption | omega) only [szS_0, szS_i, szS_r, szS_l, x_cons, x_goto, ob_some, kl_i, kl_r, kl_l, kl_n, push_n, push_s, pop_0, pop_i, pop_r, Int.reduceToNat, List.length_cons, List.length_nil, Nat.reduceAdd, Nat.reduceLeDiff, Nat.zero_add, true_and, nI_n0, nat_le, Nat.add_zero, i_1, i_m1, rt_mo_comesTo, x_al0, x_call, x_dup2, x_getf, x_goto, x_iadd, x_iaload, x_iastore, x_icge, x_icne, x_idiv, x_ifne, x_il1, x_il2, x_il3, x_il4, x_il5, x_il6, x_il7, x_imul, x_inc4, x_inc5, x_iret, x_is4, x_is5, x_is6, x_is7, x_isub, x_ldc, b_mo_comesTo_93, b_mo_comesTo_117, b_mo_comesTo_180, fd_196_0, fd_196_1, fd_196_2, fd_196_3, fd_196_4, sf_196_4, fd_196_5, sf_196_5, fd_196_6, fd_196_7, fd_196_8, fd_196_9, fd_196_10, fd_196_11, fd_196_12, sf_196_12, fd_196_13, sf_196_13, fd_196_14, sf_196_14, fd_196_15, sf_196_15, fd_196_16, sf_196_16, fd_196_17, sf_196_17, fd_196_18, sf_196_18, fd_196_19, sf_196_19, fd_196_20, sf_196_20, fd_196_21, sf_196_21, fd_196_22, sf_196_22, fd_196_23, sf_196_23, fd_196_24, sf_196_24, fd_196_25, sf_196_25, fd_196_26, sf_196_26, fd_196_27, fd_196_28, fd_196_29, fd_196_30, sf_196_30, fd_196_31, fd_196_32, fd_196_33, fd_196_34, fd_196_35, fd_196_36, fd_196_37, sf_196_37, fd_196_38, fd_196_39, sf_196_39, fd_196_40, sf_196_40, fd_196_41, sf_196_41, fd_196_42, fd_196_43, fd_196_44, ld_205, sd_205, ln_205, upw_s, n26, n30, nI_eqE, ↓reduceIte, List.length_cons, pk_sub, Nat.add_sub_cancel, hx, up2_w, nI_add]
        have := ih' ((nI 1 - x) :: st) (fun j => if j = st.length then nI 1 - x else r j) (some (.int (nI o.1))) (some (.int (g 197 (1315 + 820 * k + 2 * i + 1)))) (by rw [h5, List.length_cons, List.length_cons, hl']) (by rw [h5, List.length_cons]; rw [List.length_cons] at h40; exact h40) ⟨if_pos rfl, pkR_u (Nat.le_refl _) hp.2⟩ (by
          intro y r' hy
          refine H' y r' ?_
          unfold ev1
          rw [if_neg (by omega), if_neg (by omega), if_pos h1]
          exact hy)
        exact this
    all_goals
      have hb : (o.1 = 23 ∨ o.1 = 24 ∨ o.1 = 25 ∨ o.1 = 27 ∨ o.1 = 28 ∨ o.1 = 29 ∨ o.1 = 31 ∨ o.1 = 32) ∧ ∃ t1 t2 t3 s, ts = t1 :: t2 :: s ∧ ts' = t3 :: s := by
        obtain ⟨h1, s, h4, h5⟩ := h
        exact ⟨by omega, _, _, _, s, h4, h5⟩
      clear h
      obtain ⟨h1, t1, t2, t3, s, h4, h5⟩ := hb
      subst h4
      match st, hl, hp with
      | y :: x :: st, hl, hp =>
        have hl' : st.length = s.length := by simpa using hl
        have hlen : st.length < 39 := by
          rw [List.length_cons, List.length_cons] at h40
          omega
        have n1 : ¬ o.1 < 23 := by omega
        have hy : r (st.length + 1) = y := hp.1
        have hx : r st.length = x := hp.2.1
        have n26 : (o.1 = 26) = False := eq_false (by omega)
        have n30 : (o.1 = 30) = False := eq_false (by omega)
        simp only [n1, ↓reduceIte]
        simp -implicitDefEqProofs (disch := first | assumption | omega) only [szS_0, szS_i, szS_r, szS_l, x_cons, x_goto, ob_some, kl_i, kl_r, kl_l, kl_n, push_n, push_s, pop_0, pop_i, pop_r, Int.reduceToNat, List.length_cons, List.length_nil, Nat.reduceAdd, Nat.reduceLeDiff, Nat.zero_add, true_and, nI_n0, nat_le, Nat.add_zero, i_1, i_m1, rt_mo_comesTo, x_al0, x_call, x_dup2, x_getf, x_goto, x_iadd, x_iaload, x_iastore, x_icge, x_icne, x_idiv, x_ifne, x_il1, x_il2, x_il3, x_il4, x_il5, x_il6, x_il7, x_imul, x_inc4, x_inc5, x_iret, x_is4, x_is5, x_is6, x_is7, x_isub, x_ldc, b_mo_comesTo_93, b_mo_comesTo_117, b_mo_comesTo_147, b_mo_comesTo_180, fd_196_0, fd_196_1, fd_196_2, fd_196_3, fd_196_4, sf_196_4, fd_196_5, sf_196_5, fd_196_6, fd_196_7, fd_196_8, fd_196_9, fd_196_10, fd_196_11, fd_196_12, sf_196_12, fd_196_13, sf_196_13, fd_196_14, sf_196_14, fd_196_15, sf_196_15, fd_196_16, sf_196_16, fd_196_17, sf_196_17, fd_196_18, sf_196_18, fd_196_19, sf_196_19, fd_196_20, sf_196_20, fd_196_21, sf_196_21, fd_196_22, sf_196_22, fd_196_23, sf_196_23, fd_196_24, sf_196_24, fd_196_25, sf_196_25, fd_196_26, sf_196_26, fd_196_27, fd_196_28, fd_196_29, fd_196_30, sf_196_30, fd_196_31, fd_196_32, fd_196_33, fd_196_34, fd_196_35, fd_196_36, fd_196_37, sf_196_37, fd_196_38, fd_196_39, sf_196_39, fd_196_40, sf_196_40, fd_196_41, sf_196_41, fd_196_42, fd_196_43, fd_196_44, ld_205, sd_205, ln_205, upw_s, n26, n30, nI_eqE, ↓reduceIte, List.length_cons, pk_m1, pk_sub, Nat.add_sub_cancel, hx, hy, up2_w, nI_add, s_both]
        have := ih' (opB o.1 x y :: st) (fun j => if j = st.length then opB o.1 x y else r j) (some (.int (nI o.1))) (some (.int (g 197 (1315 + 820 * k + 2 * i + 1)))) (by rw [h5, List.length_cons, List.length_cons, hl']) (by rw [h5, List.length_cons]; rw [List.length_cons, List.length_cons] at h40; omega) ⟨if_pos rfl, pkR_u (Nat.le_refl _) hp.2.2⟩ (by
          intro z r' hz
          refine H' z r' ?_
          unfold ev1
          rw [if_neg (by omega), if_neg (by omega), if_neg (by omega)]
          exact hz)
        exact this
end ME
