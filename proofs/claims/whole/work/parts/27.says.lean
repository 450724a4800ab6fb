/-! what a law says -/
def topL : List Int32 → Int32
  | x :: _ => x
  | [] => nI 0
/-- the stack has the sorts -/
def tsR : List Bool → List Int32 → Prop
  | [], [] => True
  | t :: ts, x :: st => (t = true → x = nI 0 ∨ x = nI 1) ∧ tsR ts st
  | _, _ => False
theorem tsR_l : ∀ {ts : List Bool} {st : List Int32}, tsR ts st → st.length = ts.length
  | [], [], _ => rfl
  | _ :: _, _ :: _, h => by rw [List.length_cons, List.length_cons, tsR_l h.2]
theorem opB_t {s : Nat} {a b : Int32} (h : s = 27 ∨ s = 28 ∨ s = 29) : opB s a b = nI 0 ∨ opB s a b = nI 1 := by
  rcases h with rfl | rfl | rfl
  · show (if a < b then nI 1 else nI 0) = nI 0 ∨ (if a < b then nI 1 else nI 0) = nI 1
    split <;> simp
  · show (if a = b then nI 1 else nI 0) = nI 0 ∨ (if a = b then nI 1 else nI 0) = nI 1
    split <;> simp
  · show (if b < a then nI 1 else nI 0) = nI 0 ∨ (if b < a then nI 1 else nI 0) = nI 1
    split <;> simp
theorem ev1_t {F : Nat → Int32} {o : Nat × Nat} {ts ts' : List Bool} {st : List Int32} (h : ty1 o ts = some ts') (hs : tsR ts st) : tsR ts' (ev1 F o st) := by
  rcases ty1_c h with ⟨h1, h2, h3, h4⟩ | ⟨h1, h2, h3, s, h4, h5⟩ | ⟨h1, s, h4, h5⟩ | ⟨h1, s, h4, h5⟩ | ⟨h1, s, h4, h5⟩ | ⟨h1, s, h4, h5⟩
  · subst h4
    unfold ev1
    rw [if_pos h1]
    exact ⟨fun e => Bool.noConfusion e, hs⟩
  · subst h4 h5
    match st, hs with
    | x :: st, hs =>
      unfold ev1
      rw [if_neg (by omega), if_pos h1]
      exact ⟨fun e => Bool.noConfusion e, hs.2⟩
  · subst h4 h5
    match st, hs with
    | x :: st, hs =>
      unfold ev1
      rw [if_neg (by omega), if_neg (by omega), if_pos h1]
      refine ⟨fun _ => ?_, hs.2⟩
      rcases hs.1 rfl with e | e <;> rw [e]
      · exact Or.inr rfl
      · exact Or.inl rfl
  · subst h4 h5
    match st, hs with
    | y :: x :: st, hs =>
      unfold ev1
      rw [if_neg (by omega), if_neg (by omega), if_neg (by omega)]
      exact ⟨fun e => Bool.noConfusion e, hs.2.2⟩
  · subst h4 h5
    match st, hs with
    | y :: x :: st, hs =>
      unfold ev1
      rw [if_neg (by omega), if_neg (by omega), if_neg (by omega)]
      exact ⟨fun _ => opB_t h1, hs.2.2⟩
  · subst h4 h5
    match st, hs with
    | y :: x :: st, hs =>
      unfold ev1
      rw [if_neg (by omega), if_neg (by omega), if_neg (by omega)]
      refine ⟨fun _ => ?_, hs.2.2⟩
      rcases h1 with h1 | h1 <;> rcases hs.1 rfl with e | e <;> rcases hs.2.1 rfl with e2 | e2 <;> rw [e, e2, h1]
      all_goals first | exact Or.inl rfl | exact Or.inr rfl
theorem evL_t {F : Nat → Int32} : ∀ {l : List (Nat × Nat)} {ts ts' : List Bool} {st : List Int32}, tyL l ts = some ts' → tsR ts st → tsR ts' (evL F l st)
  | [], ts, ts', st, h, hs => by
    cases (show some ts = some ts' from h)
    exact hs
  | o :: l, ts, ts', st, h, hs => by
    obtain ⟨t1, h1, h2⟩ := Option.bind_eq_some_iff.mp (show (ty1 o ts).bind (tyL l) = some ts' from h)
    show tsR ts' (evL F l (ev1 F o st))
    exact evL_t h2 (ev1_t h1 hs)
theorem evL_1 {F : Nat → Int32} {l : List (Nat × Nat)} {t : Bool} (h : tyL l [] = some [t]) : evL F l [] = [topL (evL F l [])] ∧ (t = true → topL (evL F l []) = nI 0 ∨ topL (evL F l []) = nI 1) := by
  have := evL_t (F := F) h (st := []) trivial
  match e : evL F l [], this with
  | [x], h => exact ⟨rfl, h.1⟩
section MF
variable {d : Nat} {g : Nat → Nat → Int32} {q : Nat → Nat → Int64} {P : QT}
theorem s_comesTo {k i e : Nat} (hk : k < 2) {t : Bool} {l : List (Nat × Nat)} (he : e = i + l.length) (hi : i + l.length ≤ 400) (hR : stpR (g 197) k i l) (hT : tyL l [] = some [t]) (H : ∀ r, P (some (.int (topL (evL (g 206) l [])))) (E (upw g 205 r) q)) :
    callC (ev (d + 3)) mo_comesTo [.ref 196, .int (nI k), .int (nI i), .int (nI e)] (E g q) P := by
  subst he
  refine in_mo_comesTo rfl ?_
  simp -implicitDefEqProofs (disch := first | assumption | omega) only [szS_0, szS_i, szS_r, szS_l, x_cons, x_goto, ob_some, kl_i, kl_r, kl_l, kl_n, push_n, push_s, pop_0, pop_i, pop_r, Int.reduceToNat, List.length_cons, List.length_nil, Nat.reduceAdd, Nat.reduceLeDiff, Nat.zero_add, true_and, nI_n0, nat_le, Nat.add_zero, i_1, i_m1, rt_mo_comesTo, x_al0, x_call, x_dup2, x_getf, x_goto, x_iadd, x_iaload, x_iastore, x_icge, x_icne, x_idiv, x_ifne, x_il1, x_il2, x_il3, x_il4, x_il5, x_il6, x_il7, x_imul, x_inc4, x_inc5, x_iret, x_is4, x_is5, x_is6, x_is7, x_isub, x_ldc, b_mo_comesTo_0, b_mo_comesTo_79, b_mo_comesTo_86, b_mo_comesTo_93, b_mo_comesTo_117, b_mo_comesTo_147, b_mo_comesTo_180, b_mo_comesTo_186]
  have e0 : E g q = E (upw g 205 (g 205)) q := by rw [upw_g]
  rw [e0]
  refine ct_lp hk l i [] [] _ none none hi hR hT rfl (Nat.zero_le _) trivial fun x r' hx => ?_
  have := H r'
  rw [hx] at this
  exact this
/-- a law's lines -/
abbrev LW : Type := List (List (Nat × Nat) × List (Nat × Nat))
def lnR (w : Nat → Int32) (k : Nat) : Nat → LW → Prop
  | _, [] => True
  | j, (A, C) :: r => (∃ f, w (1210 + (16 * k + j)) = nI f ∧ w (1245 + (16 * k + j)) = nI (f + A.length) ∧ w (1280 + (16 * k + j)) = nI (f + A.length + C.length) ∧ f + A.length + C.length ≤ 400 ∧ stpR w k f A ∧ stpR w k (f + A.length) C ∧ tyL A [] = some [false] ∧ (C = [] ∨ tyL C [] = some [true])) ∧ lnR w k (j + 1) r
def LWR (w : Nat → Int32) (k : Nat) (ls : LW) : Prop := w (1205 + k) = nI ls.length ∧ ls.length ≤ 16 ∧ lnR w k 0 ls
def heldI (v m : Int32) : Int32 := if (if m < v then m else v) < nI 0 then nI 0 else (if m < v then m else v)
def saysL (F : Nat → Int32) (o m : Int32) : LW → Int32
  | [] => o
  | (A, C) :: r => if C = [] ∨ topL (evL F C []) = nI 1 then heldI (topL (evL F A [])) m else saysL F o m r
theorem ls_lp {k : Nat} (hk : k < 2) {o m : Int32} {n : Nat} (hn : n ≤ 16) (hl : g 197 (1205 + k) = nI n) : ∀ (l : LW) (j : Nat) (r : Nat → Int32), j + l.length = n → lnR (g 197) k j l → (∀ r', P (some (.int (saysL (g 206) o m l))) (E (upw g 205 r') q)) →
    wp (ev (d + 3)) P mo_lawSays 6 [some (.ref 196), some (.int (nI k)), some (.int o), some (.int m), some (.int (nI (16 * k + j)))] [] (E (upw g 205 r) q) := by
  intro l
  induction l with
  | nil =>
    intro j r hj _ H
    have hj : j = n := hj
    subst hj
    rw [b_mo_lawSays_6]
    simp -implicitDefEqProofs (disch := first | assumption | omega) only [szS_0, szS_i, szS_r, szS_l, x_cons, x_goto, ob_some, kl_i, kl_r, kl_l, kl_n, push_n, push_s, pop_0, pop_i, pop_r, Int.reduceToNat, List.length_cons, List.length_nil, Nat.reduceAdd, Nat.reduceLeDiff, Nat.zero_add, true_and, nI_n0, nat_le, Nat.add_zero, i_1, rt_mo_lawSays, x_al0, x_call, x_getf, x_goto, x_iadd, x_iaload, x_iceq, x_icge, x_icne, x_il1, x_il2, x_il3, x_il4, x_imul, x_inc4, x_iret, x_is4, x_ldc, b_mo_lawSays_0, b_mo_lawSays_82, b_mo_lawSays_115, b_mo_lawSays_121, fd_196_0, fd_196_1, fd_196_2, fd_196_3, fd_196_4, sf_196_4, fd_196_5, sf_196_5, fd_196_6, fd_196_7, fd_196_8, fd_196_9, fd_196_10, fd_196_11, fd_196_12, sf_196_12, fd_196_13, sf_196_13, fd_196_14, sf_196_14, fd_196_15, sf_196_15, fd_196_16, sf_196_16, fd_196_17, sf_196_17, fd_196_18, sf_196_18, fd_196_19, sf_196_19, fd_196_20, sf_196_20, fd_196_21, sf_196_21, fd_196_22, sf_196_22, fd_196_23, sf_196_23, fd_196_24, sf_196_24, fd_196_25, sf_196_25, fd_196_26, sf_196_26, fd_196_27, fd_196_28, fd_196_29, fd_196_30, sf_196_30, fd_196_31, fd_196_32, fd_196_33, fd_196_34, fd_196_35, fd_196_36, fd_196_37, sf_196_37, fd_196_38, fd_196_39, sf_196_39, fd_196_40, sf_196_40, fd_196_41, sf_196_41, fd_196_42, fd_196_43, fd_196_44, ld_197, sd_197, ln_197, upw_o, hl, nI_mul, nI_add, nI_ltE, Nat.lt_irrefl, ↓reduceIte]
    exact H r
  | cons p l ih =>
    intro j r hj hR H
    obtain ⟨A, C⟩ := p
    obtain ⟨⟨f, hf, hm, ht, h4, hA, hC, hTA, hTC⟩, hR2⟩ := hR
    have hj : j + (l.length + 1) = n := hj
    have hlt : 16 * k + j < 16 * k + n := by omega
    have amt : ∀ r, saysL (g 206) o m ((A, C) :: l) = heldI (topL (evL (g 206) A [])) m → wp (ev (d + 3)) P mo_lawSays 82 [some (.ref 196), some (.int (nI k)), some (.int o), some (.int m), some (.int (nI (16 * k + j)))] [] (E (upw g 205 r) q) := by
      intro r hs
      simp -implicitDefEqProofs (disch := first | assumption | omega) only [szS_0, szS_i, szS_r, szS_l, x_cons, x_goto, ob_some, kl_i, kl_r, kl_l, kl_n, push_n, push_s, pop_0, pop_i, pop_r, Int.reduceToNat, List.length_cons, List.length_nil, Nat.reduceAdd, Nat.reduceLeDiff, Nat.zero_add, true_and, nI_n0, nat_le, Nat.add_zero, i_1, rt_mo_lawSays, x_al0, x_call, x_getf, x_goto, x_iadd, x_iaload, x_iceq, x_icge, x_icne, x_il1, x_il2, x_il3, x_il4, x_imul, x_inc4, x_iret, x_is4, x_ldc, b_mo_lawSays_82, fd_196_0, fd_196_1, fd_196_2, fd_196_3, fd_196_4, sf_196_4, fd_196_5, sf_196_5, fd_196_6, fd_196_7, fd_196_8, fd_196_9, fd_196_10, fd_196_11, fd_196_12, sf_196_12, fd_196_13, sf_196_13, fd_196_14, sf_196_14, fd_196_15, sf_196_15, fd_196_16, sf_196_16, fd_196_17, sf_196_17, fd_196_18, sf_196_18, fd_196_19, sf_196_19, fd_196_20, sf_196_20, fd_196_21, sf_196_21, fd_196_22, sf_196_22, fd_196_23, sf_196_23, fd_196_24, sf_196_24, fd_196_25, sf_196_25, fd_196_26, sf_196_26, fd_196_27, fd_196_28, fd_196_29, fd_196_30, sf_196_30, fd_196_31, fd_196_32, fd_196_33, fd_196_34, fd_196_35, fd_196_36, fd_196_37, sf_196_37, fd_196_38, fd_196_39, sf_196_39, fd_196_40, sf_196_40, fd_196_41, sf_196_41, fd_196_42, fd_196_43, fd_196_44, ld_197, sd_197, ln_197, upw_o, hf, hm, nI_mul, nI_add]
      refine s_comesTo hk rfl (by omega) hA hTA fun r' => ?_
      rw [upw_o (by decide), upw_w]
      simp -implicitDefEqProofs (disch := first | assumption | omega) only [szS_0, szS_i, szS_r, szS_l, x_cons, x_goto, ob_some, kl_i, kl_r, kl_l, kl_n, push_n, push_s, pop_0, pop_i, pop_r, Int.reduceToNat, List.length_cons, List.length_nil, Nat.reduceAdd, Nat.reduceLeDiff, Nat.zero_add, true_and, nI_n0, nat_le, Nat.add_zero, i_1, rt_mo_lawSays, x_al0, x_call, x_getf, x_goto, x_iadd, x_iaload, x_iceq, x_icge, x_icne, x_il1, x_il2, x_il3, x_il4, x_imul, x_inc4, x_iret, x_is4, x_ldc, s_held]
      have := H r'
      rw [hs] at this
      exact this
    rw [b_mo_lawSays_6]
    simp -implicitDefEqProofs (disch := first | assumption | omega) only [szS_0, szS_i, szS_r, szS_l, x_cons, x_goto, ob_some, kl_i, kl_r, kl_l, kl_n, push_n, push_s, pop_0, pop_i, pop_r, Int.reduceToNat, List.length_cons, List.length_nil, Nat.reduceAdd, Nat.reduceLeDiff, Nat.zero_add, true_and, nI_n0, nat_le, Nat.add_zero, i_1, rt_mo_lawSays, x_al0, x_call, x_getf, x_goto, x_iadd, x_iaload, x_iceq, x_icge, x_icne, x_il1, x_il2, x_il3, x_il4, x_imul, x_inc4, x_iret, x_is4, x_ldc, fd_196_0, fd_196_1, fd_196_2, fd_196_3, fd_196_4, sf_196_4, fd_196_5, sf_196_5, fd_196_6, fd_196_7, fd_196_8, fd_196_9, fd_196_10, fd_196_11, fd_196_12, sf_196_12, fd_196_13, sf_196_13, fd_196_14, sf_196_14, fd_196_15, sf_196_15, fd_196_16, sf_196_16, fd_196_17, sf_196_17, fd_196_18, sf_196_18, fd_196_19, sf_196_19, fd_196_20, sf_196_20, fd_196_21, sf_196_21, fd_196_22, sf_196_22, fd_196_23, sf_196_23, fd_196_24, sf_196_24, fd_196_25, sf_196_25, fd_196_26, sf_196_26, fd_196_27, fd_196_28, fd_196_29, fd_196_30, sf_196_30, fd_196_31, fd_196_32, fd_196_33, fd_196_34, fd_196_35, fd_196_36, fd_196_37, sf_196_37, fd_196_38, fd_196_39, sf_196_39, fd_196_40, sf_196_40, fd_196_41, sf_196_41, fd_196_42, fd_196_43, fd_196_44, ld_197, sd_197, ln_197, upw_o, hl, hf, hm, ht, nI_mul, nI_add, nI_ltE, nI_eqE, hlt, ↓reduceIte]
    by_cases hC0 : C = []
    · have e : f + A.length + C.length = f + A.length := by rw [hC0]; rfl
      simp only [e, ↓reduceIte]
      exact amt r (if_pos (Or.inl hC0))
    · have hTC : tyL C [] = some [true] := hTC.resolve_left hC0
      have hl0 : 0 < C.length := List.length_pos_iff.mpr hC0
      have e : (f + A.length + C.length = f + A.length) = False := eq_false (by omega)
      simp only [e, ↓reduceIte]
      refine s_comesTo hk rfl (by omega) hC hTC fun r' => ?_
      rw [upw_o (by decide), upw_w]
      simp -implicitDefEqProofs (disch := first | assumption | omega) only [szS_0, szS_i, szS_r, szS_l, x_cons, x_goto, ob_some, kl_i, kl_r, kl_l, kl_n, push_n, push_s, pop_0, pop_i, pop_r, Int.reduceToNat, List.length_cons, List.length_nil, Nat.reduceAdd, Nat.reduceLeDiff, Nat.zero_add, true_and, nI_n0, nat_le, Nat.add_zero, i_1, rt_mo_lawSays, x_al0, x_call, x_getf, x_goto, x_iadd, x_iaload, x_iceq, x_icge, x_icne, x_il1, x_il2, x_il3, x_il4, x_imul, x_inc4, x_iret, x_is4, x_ldc]
      split
      next h1 => exact amt r' (if_pos (Or.inr h1))
      next h1 =>
        simp -implicitDefEqProofs (disch := first | assumption | omega) only [szS_0, szS_i, szS_r, szS_l, x_cons, x_goto, ob_some, kl_i, kl_r, kl_l, kl_n, push_n, push_s, pop_0, pop_i, pop_r, Int.reduceToNat, List.length_cons, List.length_nil, Nat.reduceAdd, Nat.reduceLeDiff, Nat.zero_add, true_and, nI_n0, nat_le, Nat.add_zero, i_1, rt_mo_lawSays, x_al0, x_call, x_getf, x_goto, x_iadd, x_iaload, x_iceq, x_icge, x_icne, x_il1, x_il2, x_il3, x_il4, x_imul, x_inc4, x_iret, x_is4, x_ldc, b_mo_lawSays_115, nI_add]
        refine ih (j + 1) r' (by omega) hR2 fun r2 => ?_
        have := H r2
        rw [show saysL (g 206) o m ((A, C) :: l) = saysL (g 206) o m l from if_neg (fun h => h.elim hC0 h1)] at this
        exact this
end MF
