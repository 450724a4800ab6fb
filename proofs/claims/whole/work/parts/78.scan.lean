/-! the class's tokens -/
section SCN
variable {d : Nat} {g : Nat → Nat → Int32} {q : Nat → Nat → Int64} {P : QT} {T : Nat → Nat} {n k : Nat}
theorem tkR_0 {m : Nat} {kd vl : Int32} (h : kd = nI 0) : tkR k 0 m kd vl := ⟨fun _ => h, fun h => absurd h (by decide), fun h => absurd h (by decide), fun h => absurd h (by decide), fun h => absurd h (by decide)⟩
theorem tkR_1 {m : Nat} {kd vl : Int32} (h : kd = nI 4) : tkR k 1 m kd vl := ⟨fun h => absurd h (by decide), fun _ => h, fun h => absurd h (by decide), fun h => absurd h (by decide), fun h => absurd h (by decide)⟩
theorem tkR_2 {m : Nat} {kd vl : Int32} (h : kd = nI 2) (hv : vl = nI m) (hm : m ≤ 9999) : tkR k 2 m kd vl := ⟨fun h => absurd h (by decide), fun h => absurd h (by decide), fun _ => ⟨h, hv, hm⟩, fun h => absurd h (by decide), fun h => absurd h (by decide)⟩
theorem tkR_s {m x : Nat} {kd vl : Int32} (hx : x < 256) (h : kd = nI 3) (hv : vl = nI x) : tkR k (100 + x) m kd vl := ⟨fun h => absurd h (by omega), fun h => absurd h (by omega), fun h => absurd h (by omega), fun _ => ⟨h, by rw [Nat.add_sub_cancel_left]; exact hv, by omega⟩, fun _ h => absurd h (by omega)⟩
theorem tkR_w {m j : Nat} {kd vl : Int32} (hk : k < 3) (hj : j < WN k) (h : kd = nI 1) (hv : vl = nI j) : tkR k (CT_ k j) m kd vl := by
  have h2 := (WT_ok hk hj).2.1
  exact ⟨fun h => absurd h (by omega), fun h => absurd h (by omega), fun h => absurd h (by omega), fun h => absurd h (by omega), fun _ _ => ⟨h, j, hj, rfl, hv⟩⟩
/-- one token's cells are written -/
def tkW (l : Nat) (g g' : Nat → Nat → Int32) : Prop := (∀ a, a ≠ 170 → a ≠ 171 → g' a = g a) ∧ ∀ j, j ≠ l → g' 170 j = g 170 j ∧ g' 171 j = g 171 j
theorem s_scanWord (hk : k < 3) (hR : RT T n g) {b l : Nat} (hb : b < n) (hl : l < 401) (h9 : g 168 9 = nI l) (H : ∀ g', tkW l g g' → tkR k (wcd T k b (scn (fun i => ltr (T i)) n b)) 0 (g' 170 l) (g' 171 l) → P (some (.int (nI (scn (fun i => ltr (T i)) n b)))) (E g' q)) : callC (ev (d + 7)) re_scanWord [.ref 168, .int (nI b), .ref (100000 + WID k)] (E g q) P := by
  refine in_re_scanWord rfl ?_
  obtain ⟨i1, i2, i3⟩ := scn_i (p := fun i => ltr (T i)) (n := n) (x := b)
  have i2 := i2 (Nat.le_of_lt hb)
  rw [b_re_scanWord_0]
  simp -implicitDefEqProofs (disch := first | assumption | omega) only [szS_0, szS_i, szS_r, szS_l, x_cons, x_goto, ob_some, kl_i, kl_r, kl_l, kl_n, push_n, push_s, pop_0, pop_i, pop_r, Int.reduceToNat, List.length_cons, List.length_nil, Nat.reduceAdd, Nat.reduceLeDiff, Nat.zero_add, true_and, nI_n0, nat_le, Nat.add_zero, i_1, rt_re_scanWord, x_al0, x_al2, x_call, x_getf, x_goto, x_iadd, x_iaload, x_iastore, x_iceq, x_icge, x_icgt, x_icne, x_ifeq, x_il1, x_il3, x_il4, x_il5, x_il6, x_inc3, x_inc4, x_inc6, x_iret, x_is3, x_is4, x_is5, x_is6, x_isub, x_ldc]
  refine sw_1 (d := d + 1) hR ?_ (n - b) b (by omega) rfl
  rw [b_re_scanWord_28]
  simp -implicitDefEqProofs (disch := first | assumption | omega) only [szS_0, szS_i, szS_r, szS_l, x_cons, x_goto, ob_some, kl_i, kl_r, kl_l, kl_n, push_n, push_s, pop_0, pop_i, pop_r, Int.reduceToNat, List.length_cons, List.length_nil, Nat.reduceAdd, Nat.reduceLeDiff, Nat.zero_add, true_and, nI_n0, nat_le, Nat.add_zero, i_1, rt_re_scanWord, x_al0, x_al2, x_call, x_getf, x_goto, x_iadd, x_iaload, x_iastore, x_iceq, x_icge, x_icgt, x_icne, x_ifeq, x_il1, x_il3, x_il4, x_il5, x_il6, x_inc3, x_inc4, x_inc6, x_iret, x_is3, x_is4, x_is5, x_is6, x_isub, x_ldc, fd_168_0, fd_168_1, sf_168_1, fd_168_2, sf_168_2, fd_168_3, sf_168_3, fd_168_4, sf_168_4, fd_168_5, sf_168_5, fd_168_6, fd_168_7, fd_168_8, fd_168_9, sf_168_9, fd_168_10, sf_168_10, upw_o, h9, ld_170, sd_170, ln_170, ld_171, sd_171, ln_171, pu_g]
  refine sw_2 (n := n) hk i1 i2 hl hR h9 (fun u v hu hv => ?_) (sL (WID k) + 1) 0 (Nat.zero_add _) 0 0 (fun _ => ⟨rfl, rfl⟩) (fun h => by omega) (by omega) (by omega)
  refine H _ ⟨fun a a1 a2 => by rw [upw_o a2, upw_o a1], fun j hj => ⟨by rw [upw_o (by decide), upw_s, pu_n hj], by rw [upw_s, pu_n hj]⟩⟩ ?_
  rw [upw_o (by decide), upw_s, pu_s, upw_s, pu_s]
  rcases wcd_i (T := T) (b := b) (e := scn (fun i => ltr (T i)) n b) hk with e | ⟨m, hm, e, hf⟩
  · have hf : fwd T k b (scn (fun i => ltr (T i)) n b) (WN k) = none := by
      cases hf : fwd T k b (scn (fun i => ltr (T i)) n b) (WN k) with
      | none => rfl
      | some m =>
        have h1 : wcd T k b (scn (fun i => ltr (T i)) n b) = CT_ k m := by
          unfold wcd
          rw [hf]
        have h2 := (WT_ok hk (fwd_i _ hf).1).2.1
        omega
    rw [hf] at hu
    rw [e]
    exact tkR_1 hu
  · rw [hf] at hu hv
    have h2 := (WT_ok hk hm).2.1
    rw [e]
    exact tkR_w hk hm hu hv
theorem sn_lp (hR : RT T n g) {b e : Nat} (hdg : ∀ i, b ≤ i → i < e → dgt (T i) = true) (H : wp (ev (d + 1)) P re_scanNumber 52 [some (.ref 168), some (.int (nI b)), some (.int (nI e)), some (.int (nI (nmF T b (e - b))))] [] (E g q)) : ∀ (j x : Nat), x + j = n → b ≤ x → x ≤ e → scn (fun i => dgt (T i)) n x = e →
    wp (ev (d + 1)) P re_scanNumber 4 [some (.ref 168), some (.int (nI b)), some (.int (nI x)), some (.int (nI (nmF T b (x - b))))] [] (E g q) := by
  obtain ⟨r1, r2, r3⟩ := hR
  intro j
  induction j with
  | zero =>
    intro x hx hbx hxe he
    have hx : x = n := hx
    subst hx
    rw [scn_e (Nat.le_refl x)] at he
    subst he
    rw [b_re_scanNumber_4]
    simp -implicitDefEqProofs (disch := first | assumption | omega) only [szS_0, szS_i, szS_r, szS_l, x_cons, x_goto, ob_some, kl_i, kl_r, kl_l, kl_n, push_n, push_s, pop_0, pop_i, pop_r, Int.reduceToNat, List.length_cons, List.length_nil, Nat.reduceAdd, Nat.reduceLeDiff, Nat.zero_add, true_and, nI_n0, nat_le, Nat.add_zero, i_1, rt_re_scanNumber, x_al0, x_call, x_getf, x_goto, x_iadd, x_iaload, x_iastore, x_icge, x_icgt, x_ifeq, x_il1, x_il2, x_il3, x_imul, x_inc2, x_iret, x_is2, x_is3, x_isub, x_ldc, fd_168_0, fd_168_1, sf_168_1, fd_168_2, sf_168_2, fd_168_3, sf_168_3, fd_168_4, sf_168_4, fd_168_5, sf_168_5, fd_168_6, fd_168_7, fd_168_8, fd_168_9, sf_168_9, fd_168_10, sf_168_10, r1, nI_ltE, Nat.lt_irrefl, ↓reduceIte]
    exact H
  | succ j ih =>
    intro x hx hbx hxe he
    have hx' : x < n := by omega
    have hT := r3 x hx'
    have hT2 := hT.2
    rw [b_re_scanNumber_4]
    simp -implicitDefEqProofs (disch := first | assumption | omega) only [szS_0, szS_i, szS_r, szS_l, x_cons, x_goto, ob_some, kl_i, kl_r, kl_l, kl_n, push_n, push_s, pop_0, pop_i, pop_r, Int.reduceToNat, List.length_cons, List.length_nil, Nat.reduceAdd, Nat.reduceLeDiff, Nat.zero_add, true_and, nI_n0, nat_le, Nat.add_zero, i_1, rt_re_scanNumber, x_al0, x_call, x_getf, x_goto, x_iadd, x_iaload, x_iastore, x_icge, x_icgt, x_ifeq, x_il1, x_il2, x_il3, x_imul, x_inc2, x_iret, x_is2, x_is3, x_isub, x_ldc, fd_168_0, fd_168_1, sf_168_1, fd_168_2, sf_168_2, fd_168_3, sf_168_3, fd_168_4, sf_168_4, fd_168_5, sf_168_5, fd_168_6, fd_168_7, fd_168_8, fd_168_9, sf_168_9, fd_168_10, sf_168_10, r1, nI_ltE, hx', ↓reduceIte, ld_169, sd_169, ln_169, hT.1, s_cdigit hT.2, bI_0]
    cases hl : dgt (T x)
    · rw [scn_n hx' hl] at he
      subst he
      simp -implicitDefEqProofs (disch := first | assumption | omega) only [↓reduceIte]
      exact H
    · rw [scn_s hx' hl] at he
      have hxe2 : x + 1 ≤ e := by rw [← he]; exact scn_i.1
      have hd : 48 ≤ T x ∧ T x ≤ 57 := of_decide_eq_true hl
      have hnm := (nmF_l (T := T) (b := b) (x - b) fun i hi => hdg _ (by omega) (by omega)).2
      have ebx : b + (x - b) = x := by omega
      have en : nmF T b (x + 1 - b) = if x - b < 4 then nmF T b (x - b) * 10 + T x - 48 else nmF T b (x - b) := by
        rw [show x + 1 - b = x - b + 1 by omega]
        show (if x - b < 4 then nmF T b (x - b) * 10 + T (b + (x - b)) - 48 else nmF T b (x - b)) = _
        rw [ebx]
      have hi := ih (x + 1) (by omega) (by omega) hxe2 he
      rw [en] at hi
      simp -implicitDefEqProofs (disch := first | assumption | omega) only [Bool.true_eq_false, ↓reduceIte, szS_0, szS_i, szS_r, szS_l, x_cons, x_goto, ob_some, kl_i, kl_r, kl_l, kl_n, push_n, push_s, pop_0, pop_i, pop_r, Int.reduceToNat, List.length_cons, List.length_nil, Nat.reduceAdd, Nat.reduceLeDiff, Nat.zero_add, true_and, nI_n0, nat_le, Nat.add_zero, i_1, rt_re_scanNumber, x_al0, x_call, x_getf, x_goto, x_iadd, x_iaload, x_iastore, x_icge, x_icgt, x_ifeq, x_il1, x_il2, x_il3, x_imul, x_inc2, x_iret, x_is2, x_is3, x_isub, x_ldc, nI_sub, hbx, nI_ltE]
      by_cases h4 : x - b < 4
      · rw [if_pos h4] at hi
        rw [if_pos h4]
        try simp -implicitDefEqProofs (disch := first | assumption | omega) only [szS_0, szS_i, szS_r, szS_l, x_cons, x_goto, ob_some, kl_i, kl_r, kl_l, kl_n, push_n, push_s, pop_0, pop_i, pop_r, Int.reduceToNat, List.length_cons, List.length_nil, Nat.reduceAdd, Nat.reduceLeDiff, Nat.zero_add, true_and, nI_n0, nat_le, Nat.add_zero, i_1, rt_re_scanNumber, x_al0, x_call, x_getf, x_goto, x_iadd, x_iaload, x_iastore, x_icge, x_icgt, x_ifeq, x_il1, x_il2, x_il3, x_imul, x_inc2, x_iret, x_is2, x_is3, x_isub, x_ldc, fd_168_0, fd_168_1, sf_168_1, fd_168_2, sf_168_2, fd_168_3, sf_168_3, fd_168_4, sf_168_4, fd_168_5, sf_168_5, fd_168_6, fd_168_7, fd_168_8, fd_168_9, sf_168_9, fd_168_10, sf_168_10, ld_169, sd_169, ln_169, hT.1, nI_mul, nI_add, nI_sub, b_re_scanNumber_46]
        exact hi
      · rw [if_neg h4] at hi
        rw [if_neg h4]
        try simp -implicitDefEqProofs (disch := first | assumption | omega) only [b_re_scanNumber_46, szS_0, szS_i, szS_r, szS_l, x_cons, x_goto, ob_some, kl_i, kl_r, kl_l, kl_n, push_n, push_s, pop_0, pop_i, pop_r, Int.reduceToNat, List.length_cons, List.length_nil, Nat.reduceAdd, Nat.reduceLeDiff, Nat.zero_add, true_and, nI_n0, nat_le, Nat.add_zero, i_1, rt_re_scanNumber, x_al0, x_call, x_getf, x_goto, x_iadd, x_iaload, x_iastore, x_icge, x_icgt, x_ifeq, x_il1, x_il2, x_il3, x_imul, x_inc2, x_iret, x_is2, x_is3, x_isub, x_ldc, nI_add]
        exact hi
theorem s_scanNumber (hR : RT T n g) {b l : Nat} (hb : b < n) (hl : l < 401) (h9 : g 168 9 = nI l) (H : ∀ g', tkW l g g' → tkR k (if scn (fun i => dgt (T i)) n b - b ≤ 4 then 2 else 1) (nmF T b (scn (fun i => dgt (T i)) n b - b)) (g' 170 l) (g' 171 l) → P (some (.int (nI (scn (fun i => dgt (T i)) n b)))) (E g' q)) : callC (ev (d + 2)) re_scanNumber [.ref 168, .int (nI b)] (E g q) P := by
  refine in_re_scanNumber rfl ?_
  obtain ⟨e, he⟩ : ∃ e, scn (fun i => dgt (T i)) n b = e := ⟨_, rfl⟩
  obtain ⟨i1, i2, i3⟩ := scn_i (p := fun i => dgt (T i)) (n := n) (x := b)
  have i2 := i2 (Nat.le_of_lt hb)
  have hn := hR.2.1
  rw [he] at H i1 i2 i3
  have hnm := (nmF_l (T := T) (b := b) (e - b) fun i hi => i3 _ (by omega) (by omega)).2
  rw [b_re_scanNumber_0]
  simp -implicitDefEqProofs (disch := first | assumption | omega) only [szS_0, szS_i, szS_r, szS_l, x_cons, x_goto, ob_some, kl_i, kl_r, kl_l, kl_n, push_n, push_s, pop_0, pop_i, pop_r, Int.reduceToNat, List.length_cons, List.length_nil, Nat.reduceAdd, Nat.reduceLeDiff, Nat.zero_add, true_and, nI_n0, nat_le, Nat.add_zero, i_1, rt_re_scanNumber, x_al0, x_call, x_getf, x_goto, x_iadd, x_iaload, x_iastore, x_icge, x_icgt, x_ifeq, x_il1, x_il2, x_il3, x_imul, x_inc2, x_iret, x_is2, x_is3, x_isub, x_ldc]
  have st := sn_lp (d := d) (g := g) (q := q) (P := P) (b := b) (e := e) hR i3 ?_ (n - b) b (by omega) (Nat.le_refl b) i1 he
  · rw [Nat.sub_self] at st
    exact st
  · have fin : ∀ c : Nat, tkR k (if e - b ≤ 4 then 2 else 1) (nmF T b (e - b)) (nI c) (nI (nmF T b (e - b))) → wp (ev (d + 1)) P re_scanNumber 72 [some (.ref 168), some (.int (nI b)), some (.int (nI e)), some (.int (nI (nmF T b (e - b))))] [.int (nI c), .int (nI l), .ref 170] (E g q) := by
      intro c hc
      rw [b_re_scanNumber_72]
      simp -implicitDefEqProofs (disch := first | assumption | omega) only [szS_0, szS_i, szS_r, szS_l, x_cons, x_goto, ob_some, kl_i, kl_r, kl_l, kl_n, push_n, push_s, pop_0, pop_i, pop_r, Int.reduceToNat, List.length_cons, List.length_nil, Nat.reduceAdd, Nat.reduceLeDiff, Nat.zero_add, true_and, nI_n0, nat_le, Nat.add_zero, i_1, rt_re_scanNumber, x_al0, x_call, x_getf, x_goto, x_iadd, x_iaload, x_iastore, x_icge, x_icgt, x_ifeq, x_il1, x_il2, x_il3, x_imul, x_inc2, x_iret, x_is2, x_is3, x_isub, x_ldc, fd_168_0, fd_168_1, sf_168_1, fd_168_2, sf_168_2, fd_168_3, sf_168_3, fd_168_4, sf_168_4, fd_168_5, sf_168_5, fd_168_6, fd_168_7, fd_168_8, fd_168_9, sf_168_9, fd_168_10, sf_168_10, upw_o, h9, ld_170, sd_170, ln_170, ld_171, sd_171, ln_171, pu_g]
      refine H _ ⟨fun a a1 a2 => by rw [upw_o a2, upw_o a1], fun j hj => ⟨by rw [upw_o (by decide), upw_s, pu_n hj], by rw [upw_s, pu_n hj]⟩⟩ ?_
      rw [upw_o (by decide), upw_s, pu_s, upw_s, pu_s]
      exact hc
    rw [b_re_scanNumber_52]
    simp -implicitDefEqProofs (disch := first | assumption | omega) only [szS_0, szS_i, szS_r, szS_l, x_cons, x_goto, ob_some, kl_i, kl_r, kl_l, kl_n, push_n, push_s, pop_0, pop_i, pop_r, Int.reduceToNat, List.length_cons, List.length_nil, Nat.reduceAdd, Nat.reduceLeDiff, Nat.zero_add, true_and, nI_n0, nat_le, Nat.add_zero, i_1, rt_re_scanNumber, x_al0, x_call, x_getf, x_goto, x_iadd, x_iaload, x_iastore, x_icge, x_icgt, x_ifeq, x_il1, x_il2, x_il3, x_imul, x_inc2, x_iret, x_is2, x_is3, x_isub, x_ldc, fd_168_0, fd_168_1, sf_168_1, fd_168_2, sf_168_2, fd_168_3, sf_168_3, fd_168_4, sf_168_4, fd_168_5, sf_168_5, fd_168_6, fd_168_7, fd_168_8, fd_168_9, sf_168_9, fd_168_10, sf_168_10, h9, nI_sub, i1, nI_ltE]
    by_cases h4 : 4 < e - b
    · rw [if_pos h4]
      try simp -implicitDefEqProofs (disch := first | assumption | omega) only [b_re_scanNumber_71, szS_0, szS_i, szS_r, szS_l, x_cons, x_goto, ob_some, kl_i, kl_r, kl_l, kl_n, push_n, push_s, pop_0, pop_i, pop_r, Int.reduceToNat, List.length_cons, List.length_nil, Nat.reduceAdd, Nat.reduceLeDiff, Nat.zero_add, true_and, nI_n0, nat_le, Nat.add_zero, i_1, rt_re_scanNumber, x_al0, x_call, x_getf, x_goto, x_iadd, x_iaload, x_iastore, x_icge, x_icgt, x_ifeq, x_il1, x_il2, x_il3, x_imul, x_inc2, x_iret, x_is2, x_is3, x_isub, x_ldc]
      refine fin 4 ?_
      rw [if_neg (by omega)]
      exact tkR_1 rfl
    · rw [if_neg h4]
      try simp -implicitDefEqProofs (disch := first | assumption | omega) only [szS_0, szS_i, szS_r, szS_l, x_cons, x_goto, ob_some, kl_i, kl_r, kl_l, kl_n, push_n, push_s, pop_0, pop_i, pop_r, Int.reduceToNat, List.length_cons, List.length_nil, Nat.reduceAdd, Nat.reduceLeDiff, Nat.zero_add, true_and, nI_n0, nat_le, Nat.add_zero, i_1, rt_re_scanNumber, x_al0, x_call, x_getf, x_goto, x_iadd, x_iaload, x_iastore, x_icge, x_icgt, x_ifeq, x_il1, x_il2, x_il3, x_imul, x_inc2, x_iret, x_is2, x_is3, x_isub, x_ldc]
      refine fin 2 ?_
      rw [if_pos (by omega)]
      exact tkR_2 rfl rfl (by omega)
theorem tkR_m {c m m' : Nat} {kd vl : Int32} (h : tkR k c m kd vl) (hc : c ≠ 2) : tkR k c m' kd vl := ⟨h.1, h.2.1, fun e => absurd e hc, h.2.2.2.1, h.2.2.2.2⟩
theorem s_scan (hk : k < 3) (hR : RT T n g) {x l : Nat} (hb : tB T n x < n) (hl : l < 401) (h9 : g 168 9 = nI l) (H : ∀ g', (∀ a, a ≠ 170 → a ≠ 171 → a ≠ 172 → g' a = g a) → (∀ j, j ≠ l → g' 170 j = g 170 j ∧ g' 171 j = g 171 j ∧ g' 172 j = g 172 j) → tkR k (tC T n k x) (tN T n x) (g' 170 l) (g' 171 l) → g' 172 l = nI (tB T n x) → P (some (.int (nI (tE T n x)))) (E g' q)) : callC (ev (d + 8)) re_scan [.ref 168, .int (nI (tB T n x)), .ref (100000 + WID k)] (E g q) P := by
  refine in_re_scan rfl ?_
  obtain ⟨b, hbe⟩ : ∃ b, tB T n x = b := ⟨_, rfl⟩
  have hn := hR.2.1
  have hT := hR.2.2 _ hb
  have hnb : ¬ n ≤ tB T n x := by omega
  have hT2 := hT.2
  obtain ⟨G, hG⟩ : ∃ G, G = upw g 172 (pu (g 172) l (nI (tB T n x))) := ⟨_, rfl⟩
  have RG : RT T n G := by rw [hG]; exact RT_f hR (upw_o (by decide)) (by rw [upw_o (by decide)])
  have G9 : G 168 9 = nI l := by rw [hG, upw_o (by decide)]; exact h9
  have fin : ∀ c m e : Nat, tC T n k x = c → tE T n x = e → (c = 2 → tN T n x = m) → ∀ g', tkW l G g' → tkR k c m (g' 170 l) (g' 171 l) → P (some (.int (nI e))) (E g' q) := by
    intro c m e hc he hm g' hw ht
    rw [← he]
    refine H g' (fun a a1 a2 a3 => by rw [hw.1 a a1 a2, hG, upw_o a3]) (fun j hj => ⟨by rw [(hw.2 j hj).1, hG, upw_o (by decide)], by rw [(hw.2 j hj).2, hG, upw_o (by decide)], by rw [hw.1 172 (by decide) (by decide), hG, upw_s, pu_n hj]⟩) ?_ (by rw [hw.1 172 (by decide) (by decide), hG, upw_s, pu_s])
    rw [hc]
    by_cases h2 : c = 2
    · rw [hm h2]
      exact ht
    · exact tkR_m ht h2
  rw [b_re_scan_0]
  simp -implicitDefEqProofs (disch := first | assumption | omega) only [szS_0, szS_i, szS_r, szS_l, x_cons, x_goto, ob_some, kl_i, kl_r, kl_l, kl_n, push_n, push_s, pop_0, pop_i, pop_r, Int.reduceToNat, List.length_cons, List.length_nil, Nat.reduceAdd, Nat.reduceLeDiff, Nat.zero_add, true_and, nI_n0, nat_le, Nat.add_zero, rt_re_scan, x_al0, x_al2, x_call, x_getf, x_goto, x_i2c, x_iadd, x_iaload, x_iastore, x_ifeq, x_iflt, x_il1, x_il3, x_iret, x_is3, x_ldc, x_str, fd_168_0, fd_168_1, sf_168_1, fd_168_2, sf_168_2, fd_168_3, sf_168_3, fd_168_4, sf_168_4, fd_168_5, sf_168_5, fd_168_6, fd_168_7, fd_168_8, fd_168_9, sf_168_9, fd_168_10, sf_168_10, ld_169, sd_169, ln_169, ld_172, sd_172, ln_172, hT.1, h9, pu_g]
  rw [← hG]
  rw [s_cletter hT.2]
  simp -implicitDefEqProofs (disch := first | assumption | omega) only [szS_0, szS_i, szS_r, szS_l, x_cons, x_goto, ob_some, kl_i, kl_r, kl_l, kl_n, push_n, push_s, pop_0, pop_i, pop_r, Int.reduceToNat, List.length_cons, List.length_nil, Nat.reduceAdd, Nat.reduceLeDiff, Nat.zero_add, true_and, nI_n0, nat_le, Nat.add_zero, rt_re_scan, x_al0, x_al2, x_call, x_getf, x_goto, x_i2c, x_iadd, x_iaload, x_iastore, x_ifeq, x_iflt, x_il1, x_il3, x_iret, x_is3, x_ldc, x_str, bI_0]
  cases hlt : ltr (T (tB T n x))
  · simp -implicitDefEqProofs (disch := first | assumption | omega) only [↓reduceIte, b_re_scan_31, szS_0, szS_i, szS_r, szS_l, x_cons, x_goto, ob_some, kl_i, kl_r, kl_l, kl_n, push_n, push_s, pop_0, pop_i, pop_r, Int.reduceToNat, List.length_cons, List.length_nil, Nat.reduceAdd, Nat.reduceLeDiff, Nat.zero_add, true_and, nI_n0, nat_le, Nat.add_zero, rt_re_scan, x_al0, x_al2, x_call, x_getf, x_goto, x_i2c, x_iadd, x_iaload, x_iastore, x_ifeq, x_iflt, x_il1, x_il3, x_iret, x_is3, x_ldc, x_str, s_cdigit hT.2, bI_0]
    cases hd : dgt (T (tB T n x))
    · have eE : tE T n x = tB T n x + 1 := by
        unfold tE
        rw [if_neg hnb, hlt, if_neg Bool.false_ne_true, hd, if_neg Bool.false_ne_true]
      have eC : tC T n k x = if sgS (T (tB T n x)) = true then 100 + T (tB T n x) else 1 := by
        unfold tC
        rw [if_neg hnb, hlt, if_neg Bool.false_ne_true, hd, if_neg Bool.false_ne_true]
      have fi2 : ∀ c kd : Nat, tC T n k x = c → tkR k c 0 (nI kd) (nI (T (tB T n x))) → c ≠ 2 → wp (ev (d + 7)) P re_scan 67 [some (.ref 168), some (.int (nI (tB T n x))), some (.ref (100000 + WID k)), some (.int (nI (T (tB T n x))))] [.int (nI kd), .int (nI l), .ref 170] (E G q) := by
        intro c kd hc ht h2
        rw [b_re_scan_67]
        simp -implicitDefEqProofs (disch := first | assumption | omega) only [szS_0, szS_i, szS_r, szS_l, x_cons, x_goto, ob_some, kl_i, kl_r, kl_l, kl_n, push_n, push_s, pop_0, pop_i, pop_r, Int.reduceToNat, List.length_cons, List.length_nil, Nat.reduceAdd, Nat.reduceLeDiff, Nat.zero_add, true_and, nI_n0, nat_le, Nat.add_zero, rt_re_scan, x_al0, x_al2, x_call, x_getf, x_goto, x_i2c, x_iadd, x_iaload, x_iastore, x_ifeq, x_iflt, x_il1, x_il3, x_iret, x_is3, x_ldc, x_str, fd_168_0, fd_168_1, sf_168_1, fd_168_2, sf_168_2, fd_168_3, sf_168_3, fd_168_4, sf_168_4, fd_168_5, sf_168_5, fd_168_6, fd_168_7, fd_168_8, fd_168_9, sf_168_9, fd_168_10, sf_168_10, upw_o, G9, ld_170, sd_170, ln_170, ld_171, sd_171, ln_171, pu_g, nI_add]
        refine fin c 0 (tB T n x + 1) hc eE (fun h => absurd h h2) _ ⟨fun a a1 a2 => by rw [upw_o a2, upw_o a1], fun j hj => ⟨by rw [upw_o (by decide), upw_s, pu_n hj], by rw [upw_s, pu_n hj]⟩⟩ ?_
        rw [upw_o (by decide), upw_s, pu_s, upw_s, pu_s]
        exact ht
      have hnc := nc_ok hT.2
      simp -implicitDefEqProofs (disch := first | assumption | omega) only [↓reduceIte, b_re_scan_44, szS_0, szS_i, szS_r, szS_l, x_cons, x_goto, ob_some, kl_i, kl_r, kl_l, kl_n, push_n, push_s, pop_0, pop_i, pop_r, Int.reduceToNat, List.length_cons, List.length_nil, Nat.reduceAdd, Nat.reduceLeDiff, Nat.zero_add, true_and, nI_n0, nat_le, Nat.add_zero, rt_re_scan, x_al0, x_al2, x_call, x_getf, x_goto, x_i2c, x_iadd, x_iaload, x_iastore, x_ifeq, x_iflt, x_il1, x_il3, x_iret, x_is3, x_ldc, x_str, fd_168_0, fd_168_1, sf_168_1, fd_168_2, sf_168_2, fd_168_3, sf_168_3, fd_168_4, sf_168_4, fd_168_5, sf_168_5, fd_168_6, fd_168_7, fd_168_8, fd_168_9, sf_168_9, fd_168_10, sf_168_10, G9, hnc.2.1]
      rw [s_signs (d := d + 2) hT.2]
      simp -implicitDefEqProofs (disch := first | assumption | omega) only [szS_0, szS_i, szS_r, szS_l, x_cons, x_goto, ob_some, kl_i, kl_r, kl_l, kl_n, push_n, push_s, pop_0, pop_i, pop_r, Int.reduceToNat, List.length_cons, List.length_nil, Nat.reduceAdd, Nat.reduceLeDiff, Nat.zero_add, true_and, nI_n0, nat_le, Nat.add_zero, rt_re_scan, x_al0, x_al2, x_call, x_getf, x_goto, x_i2c, x_iadd, x_iaload, x_iastore, x_ifeq, x_iflt, x_il1, x_il3, x_iret, x_is3, x_ldc, x_str, sg_lt hT.2]
      by_cases hs : sgS (T (tB T n x)) = false
      · rw [hs, if_neg Bool.false_ne_true] at eC
        rw [if_pos hs]
        try simp -implicitDefEqProofs (disch := first | assumption | omega) only [b_re_scan_66, szS_0, szS_i, szS_r, szS_l, x_cons, x_goto, ob_some, kl_i, kl_r, kl_l, kl_n, push_n, push_s, pop_0, pop_i, pop_r, Int.reduceToNat, List.length_cons, List.length_nil, Nat.reduceAdd, Nat.reduceLeDiff, Nat.zero_add, true_and, nI_n0, nat_le, Nat.add_zero, rt_re_scan, x_al0, x_al2, x_call, x_getf, x_goto, x_i2c, x_iadd, x_iaload, x_iastore, x_ifeq, x_iflt, x_il1, x_il3, x_iret, x_is3, x_ldc, x_str]
        exact fi2 1 4 eC (tkR_1 rfl) (by decide)
      · rw [if_pos (by cases h : sgS (T (tB T n x)); exact absurd h hs; rfl)] at eC
        rw [if_neg hs]
        try simp -implicitDefEqProofs (disch := first | assumption | omega) only [szS_0, szS_i, szS_r, szS_l, x_cons, x_goto, ob_some, kl_i, kl_r, kl_l, kl_n, push_n, push_s, pop_0, pop_i, pop_r, Int.reduceToNat, List.length_cons, List.length_nil, Nat.reduceAdd, Nat.reduceLeDiff, Nat.zero_add, true_and, nI_n0, nat_le, Nat.add_zero, rt_re_scan, x_al0, x_al2, x_call, x_getf, x_goto, x_i2c, x_iadd, x_iaload, x_iastore, x_ifeq, x_iflt, x_il1, x_il3, x_iret, x_is3, x_ldc, x_str]
        exact fi2 _ 3 eC (tkR_s hT2 rfl rfl) (by omega)
    · have eE : tE T n x = scn (fun i => dgt (T i)) n (tB T n x) := by
        unfold tE
        rw [if_neg hnb, hlt, if_neg Bool.false_ne_true, hd, if_pos rfl]
      have eC : tC T n k x = if scn (fun i => dgt (T i)) n (tB T n x) - tB T n x ≤ 4 then 2 else 1 := by
        unfold tC
        rw [if_neg hnb, hlt, if_neg Bool.false_ne_true, hd, if_pos rfl]
      simp -implicitDefEqProofs (disch := first | assumption | omega) only [Bool.true_eq_false, ↓reduceIte, szS_0, szS_i, szS_r, szS_l, x_cons, x_goto, ob_some, kl_i, kl_r, kl_l, kl_n, push_n, push_s, pop_0, pop_i, pop_r, Int.reduceToNat, List.length_cons, List.length_nil, Nat.reduceAdd, Nat.reduceLeDiff, Nat.zero_add, true_and, nI_n0, nat_le, Nat.add_zero, rt_re_scan, x_al0, x_al2, x_call, x_getf, x_goto, x_i2c, x_iadd, x_iaload, x_iastore, x_ifeq, x_iflt, x_il1, x_il3, x_iret, x_is3, x_ldc, x_str]
      refine s_scanNumber (d := d + 5) (k := k) RG hb hl G9 fun g3 f3 t3 => ?_
      simp -implicitDefEqProofs (disch := first | assumption | omega) only [szS_0, szS_i, szS_r, szS_l, x_cons, x_goto, ob_some, kl_i, kl_r, kl_l, kl_n, push_n, push_s, pop_0, pop_i, pop_r, Int.reduceToNat, List.length_cons, List.length_nil, Nat.reduceAdd, Nat.reduceLeDiff, Nat.zero_add, true_and, nI_n0, nat_le, Nat.add_zero, rt_re_scan, x_al0, x_al2, x_call, x_getf, x_goto, x_i2c, x_iadd, x_iaload, x_iastore, x_ifeq, x_iflt, x_il1, x_il3, x_iret, x_is3, x_ldc, x_str]
      exact fin _ _ _ eC eE (fun _ => rfl) g3 f3 t3
  · have eE : tE T n x = scn (fun i => ltr (T i)) n (tB T n x) := by
      unfold tE
      rw [if_neg hnb, hlt, if_pos rfl]
    have eC : tC T n k x = wcd T k (tB T n x) (scn (fun i => ltr (T i)) n (tB T n x)) := by
      unfold tC
      rw [if_neg hnb, hlt, if_pos rfl]
    have hc2 : wcd T k (tB T n x) (scn (fun i => ltr (T i)) n (tB T n x)) ≠ 2 := by
      rcases wcd_i (T := T) (b := tB T n x) (e := scn (fun i => ltr (T i)) n (tB T n x)) hk with e | ⟨m, hm, e, -⟩
      · rw [e]
        decide
      · have := (WT_ok hk hm).2.1
        omega
    simp -implicitDefEqProofs (disch := first | assumption | omega) only [Bool.true_eq_false, ↓reduceIte, szS_0, szS_i, szS_r, szS_l, x_cons, x_goto, ob_some, kl_i, kl_r, kl_l, kl_n, push_n, push_s, pop_0, pop_i, pop_r, Int.reduceToNat, List.length_cons, List.length_nil, Nat.reduceAdd, Nat.reduceLeDiff, Nat.zero_add, true_and, nI_n0, nat_le, Nat.add_zero, rt_re_scan, x_al0, x_al2, x_call, x_getf, x_goto, x_i2c, x_iadd, x_iaload, x_iastore, x_ifeq, x_iflt, x_il1, x_il3, x_iret, x_is3, x_ldc, x_str]
    refine s_scanWord (d := d) hk RG hb hl G9 fun g3 f3 t3 => ?_
    simp -implicitDefEqProofs (disch := first | assumption | omega) only [szS_0, szS_i, szS_r, szS_l, x_cons, x_goto, ob_some, kl_i, kl_r, kl_l, kl_n, push_n, push_s, pop_0, pop_i, pop_r, Int.reduceToNat, List.length_cons, List.length_nil, Nat.reduceAdd, Nat.reduceLeDiff, Nat.zero_add, true_and, nI_n0, nat_le, Nat.add_zero, rt_re_scan, x_al0, x_al2, x_call, x_getf, x_goto, x_i2c, x_iadd, x_iaload, x_iastore, x_ifeq, x_iflt, x_il1, x_il3, x_iret, x_is3, x_ldc, x_str]
    exact fin _ 0 _ eC eE (fun h => absurd h hc2) g3 f3 t3
/-- all tokens, as the class has them -/
def tkA (T : Nat → Nat) (n k L : Nat) (g : Nat → Nat → Int32) : Prop := (∀ j, j < L → kC T n k j ≠ 0) ∧ ∀ j, j < L → tkR k (kC T n k j) (kN T n j) (g 170 j) (g 171 j) ∧ g 172 j = nI (kB T n j)
def tkL (T : Nat → Nat) (n k L : Nat) (g : Nat → Nat → Int32) : Prop := (g 168 9 = nI L ∧ L ≤ 400 ∧ kC T n k L = 0) ∧ (∀ j, j < L → kC T n k j ≠ 0) ∧ ∀ j, j ≤ L → tkR k (kC T n k j) (kN T n j) (g 170 j) (g 171 j) ∧ g 172 j = nI (kB T n j)
/-- the class stands at token i -/
def tkC (T : Nat → Nat) (n k i : Nat) (g : Nat → Nat → Int32) : Prop := ∃ L, tkL T n k L g ∧ ∃ m, m = (if L < i then L else i) ∧ g 168 10 = nI m ∧ g 168 4 = g 170 m ∧ g 168 5 = g 171 m
theorem bg_lp (hk : k < 3) {g0 : Nat → Nat → Int32} (hR0 : RT T n g0) (H : ∀ g', (∀ a, a ≠ 168 → a ≠ 170 → a ≠ 171 → a ≠ 172 → g' a = g0 a) → (∀ j, j ≠ 4 → j ≠ 5 → j ≠ 9 → j ≠ 10 → g' 168 j = g0 168 j) → tkC T n k 0 g' → P none (E g' q)) : ∀ (j a l : Nat) (g : Nat → Nat → Int32), n ≤ a + j → a ≤ n → tB T n a = tB T n (pz T n l) → tkA T n k l g → g 168 9 = nI l → l ≤ 400 → (∀ b, b ≠ 168 → b ≠ 170 → b ≠ 171 → b ≠ 172 → g b = g0 b) → (∀ j, j ≠ 4 → j ≠ 5 → j ≠ 9 → j ≠ 10 → g 168 j = g0 168 j) →
    wp (ev (d + 8)) P re_begin 7 [some (.ref 168), some (.ref (100000 + WID k)), some (.int (nI a))] [] (E g q) := by
  have hn := hR0.2.1
  have fin : ∀ (a l : Nat) (g : Nat → Nat → Int32), a = n → tB T n a = tB T n (pz T n l) → tkA T n k l g → g 168 9 = nI l → l ≤ 400 → (∀ b, b ≠ 168 → b ≠ 170 → b ≠ 171 → b ≠ 172 → g b = g0 b) → (∀ j, j ≠ 4 → j ≠ 5 → j ≠ 9 → j ≠ 10 → g 168 j = g0 168 j) →
      wp (ev (d + 8)) P re_begin 7 [some (.ref 168), some (.ref (100000 + WID k)), some (.int (nI a))] [] (E g q) := by
    intro a l g ha hB hA h9 hl hg1 hg2
    subst ha
    have e1 : g 168 1 = nI a := by rw [hg2 1 (by decide) (by decide) (by decide) (by decide)]; exact hR0.1
    have eB : kB T a l = a := by
      show tB T a (pz T a l) = a
      rw [← hB]
      exact scn_e (Nat.le_refl a)
    have eC : kC T a k l = 0 := (kC_0 hk).mpr eB
    rw [b_re_begin_7]
    simp -implicitDefEqProofs (disch := first | assumption | omega) only [szS_0, szS_i, szS_r, szS_l, x_cons, x_goto, ob_some, kl_i, kl_r, kl_l, kl_n, push_n, push_s, pop_0, pop_i, pop_r, Int.reduceToNat, List.length_cons, List.length_nil, Nat.reduceAdd, Nat.reduceLeDiff, Nat.zero_add, true_and, nI_n0, nat_le, Nat.add_zero, i_1, rt_re_begin, x_al0, x_al1, x_call, x_dupi, x_dupr, x_getf, x_goto, x_iadd, x_iaload, x_iastore, x_iceq, x_icge, x_icne, x_il2, x_inc2, x_is2, x_ldc, x_putf, x_vret, fd_168_0, fd_168_1, sf_168_1, fd_168_2, sf_168_2, fd_168_3, sf_168_3, fd_168_4, sf_168_4, fd_168_5, sf_168_5, fd_168_6, fd_168_7, fd_168_8, fd_168_9, sf_168_9, fd_168_10, sf_168_10, e1, nI_ltE, Nat.lt_irrefl, ↓reduceIte, b_re_begin_63, upw_o, upw_s, h9, ld_170, sd_170, ln_170, ld_171, sd_171, ln_171, ld_172, sd_172, ln_172, pu_g, pu_w, pu_n, upw_w]
    refine H _ (fun b b1 b2 b3 b4 => by rw [upw_o b1, upw_o b4, upw_o b3, upw_o b2]; exact hg1 b b1 b2 b3 b4) (fun j j1 j2 j3 j4 => by rw [upw_s, pu_n j2, pu_n j1, pu_n j4]; exact hg2 j j1 j2 j3 j4) ⟨l, ⟨⟨by rw [upw_s, pu_n (by decide), pu_n (by decide), pu_n (by decide)]; exact h9, hl, eC⟩, hA.1, fun j hj => ?_⟩, 0, (if_neg (Nat.not_lt_zero l)).symm, ?_, ?_, ?_⟩
    · rw [upw_o (by decide), upw_o (by decide), upw_o (by decide), upw_s, upw_o (by decide), upw_o (by decide), upw_s, upw_o (by decide), upw_s]
      by_cases e : j = l
      · rw [e, eC, eB, pu_s, pu_s, pu_s]
        exact ⟨tkR_0 rfl, rfl⟩
      · rw [pu_n e, pu_n e, pu_n e]
        exact hA.2 j (by omega)
    · rw [upw_s, pu_n (by decide), pu_n (by decide), pu_s]
    · rw [upw_s, pu_n (by decide), pu_s, upw_o (by decide), upw_o (by decide), upw_o (by decide), upw_s]
    · rw [upw_s, pu_s, upw_o (by decide), upw_o (by decide), upw_s]
  intro j
  induction j with
  | zero =>
    intro a l g ha han hB hA h9 hl hg1 hg2
    exact fin a l g (by omega) hB hA h9 hl hg1 hg2
  | succ j ih =>
    intro a l g ha han hB hA h9 hl hg1 hg2
    have hR : RT T n g := RT_f hR0 (hg1 169 (by decide) (by decide) (by decide) (by decide)) (hg2 1 (by decide) (by decide) (by decide) (by decide))
    by_cases hend : a = n
    · exact fin a l g hend hB hA h9 hl hg1 hg2
    · have ha' : a < n := by omega
      have hT := hR.2.2 a ha'
      have hT2 := hT.2
      have hw := scn_s (p := fun i => wsp (T i)) ha'
      have skip : wsp (T a) = true → wp (ev (d + 8)) P re_begin 37 [some (.ref 168), some (.ref (100000 + WID k)), some (.int (nI a))] [] (E g q) := by
        intro h
        rw [b_re_begin_37]
        simp -implicitDefEqProofs (disch := first | assumption | omega) only [szS_0, szS_i, szS_r, szS_l, x_cons, x_goto, ob_some, kl_i, kl_r, kl_l, kl_n, push_n, push_s, pop_0, pop_i, pop_r, Int.reduceToNat, List.length_cons, List.length_nil, Nat.reduceAdd, Nat.reduceLeDiff, Nat.zero_add, true_and, nI_n0, nat_le, Nat.add_zero, i_1, rt_re_begin, x_al0, x_al1, x_call, x_dupi, x_dupr, x_getf, x_goto, x_iadd, x_iaload, x_iastore, x_iceq, x_icge, x_icne, x_il2, x_inc2, x_is2, x_ldc, x_putf, x_vret, nI_add]
        exact ih (a + 1) l g (by omega) (by omega) (by rw [← hB]; exact (hw h).symm) hA h9 hl hg1 hg2
      have r1 := hR.1
      rw [b_re_begin_7]
      simp -implicitDefEqProofs (disch := first | assumption | omega) only [szS_0, szS_i, szS_r, szS_l, x_cons, x_goto, ob_some, kl_i, kl_r, kl_l, kl_n, push_n, push_s, pop_0, pop_i, pop_r, Int.reduceToNat, List.length_cons, List.length_nil, Nat.reduceAdd, Nat.reduceLeDiff, Nat.zero_add, true_and, nI_n0, nat_le, Nat.add_zero, i_1, rt_re_begin, x_al0, x_al1, x_call, x_dupi, x_dupr, x_getf, x_goto, x_iadd, x_iaload, x_iastore, x_iceq, x_icge, x_icne, x_il2, x_inc2, x_is2, x_ldc, x_putf, x_vret, fd_168_0, fd_168_1, sf_168_1, fd_168_2, sf_168_2, fd_168_3, sf_168_3, fd_168_4, sf_168_4, fd_168_5, sf_168_5, fd_168_6, fd_168_7, fd_168_8, fd_168_9, sf_168_9, fd_168_10, sf_168_10, r1, nI_ltE, ha', ↓reduceIte, ld_169, sd_169, ln_169, hT.1, nI_eqE]
      by_cases h32 : T a = 32
      · rw [if_pos h32]
        exact skip (decide_eq_true (Or.inl h32))
      · rw [if_neg h32]
        try simp -implicitDefEqProofs (disch := first | assumption | omega) only [szS_0, szS_i, szS_r, szS_l, x_cons, x_goto, ob_some, kl_i, kl_r, kl_l, kl_n, push_n, push_s, pop_0, pop_i, pop_r, Int.reduceToNat, List.length_cons, List.length_nil, Nat.reduceAdd, Nat.reduceLeDiff, Nat.zero_add, true_and, nI_n0, nat_le, Nat.add_zero, i_1, rt_re_begin, x_al0, x_al1, x_call, x_dupi, x_dupr, x_getf, x_goto, x_iadd, x_iaload, x_iastore, x_iceq, x_icge, x_icne, x_il2, x_inc2, x_is2, x_ldc, x_putf, x_vret, fd_168_0, fd_168_1, sf_168_1, fd_168_2, sf_168_2, fd_168_3, sf_168_3, fd_168_4, sf_168_4, fd_168_5, sf_168_5, fd_168_6, fd_168_7, fd_168_8, fd_168_9, sf_168_9, fd_168_10, sf_168_10, ld_169, sd_169, ln_169, hT.1, nI_eqE]
        by_cases h10 : T a = 10
        · rw [if_pos h10]
          exact skip (decide_eq_true (Or.inr h10))
        · have hnw : wsp (T a) = false := decide_eq_false fun h => h.elim h32 h10
          have ea : tB T n a = a := scn_n ha' hnw
          have eb : tB T n (pz T n l) = a := by rw [← hB]; exact ea
          have hbn : tB T n (pz T n l) < n := by omega
          have hc : kC T n k l ≠ 0 := fun h => by
            have := (tC_0 hk).mp h
            omega
          have hl400 := kC_l hk hc
          rw [if_neg h10, b_re_begin_43]
          simp -implicitDefEqProofs (disch := first | assumption | omega) only [szS_0, szS_i, szS_r, szS_l, x_cons, x_goto, ob_some, kl_i, kl_r, kl_l, kl_n, push_n, push_s, pop_0, pop_i, pop_r, Int.reduceToNat, List.length_cons, List.length_nil, Nat.reduceAdd, Nat.reduceLeDiff, Nat.zero_add, true_and, nI_n0, nat_le, Nat.add_zero, i_1, rt_re_begin, x_al0, x_al1, x_call, x_dupi, x_dupr, x_getf, x_goto, x_iadd, x_iaload, x_iastore, x_iceq, x_icge, x_icne, x_il2, x_inc2, x_is2, x_ldc, x_putf, x_vret]
          rw [← eb]
          refine s_scan (d := d) hk hR hbn (by omega) h9 fun g3 f3 w3 t3 b3 => ?_
          simp -implicitDefEqProofs (disch := first | assumption | omega) only [szS_0, szS_i, szS_r, szS_l, x_cons, x_goto, ob_some, kl_i, kl_r, kl_l, kl_n, push_n, push_s, pop_0, pop_i, pop_r, Int.reduceToNat, List.length_cons, List.length_nil, Nat.reduceAdd, Nat.reduceLeDiff, Nat.zero_add, true_and, nI_n0, nat_le, Nat.add_zero, i_1, rt_re_begin, x_al0, x_al1, x_call, x_dupi, x_dupr, x_getf, x_goto, x_iadd, x_iaload, x_iastore, x_iceq, x_icge, x_icne, x_il2, x_inc2, x_is2, x_ldc, x_putf, x_vret, fd_168_0, fd_168_1, sf_168_1, fd_168_2, sf_168_2, fd_168_3, sf_168_3, fd_168_4, sf_168_4, fd_168_5, sf_168_5, fd_168_6, fd_168_7, fd_168_8, fd_168_9, sf_168_9, fd_168_10, sf_168_10]
          have e9 : g3 168 9 = nI l := by rw [f3 168 (by decide) (by decide) (by decide)]; exact h9
          simp -implicitDefEqProofs (disch := first | assumption | omega) only [szS_0, szS_i, szS_r, szS_l, x_cons, x_goto, ob_some, kl_i, kl_r, kl_l, kl_n, push_n, push_s, pop_0, pop_i, pop_r, Int.reduceToNat, List.length_cons, List.length_nil, Nat.reduceAdd, Nat.reduceLeDiff, Nat.zero_add, true_and, nI_n0, nat_le, Nat.add_zero, i_1, rt_re_begin, x_al0, x_al1, x_call, x_dupi, x_dupr, x_getf, x_goto, x_iadd, x_iaload, x_iastore, x_iceq, x_icge, x_icne, x_il2, x_inc2, x_is2, x_ldc, x_putf, x_vret, fd_168_0, fd_168_1, sf_168_1, fd_168_2, sf_168_2, fd_168_3, sf_168_3, fd_168_4, sf_168_4, fd_168_5, sf_168_5, fd_168_6, fd_168_7, fd_168_8, fd_168_9, sf_168_9, fd_168_10, sf_168_10, e9, nI_add, pu_g]
          have hE := tE_i (T := T) (n := n) (pz_l (T := T) (n := n) l)
          have hE3 := hE.2.2 hbn
          refine ih (tE T n (pz T n l)) (l + 1) _ (by omega) hE.2.1 rfl ⟨fun j hj => ?_, fun j hj => ?_⟩ (by rw [upw_s, pu_s]) (by omega) (fun b b1 b2 b3 b4 => by rw [upw_o b1, f3 b b2 b3 b4]; exact hg1 b b1 b2 b3 b4) (fun j j1 j2 j3 j4 => by rw [upw_s, pu_n j3, f3 168 (by decide) (by decide) (by decide)]; exact hg2 j j1 j2 j3 j4)
          · by_cases e : j = l
            · rw [e]
              exact hc
            · exact hA.1 j (by omega)
          · rw [upw_o (by decide), upw_o (by decide), upw_o (by decide)]
            by_cases e : j = l
            · rw [e]
              exact ⟨t3, b3⟩
            · obtain ⟨x1, x2, x3⟩ := w3 j e
              rw [x1, x2, x3]
              exact hA.2 j (by omega)
/-- the class begins with the first token -/
theorem s_begin2 (hk : k < 3) (hR : RT T n g) (H : ∀ g', (∀ a, a ≠ 168 → a ≠ 170 → a ≠ 171 → a ≠ 172 → g' a = g a) → (∀ j, j ≠ 4 → j ≠ 5 → j ≠ 9 → j ≠ 10 → g' 168 j = g 168 j) → tkC T n k 0 g' → P none (E g' q)) : callC (ev (d + 9)) re_begin [.ref 168, .ref (100000 + WID k)] (E g q) P := by
  refine in_re_begin rfl ?_
  rw [b_re_begin_0]
  simp -implicitDefEqProofs (disch := first | assumption | omega) only [szS_0, szS_i, szS_r, szS_l, x_cons, x_goto, ob_some, kl_i, kl_r, kl_l, kl_n, push_n, push_s, pop_0, pop_i, pop_r, Int.reduceToNat, List.length_cons, List.length_nil, Nat.reduceAdd, Nat.reduceLeDiff, Nat.zero_add, true_and, nI_n0, nat_le, Nat.add_zero, i_1, rt_re_begin, x_al0, x_al1, x_call, x_dupi, x_dupr, x_getf, x_goto, x_iadd, x_iaload, x_iastore, x_iceq, x_icge, x_icne, x_il2, x_inc2, x_is2, x_ldc, x_putf, x_vret, fd_168_0, fd_168_1, sf_168_1, fd_168_2, sf_168_2, fd_168_3, sf_168_3, fd_168_4, sf_168_4, fd_168_5, sf_168_5, fd_168_6, fd_168_7, fd_168_8, fd_168_9, sf_168_9, fd_168_10, sf_168_10, pu_g]
  exact bg_lp hk hR (fun g' f1 f2 c => H g' (fun a a1 a2 a3 a4 => f1 a a1 a2 a3 a4) (fun j j1 j2 j3 j4 => f2 j j1 j2 j3 j4) c) n 0 0 _ (by omega) (Nat.zero_le _) rfl ⟨fun j hj => absurd hj (Nat.not_lt_zero j), fun j hj => absurd hj (Nat.not_lt_zero j)⟩ (by rw [upw_s, pu_s]) (Nat.zero_le _) (fun b b1 _ _ _ => upw_o b1) (fun j _ _ j3 _ => by rw [upw_s, pu_n j3])
end SCN
