/-! calls, held together: what asks alone -/
theorem Mc_fr {l : List Nat} {w : Nat → Int32} {pl : PL} {im : IM} {R : RD} {g g' : Nat → Nat → Int32} (h : Mc w pl im R g) (f : fr l g g') (hl : (l.all fun x => decide (x ≠ 196 ∧ x ≠ 197 ∧ x ≠ 198 ∧ x ≠ 199 ∧ x ≠ 204)) = true) : Mc w pl im R g' := by
  have e : ∀ b, b = 196 ∨ b = 197 ∨ b = 198 ∨ b = 199 ∨ b = 204 → g' b = g b := fun b hb => f b fun hm => by
    have := of_decide_eq_true (List.all_eq_true.mp hl b hm)
    omega
  exact Mc_f h (e _ (by omega)) (e _ (by omega)) (e _ (by omega)) (e _ (by omega)) fun k _ => by rw [e 196 (by omega)]
theorem Mc_FR {l fs : List Nat} {w : Nat → Int32} {pl : PL} {im : IM} {R : RD} {g g' : Nat → Nat → Int32} (h : Mc w pl im R g) (f : FR l fs g g') (e7 : g' 197 = g 197) (hl : (l.all fun x => decide (x ≠ 198 ∧ x ≠ 199 ∧ x ≠ 204)) = true) (hf : (fs.all fun x => decide (x ≠ 4 ∧ x ≠ 5 ∧ x ≠ 17 ∧ x ≠ 24 ∧ x ≠ 26)) = true) : Mc w pl im R g' := by
  have e : ∀ b, b = 198 ∨ b = 199 ∨ b = 204 → g' b = g b := fun b hb => f.1 b (by omega) fun hm => by
    have := of_decide_eq_true (List.all_eq_true.mp hl b hm)
    omega
  exact Mc_f h e7 (e _ (by omega)) (e _ (by omega)) (e _ (by omega)) fun k hk => f.2 k fun hm => by
    have := of_decide_eq_true (List.all_eq_true.mp hf k hm)
    omega
section KB
variable {d L B : Nat} {xs : Nat → Int32} {g : Nat → Nat → Int32} {q : Nat → Nat → Int64}
theorem k_fault (hW : World B g) (hE : Env L xs g) {k : Int32} : two (d + 1) L xs B vr_fault mo_fault [.ref 0, .int k] [.ref 196, .int k] g q := by
  refine k_pure hW hE fun w V M pl im R h => ⟨if k = nI 0 then R.2.1 else if k = nI 1 then R.2.2 else -1, fun P hP => s_vfault h.2.1.2.2.2 (hP g q fQ_r), fun g1 q1 P h1 hP => ?_⟩
  refine s_mfault ?_
  rw [h1.2.2.2.2.2.2.1, h1.2.2.2.2.2.2.2]
  exact hP g1 q1 fM_r h1.2.2
theorem k_node (hW : World B g) (hE : Env L xs g) {n k : Int32} : two (d + 3) L xs B vr_node mo_node [.ref 0, .int n, .int k] [.ref 196, .int n, .int k] g q := by
  refine k_pure hW hE fun w V M pl im R h => ⟨ndA w n k, fun P hP => s_vnode h.1.1.1 h.2.1.1.1 (hP g q fQ_r), fun g1 q1 P h1 hP => ?_⟩
  have e : g1 197 = w := h1.2.2.1.1
  refine s_mnode (by rw [e]; exact h.1.1.1) ?_
  rw [e]
  exact hP g1 q1 fM_r h1.2.2
theorem k_fork (hW : World B g) (hE : Env L xs g) {n k : Int32} : two (d + 8) L xs B vr_fork mo_fork [.ref 0, .int n, .int k] [.ref 196, .int n, .int k] g q := by
  refine k_pure hW hE fun w V M pl im R h => ⟨fkA V w n k, fun P hP => s_vfork h.1.1.1 h.2.1.1.1 h.2.1.1.2.2 fun g' f => hP g' q f, fun g1 q1 P h1 hP => ?_⟩
  have e : g1 197 = w := h1.2.2.1.1
  refine s_mfork (by rw [e]; exact h.1.1.1) (by rw [e]; exact h.1.1.2.1) fun g2 f2 => ?_
  rw [e]
  exact hP g2 q1 (fr_M f2 rfl) (Mc_fr h1.2.2 f2 rfl)
theorem k_of (hW : World B g) (hE : Env L xs g) {t k : Int32} : two (d + 6) L xs B vr_of mo_of [.ref 0, .int t, .int k] [.ref 196, .int t, .int k] g q := by
  refine k_pure hW hE fun w V M pl im R h => ⟨ofA M w t k, fun P hP => s_vof h.1.1.1 h.2.1.1.1 h.2.1.1.2.2 fun g' f => hP g' q f, fun g1 q1 P h1 hP => ?_⟩
  have e : g1 197 = w := h1.2.2.1.1
  refine s_mof (by rw [e]; exact h.1.1.1) (by rw [e]; exact h.1.1.2.2.1) fun g2 f2 => ?_
  rw [e]
  exact hP g2 q1 (fr_M f2 rfl) (Mc_fr h1.2.2 f2 rfl)
theorem k_votes (hW : World B g) (hE : Env L xs g) {t f a : Int32} : two (d + 7) L xs B vr_votes mo_votes [.ref 0, .int t, .int f, .int a] [.ref 196, .int t, .int f, .int a] g q := by
  refine k_pure hW hE fun w V M pl im R h => ⟨vtA V w t f a, fun P hP => s_vvotes h.1.1.1 h.2.1.1.1 h.2.1.1.2.2 fun g' f => hP g' q f, fun g1 q1 P h1 hP => ?_⟩
  have e : g1 197 = w := h1.2.2.1.1
  refine s_mvotes (by rw [e]; exact h.1.1.1) (by rw [e]; exact h.1.1.2.1) fun g2 f2 => ?_
  rw [e]
  exact hP g2 q1 (fr_M f2 rfl) (Mc_fr h1.2.2 f2 rfl)
theorem k_came (hW : World B g) (hE : Env L xs g) {i j : Int32} : two (d + 3) L xs B vr_came mo_came [.ref 0, .int i, .int j] [.ref 196, .int i, .int j] g q := by
  refine k_pure hW hE fun w V M pl im R h => ⟨caA w i j, fun P hP => s_vcame h.1.1.1 h.2.1.1.1 (hP g q fQ_r), fun g1 q1 P h1 hP => ?_⟩
  have e : g1 197 = w := h1.2.2.1.1
  refine s_mcame (by rw [e]; exact h.1.1.1) ?_
  rw [e]
  exact hP g1 q1 fM_r h1.2.2
theorem k_book (hW : World B g) (hE : Env L xs g) {i k : Int32} : two (d + 2) L xs B vr_book mo_book [.ref 0, .int i, .int k] [.ref 196, .int i, .int k] g q := by
  refine k_pure hW hE fun w V M pl im R h => ⟨bkA w i k, fun P hP => s_vbook h.1.1.1 h.2.1.1.2.1 (hP g q fQ_r), fun g1 q1 P h1 hP => ?_⟩
  have e : g1 197 = w := h1.2.2.1.1
  refine s_mbook (by rw [e]; exact h.1.1.1) ?_
  rw [e]
  exact hP g1 q1 fM_r h1.2.2
theorem k_twice (hW : World B g) (hE : Env L xs g) {f : Int32} : two (d + 6) L xs B vr_twice mo_twice [.ref 0, .int f] [.ref 196, .int f] g q := by
  refine k_pure hW hE fun w V M pl im R h => ⟨twA w f, fun P hP => s_vtwice h.1.1.1 h.2.1.1.1 (hP g q fQ_r), fun g1 q1 P h1 hP => ?_⟩
  have e : g1 197 = w := h1.2.2.1.1
  refine s_mtwice (by rw [e]; exact h.1.1.1) ?_
  rw [e]
  exact hP g1 q1 fM_r h1.2.2
theorem k_rows (hW : World B g) (hE : Env L xs g) {a b c e : Int32} : two (d + 2) L xs B vr_rows mo_rows [.ref 0, .int a, .int b, .int c, .int e] [.ref 196, .int a, .int b, .int c, .int e] g q := by
  refine k_pure hW hE fun w V M pl im R h => ⟨rwA a b c e, fun P hP => s_vrows (hP g q fQ_r), fun g1 q1 P h1 hP => ?_⟩
  exact s_mrows fun g2 f2 => hP g2 q1 (fr_M f2 rfl) (Mc_fr h1.2.2 f2 rfl)
theorem k_look (hW : World B g) (hE : Env L xs g) {k : Int32} : two (d + 5) L xs B vr_look mo_look [.ref 0, .int k] [.ref 196, .int k] g q := by
  refine k_pure hW hE fun w V M pl im R h => ⟨lkA w (nI pl.length) k, fun P hP => s_vlook h.2.1 h.1.1.1 h.1.1.2.1 h.1.1.2.2.1 (hP g q fQ_r), fun g1 q1 P h1 hP => ?_⟩
  have e : g1 197 = w := h1.2.2.1.1
  refine s_mlook (by rw [e]; exact h.1.1.1) ?_
  rw [e, h1.2.2.1.2.1]
  exact hP g1 q1 fM_r h1.2.2
theorem k_later (hW : World B g) (hE : Env L xs g) {n t k : Int32} : two (d + 11) L xs B vr_later mo_later [.ref 0, .int n, .int t, .int k] [.ref 196, .int n, .int t, .int k] g q := by
  refine k_pure hW hE fun w V M pl im R h => ⟨latA V M w n t k, fun P hP => s_vlater h.2.1 h.1.1.1 h.1.1.2.1 h.1.1.2.2.1 fun g' f => hP g' q f, fun g1 q1 P h1 hP => ?_⟩
  have e : g1 197 = w := h1.2.2.1.1
  refine s_later (by rw [e]; exact h.1.1.1) (by rw [e]; exact h.1.1.2.1) (by rw [e]; exact h.1.1.2.2.1) fun g2 f2 e2 => ?_
  rw [e]
  exact hP g2 q1 (FR_M f2 rfl) (Mc_FR h1.2.2 f2 e2 rfl rfl)
theorem k_ends (hW : World B g) (hE : Env L xs g) {k : Int32} : two (d + 11) L xs B vr_ends mo_ends [.ref 0, .int k] [.ref 196, .int k] g q := by
  refine k_pure hW hE fun w V M pl im R h => ⟨endA V M w k, fun P hP => s_vends h.2.1 h.1.1.1 h.1.1.2.1 h.1.1.2.2.1 hP, fun g1 q1 P h1 hP => ?_⟩
  have e : g1 197 = w := h1.2.2.1.1
  refine s_ends (by rw [e]; exact h.1.1.1) (by rw [e]; exact h.1.1.2.1) (by rw [e]; exact h.1.1.2.2.1) fun g2 f2 e2 => ?_
  rw [e]
  exact hP g2 q1 (FR_M f2 rfl) (Mc_FR h1.2.2 f2 e2 rfl rfl)
theorem k_thirst (hW : World B g) (hE : Env L xs g) {t : Int32} : two (d + 11) L xs B vr_thirst mo_thirst [.ref 0, .int t] [.ref 196, .int t] g q := by
  refine k_pure hW hE fun w V M pl im R h => ⟨thrA V M w t, fun P hP => s_vthirst h.2.1 h.1.1.1 h.1.1.2.1 h.1.1.2.2.1 fun g' f => hP g' q f, fun g1 q1 P h1 hP => ?_⟩
  have e : g1 197 = w := h1.2.2.1.1
  refine s_thirst (by rw [e]; exact h.1.1.1) (by rw [e]; exact h.1.1.2.1) (by rw [e]; exact h.1.1.2.2.1) fun g2 f2 e2 => ?_
  rw [e]
  exact hP g2 q1 (FR_M f2 rfl) (Mc_FR h1.2.2 f2 e2 rfl rfl)
end KB
