/-! the least that must be bought: the search, told once -/
/-- a candidate: what it costs, what is bought at each fork -/
abbrev CND : Type := Option (Nat × (Nat → Nat))
/-- the cheaper one; of two alike the first -/
def opl : CND → CND → CND
  | none, y => y
  | some p, none => some p
  | some p, some q => if q.1 < p.1 then some q else some p
theorem opl_n (x : CND) : opl x none = x := by
  cases x <;> rfl
theorem opl_a (x y z : CND) : opl (opl x y) z = opl x (opl y z) := by
  cases x with
  | none => rfl
  | some p =>
    cases y with
    | none => rfl
    | some q =>
      cases z with
      | none => rw [opl_n, opl_n]
      | some r =>
        show opl (if q.1 < p.1 then some q else some p) (some r) = opl (some p) (if r.1 < q.1 then some r else some q)
        by_cases h1 : q.1 < p.1
        · rw [if_pos h1]
          by_cases h2 : r.1 < q.1
          · rw [if_pos h2]
            show (if r.1 < q.1 then some r else some q) = if r.1 < p.1 then some r else some p
            rw [if_pos h2, if_pos (by omega)]
          · rw [if_neg h2]
            show (if r.1 < q.1 then some r else some q) = if q.1 < p.1 then some q else some p
            rw [if_neg h2, if_pos h1]
        · rw [if_neg h1]
          by_cases h2 : r.1 < q.1
          · rw [if_pos h2]
          · rw [if_neg h2]
            show (if r.1 < p.1 then some r else some p) = if q.1 < p.1 then some q else some p
            rw [if_neg h1, if_neg (by omega)]
/-- the best of n -/
def foB (f : Nat → CND) : Nat → CND
  | 0 => none
  | a + 1 => opl (foB f a) (f a)
theorem foB_0 {f : Nat → CND} : ∀ n, (∀ a, a < n → f a = none) → foB f n = none
  | 0, _ => rfl
  | n + 1, h => by
    unfold foB
    rw [foB_0 n fun a ha => h a (by omega), h n (by omega)]
    rfl
/-- the first of the cheapest -/
def fmn (f : Nat → CND) (n a : Nat) (p : Nat × (Nat → Nat)) : Prop := a < n ∧ f a = some p ∧ ∀ b q, b < n → f b = some q → p.1 ≤ q.1 ∧ (b < a → p.1 < q.1)
theorem foB_m {f : Nat → CND} : ∀ n, (foB f n = none ∧ ∀ a, a < n → f a = none) ∨ ∃ a p, foB f n = some p ∧ fmn f n a p
  | 0 => Or.inl ⟨rfl, fun a ha => absurd ha (Nat.not_lt_zero a)⟩
  | n + 1 => by
    have e : foB f (n + 1) = opl (foB f n) (f n) := rfl
    rcases foB_m (f := f) n with ⟨h1, h2⟩ | ⟨a, p, h1, h2, h3, h4⟩
    · rw [h1] at e
      have e : foB f (n + 1) = f n := e
      cases hf : f n with
      | none =>
        refine Or.inl ⟨by rw [e, hf], fun b hb => ?_⟩
        by_cases eb : b = n
        · rw [eb, hf]
        · exact h2 b (by omega)
      | some q =>
        refine Or.inr ⟨n, q, by rw [e, hf], by omega, hf, fun b r hb hr => ?_⟩
        by_cases eb : b = n
        · rw [eb, hf] at hr
          cases hr
          exact ⟨Nat.le_refl _, fun h => by omega⟩
        · rw [h2 b (by omega)] at hr
          cases hr
    · rw [h1] at e
      cases hf : f n with
      | none =>
        rw [hf] at e
        have e : foB f (n + 1) = some p := e
        refine Or.inr ⟨a, p, e, by omega, h3, fun b r hb hr => ?_⟩
        by_cases eb : b = n
        · rw [eb, hf] at hr
          cases hr
        · exact h4 b r (by omega) hr
      | some q =>
        rw [hf] at e
        have e : foB f (n + 1) = if q.1 < p.1 then some q else some p := e
        by_cases hlt : q.1 < p.1
        · rw [if_pos hlt] at e
          refine Or.inr ⟨n, q, e, by omega, hf, fun b r hb hr => ?_⟩
          by_cases eb : b = n
          · rw [eb, hf] at hr
            cases hr
            exact ⟨Nat.le_refl _, fun h => by omega⟩
          · have := (h4 b r (by omega) hr).1
            exact ⟨by omega, fun _ => by omega⟩
        · rw [if_neg hlt] at e
          refine Or.inr ⟨a, p, e, by omega, h3, fun b r hb hr => ?_⟩
          by_cases eb : b = n
          · rw [eb, hf] at hr
            cases hr
            exact ⟨by omega, fun h => by omega⟩
          · exact h4 b r (by omega) hr
theorem fmn_u {f : Nat → CND} {n a b : Nat} {p q : Nat × (Nat → Nat)} (h : fmn f n a p) (h' : fmn f n b q) : p = q := by
  obtain ⟨a1, a2, a3⟩ := h
  obtain ⟨b1, b2, b3⟩ := h'
  have h1 := a3 b q b1 b2
  have h2 := b3 a p a1 a2
  by_cases e : a = b
  · rw [e, b2] at a2
    cases a2
    rfl
  · rcases Nat.lt_or_gt_of_ne e with h | h
    · have := h2.2 h
      omega
    · have := h1.2 h
      omega
theorem foB_e {f : Nat → CND} {n a : Nat} {p : Nat × (Nat → Nat)} (h : fmn f n a p) : foB f n = some p := by
  rcases foB_m (f := f) n with ⟨h1, h2⟩ | ⟨b, q, h1, h2⟩
  · have := h2 a h.1
    rw [h.2.1] at this
    cases this
  · rw [h1, fmn_u h h2]
/-- those that another one beats may be left out -/
theorem foB_d {f : Nat → CND} {c : Nat → Bool} {n : Nat} (h : ∀ a p, a < n → c a = false → f a = some p → ∃ b q, b < n ∧ f b = some q ∧ (q.1 < p.1 ∨ (q.1 = p.1 ∧ b < a))) : foB (fun a => if c a = true then f a else none) n = foB f n := by
  rcases foB_m (f := f) n with ⟨h1, h2⟩ | ⟨a, p, h1, h2, h3, h4⟩
  · rw [h1]
    refine foB_0 n fun a ha => ?_
    show (if c a = true then f a else none) = none
    rw [h2 a ha]
    split <;> rfl
  · rw [h1]
    refine foB_e (a := a) ⟨h2, ?_, fun b q hb hq => ?_⟩
    · show (if c a = true then f a else none) = some p
      cases hc : c a
      · obtain ⟨b, q, hb, hq, hd⟩ := h a p h2 hc h3
        have := h4 b q hb hq
        rcases hd with hd | hd
        · omega
        · have := this.2 hd.2
          omega
      · rw [if_pos rfl]
        exact h3
    · have hq : (if c b = true then f b else none) = some q := hq
      split at hq
      · exact h4 b q hb hq
      · cases hq
def up1 (f : Nat → Nat) (n v : Nat) : Nat → Nat := fun i => if i = n then v else f i
theorem up1_s {f : Nat → Nat} {n v : Nat} : up1 f n v n = v := if_pos rfl
theorem up1_n {f : Nat → Nat} {n v i : Nat} (h : i ≠ n) : up1 f n v i = f i := if_neg h
/-- whether a town is wet when so much is open -/
def wetQ (w : Nat → Int32) (t : Nat) (op : Nat → Nat) : Bool := wetP w (cmA w op (vN w 6) t) t
/-- the search from node n on: s is paid, op open, bo bought -/
def BRs (w : Nat → Int32) (co : Nat → Nat → Nat) (t : Nat) : Nat → Nat → Nat → (Nat → Nat) → (Nat → Nat) → CND
  | 0, _, _, _, _ => none
  | k + 1, n, s, op, bo =>
    if n = t then (if wetQ w t op = true then some (s, bo) else none)
    else if t < n ∨ fd w n 0 = 2 then none
    else if fd w n 0 = 1 then BRs w co t k (tg w n 0) s op bo
    else foB (fun a => BRs w co t k (tg w n a) (s + co n a) (up1 op n (2 ^ a)) (up1 bo n (co n a))) (am w n)
theorem BRs_ge {w : Nat → Int32} {co : Nat → Nat → Nat} {t : Nat} : ∀ (k n s : Nat) (op bo : Nat → Nat) (p : Nat × (Nat → Nat)), BRs w co t k n s op bo = some p → s ≤ p.1
  | 0, _, _, _, _, _, h => by cases h
  | k + 1, n, s, op, bo, p, h => by
    unfold BRs at h
    split at h
    · split at h
      · cases h
        exact Nat.le_refl _
      · cases h
    · split at h
      · cases h
      · split at h
        · exact BRs_ge k _ s op bo p h
        · rcases foB_m (f := fun a => BRs w co t k (tg w n a) (s + co n a) (up1 op n (2 ^ a)) (up1 bo n (co n a))) (am w n) with ⟨h1, -⟩ | ⟨a, q, h1, -, h3, -⟩
          · rw [h1] at h
            cases h
          · rw [h1] at h
            cases h
            have := BRs_ge k _ _ _ _ _ h3
            omega
/-- without a way there is none -/
theorem BRs_no {w : Nat → Int32} (hw : WI w) {co : Nat → Nat → Nat} {t : Nat} : ∀ (k n s : Nat) (op bo : Nat → Nat), n < nn w → far w n t = 99 → BRs w co t k n s op bo = none
  | 0, _, _, _, _, _, _ => rfl
  | k + 1, n, s, op, bo, hn, hf => by
    have hN := wi_n hw
    have hne : ¬ n = t := fun e => by
      rw [e, far_rec hw (by omega), if_pos rfl] at hf
      cases hf
    have arm : ∀ a, a < am w n → far w (tg w n a) t = 99 := fun a ha => by
      have htl := tg_lt hw (n := n) (a := a) (by omega) ha
      refine Classical.byContradiction fun h => ?_
      obtain ⟨i, hi⟩ := (far_iff hw (by omega)).mp h
      exact (far_iff hw (by omega)).mpr ⟨i + 1, a, ha, hi⟩ hf
    unfold BRs
    rw [if_neg hne]
    split
    · rfl
    · split
      next h1 =>
        have hT := wi_T hw hn h1
        have htl := tg_lt hw (n := n) (a := 0) (by omega) (by omega)
        exact BRs_no hw k _ s op bo htl.2 (arm 0 (by omega))
      next h1 =>
        refine foB_0 _ fun a ha => ?_
        have htl := tg_lt hw (n := n) (a := a) (by omega) ha
        exact BRs_no hw k _ _ _ _ htl.2 (arm a ha)
/-! of arms to one node any gives the same water -/
theorem sm_upd {f f' : Nat → Nat} {t : Nat} : ∀ n, t < n → (∀ m, m ≠ t → f' m = f m) → sm f' n + f t = sm f n + f' t
  | 0, h, _ => absurd h (Nat.not_lt_zero _)
  | n + 1, ht, h => by
    show sm f' n + f' n + f t = sm f n + f n + f' t
    by_cases e : t = n
    · subst e
      rw [sm_c (f := f') (f' := f) t fun m hm => h m (by omega)]
      omega
    · have := sm_upd n (by omega) h
      rw [h n (fun h => e h.symm)]
      omega
theorem cnt_one {a : Nat} : ∀ n, cnt (2 ^ a).testBit n = if a < n then 1 else 0
  | 0 => by
    rw [if_neg (Nat.not_lt_zero a)]
    rfl
  | n + 1 => by
    rw [cnt_s, cnt_one n, Nat.testBit_two_pow]
    by_cases e : a = n
    · rw [decide_eq_true e, if_pos rfl, if_neg (by omega), if_pos (by omega)]
    · rw [decide_eq_false e, if_neg Bool.false_ne_true]
      by_cases h : a < n
      · rw [if_pos h, if_pos (by omega)]
      · rw [if_neg h, if_neg (by omega)]
/-- what one open arm sends -/
theorem snF_1 {w : Nat → Int32} {c n a b : Nat} (ha : a < am w n) : snF w (2 ^ a) c n b = if b = a then c - c * vN w 7 / 100 * (am w n - 1) else c * vN w 7 / 100 := by
  unfold snF rst0
  rw [cnt_one, if_pos ha, Nat.testBit_two_pow, Nat.div_one, Nat.mod_one, if_neg (Nat.not_lt_zero _), Nat.add_zero]
  by_cases e : b = a
  · rw [if_pos e, decide_eq_true e.symm, if_pos rfl]
  · rw [if_neg e, decide_eq_false fun h => e h.symm, if_neg Bool.false_ne_true]
theorem snF_2 {w : Nat → Int32} {c n a a' x : Nat} (ha : a < am w n) (ha' : a' < am w n) (ht : tg w n a = tg w n a') : sm (fun b => if tg w n b = x then snF w (2 ^ a) c n b else 0) (am w n) = sm (fun b => if tg w n b = x then snF w (2 ^ a') c n b else 0) (am w n) := by
  obtain ⟨S, hS⟩ : ∃ S, S = c * vN w 7 / 100 := ⟨_, rfl⟩
  obtain ⟨R, hR⟩ : ∃ R, R = c - c * vN w 7 / 100 * (am w n - 1) := ⟨_, rfl⟩
  have u1 := sm_upd (f := fun b => if tg w n b = x then S else 0) (f' := fun b => if tg w n b = x then snF w (2 ^ a) c n b else 0) (t := a) (am w n) ha fun m hm => by
    show (if tg w n m = x then snF w (2 ^ a) c n m else 0) = if tg w n m = x then S else 0
    rw [snF_1 ha, if_neg hm, ← hS]
  have u2 := sm_upd (f := fun b => if tg w n b = x then S else 0) (f' := fun b => if tg w n b = x then snF w (2 ^ a') c n b else 0) (t := a') (am w n) ha' fun m hm => by
    show (if tg w n m = x then snF w (2 ^ a') c n m else 0) = if tg w n m = x then S else 0
    rw [snF_1 ha', if_neg hm, ← hS]
  have e1 : snF w (2 ^ a) c n a = R := by rw [snF_1 ha, if_pos rfl, hR]
  have e2 : snF w (2 ^ a') c n a' = R := by rw [snF_1 ha', if_pos rfl, hR]
  simp only [e1, e2, ht] at u1 u2
  omega
/-- two ways that differ in arms to one node -/
def simO (w : Nat → Int32) (n a a' : Nat) (op op' : Nat → Nat) : Prop := (n < nn w ∧ fd w n 0 = 0 ∧ a < am w n ∧ a' < am w n ∧ tg w n a = tg w n a') ∧ op n = 2 ^ a ∧ op' n = 2 ^ a' ∧ ∀ i, i ≠ n → op i = op' i
theorem cm_sim {w : Nat → Int32} {n a a' : Nat} {op op' : Nat → Nat} (h : simO w n a a' op op') {fl : Nat} : ∀ N x, cmN w op fl N x = cmN w op' fl N x
  | 0, _ => rfl
  | N + 1, x => by
    obtain ⟨⟨h1, h2, h3, h4, h5⟩, h6, h7, h8⟩ := h
    have ih := cm_sim (fl := fl) (op := op) (op' := op') ⟨⟨h1, h2, h3, h4, h5⟩, h6, h7, h8⟩ N
    unfold cmN
    rw [ih x, ih N]
    refine congrArg _ ?_
    by_cases e : N = n
    · subst e
      unfold snt
      rw [h6, h7]
      simp only [h2, ↓reduceIte]
      exact snF_2 h3 h4 h5
    · refine sm_c _ fun b _ => ?_
      unfold snt
      rw [h8 N e]
theorem wet_sim {w : Nat → Int32} {n a a' t : Nat} {op op' : Nat → Nat} (h : simO w n a a' op op') : wetQ w t op = wetQ w t op' := by
  unfold wetQ cmA
  rw [cm_sim h]
theorem sim_up {w : Nat → Int32} {n a a' m v : Nat} {op op' : Nat → Nat} (h : simO w n a a' op op') (hm : m ≠ n) : simO w n a a' (up1 op m v) (up1 op' m v) := by
  obtain ⟨h1, h6, h7, h8⟩ := h
  refine ⟨h1, by rw [up1_n (fun e => hm e.symm)]; exact h6, by rw [up1_n (fun e => hm e.symm)]; exact h7, fun i hi => ?_⟩
  unfold up1
  rw [h8 i hi]
/-- alike but for what was paid before -/
def relC (s s' : Nat) (x y : CND) : Prop := (x = none ∧ y = none) ∨ ∃ c p p', x = some (s + c, p) ∧ y = some (s' + c, p')
theorem relC_o {s s' : Nat} {x y x2 y2 : CND} (h : relC s s' x y) (h2 : relC s s' x2 y2) : relC s s' (opl x x2) (opl y y2) := by
  rcases h with ⟨rfl, rfl⟩ | ⟨c, p, p', rfl, rfl⟩
  · exact h2
  · rcases h2 with ⟨rfl, rfl⟩ | ⟨c2, p2, p2', rfl, rfl⟩
    · exact Or.inr ⟨c, p, p', rfl, rfl⟩
    · show relC s s' (if s + c2 < s + c then _ else _) (if s' + c2 < s' + c then _ else _)
      by_cases e : c2 < c
      · rw [if_pos (by omega), if_pos (by omega)]
        exact Or.inr ⟨c2, p2, p2', rfl, rfl⟩
      · rw [if_neg (by omega), if_neg (by omega)]
        exact Or.inr ⟨c, p, p', rfl, rfl⟩
theorem BRs_sh {w : Nat → Int32} (hw : WI w) {co : Nat → Nat → Nat} {t n a a' : Nat} : ∀ (k m s s' : Nat) (op op' bo bo' : Nat → Nat), m < nn w → n < m → simO w n a a' op op' → relC s s' (BRs w co t k m s op bo) (BRs w co t k m s' op' bo')
  | 0, _, _, _, _, _, _, _, _, _, _ => Or.inl ⟨rfl, rfl⟩
  | k + 1, m, s, s', op, op', bo, bo', hm, hnm, h => by
    have hN := wi_n hw
    unfold BRs
    by_cases h1 : m = t
    · rw [if_pos h1, if_pos h1, wet_sim h]
      split
      · exact Or.inr ⟨0, bo, bo', rfl, rfl⟩
      · exact Or.inl ⟨rfl, rfl⟩
    · rw [if_neg h1, if_neg h1]
      split
      · exact Or.inl ⟨rfl, rfl⟩
      · split
        next h2 =>
          have hT := wi_T hw hm h2
          have htl := tg_lt hw (n := m) (a := 0) (by omega) (by omega)
          exact BRs_sh hw k _ s s' op op' bo bo' htl.2 (by omega) h
        next h2 =>
          have go : ∀ N, N ≤ am w m → relC s s' (foB (fun b => BRs w co t k (tg w m b) (s + co m b) (up1 op m (2 ^ b)) (up1 bo m (co m b))) N) (foB (fun b => BRs w co t k (tg w m b) (s' + co m b) (up1 op' m (2 ^ b)) (up1 bo' m (co m b))) N) := by
            intro N
            induction N with
            | zero => exact fun _ => Or.inl ⟨rfl, rfl⟩
            | succ N ih =>
              intro hN2
              have htl := tg_lt hw (n := m) (a := N) (by omega) (by omega)
              refine relC_o (ih (by omega)) ?_
              rcases BRs_sh hw (co := co) (t := t) k (tg w m N) (s + co m N) (s' + co m N) (up1 op m (2 ^ N)) (up1 op' m (2 ^ N)) (up1 bo m (co m N)) (up1 bo' m (co m N)) htl.2 (by omega) (sim_up h (by omega)) with ⟨e1, e2⟩ | ⟨c, p, p', e1, e2⟩
              · exact Or.inl ⟨e1, e2⟩
              · exact Or.inr ⟨co m N + c, p, p', by rw [← Nat.add_assoc]; exact e1, by rw [← Nat.add_assoc]; exact e2⟩
          exact go _ (Nat.le_refl _)
/-- whether no other arm to its node beats an arm -/
def chp (w : Nat → Int32) (co : Nat → Nat → Nat) (n a b : Nat) : Bool := decide (b ≠ a ∧ tg w n b = tg w n a ∧ (co n b < co n a ∨ (co n b = co n a ∧ b < a)))
def chq (w : Nat → Int32) (co : Nat → Nat → Nat) (n a : Nat) : Nat → Bool
  | 0 => true
  | b + 1 => chq w co n a b && !chp w co n a b
theorem chq_f {w : Nat → Int32} {co : Nat → Nat → Nat} {n a : Nat} : ∀ N, chq w co n a N = false → ∃ b, b < N ∧ chp w co n a b = true
  | 0, h => by cases h
  | N + 1, h => by
    unfold chq at h
    cases h1 : chq w co n a N
    · obtain ⟨b, hb, h2⟩ := chq_f N h1
      exact ⟨b, by omega, h2⟩
    · rw [h1, Bool.true_and, Bool.not_eq_false'] at h
      exact ⟨N, by omega, h⟩
/-- arms that are beaten may be left out -/
theorem BRs_ch {w : Nat → Int32} (hw : WI w) {co : Nat → Nat → Nat} {t k n s : Nat} {op bo : Nat → Nat} (hn : n < nn w) (h0 : fd w n 0 = 0) :
    foB (fun a => if chq w co n a (am w n) = true then BRs w co t k (tg w n a) (s + co n a) (up1 op n (2 ^ a)) (up1 bo n (co n a)) else none) (am w n) = foB (fun a => BRs w co t k (tg w n a) (s + co n a) (up1 op n (2 ^ a)) (up1 bo n (co n a))) (am w n) := by
  have hN := wi_n hw
  refine foB_d fun a p ha hc hp => ?_
  obtain ⟨b, hb, h1⟩ := chq_f _ hc
  obtain ⟨h2, h3, h4⟩ := of_decide_eq_true h1
  have htl := tg_lt hw (n := n) (a := a) (by omega) ha
  have hsim : simO w n b a (up1 op n (2 ^ b)) (up1 op n (2 ^ a)) := ⟨⟨hn, h0, hb, ha, h3⟩, up1_s, up1_s, fun i hi => by rw [up1_n hi, up1_n hi]⟩
  have hr := BRs_sh hw (co := co) (t := t) k (tg w n b) (s + co n b) (s + co n a) (up1 op n (2 ^ b)) (up1 op n (2 ^ a)) (up1 bo n (co n b)) (up1 bo n (co n a)) (by rw [h3]; exact htl.2) (by rw [h3]; exact htl.1) hsim
  have hp : BRs w co t k (tg w n a) (s + co n a) (up1 op n (2 ^ a)) (up1 bo n (co n a)) = some p := hp
  rw [← h3] at hp
  rcases hr with ⟨-, e2⟩ | ⟨c, q, q', e1, e2⟩
  · rw [e2] at hp
    cases hp
  · rw [e2] at hp
    cases hp
    exact ⟨b, _, hb, e1, by show s + co n b + c < s + co n a + c ∨ (s + co n b + c = s + co n a + c ∧ b < a); omega⟩
/-! what it costs -/
def rvx (T : Nat → Nat) (a : Nat) : Nat → Nat
  | 0 => 0
  | b + 1 => if b = a then rvx T a b else if rvx T a b < T b then T b else rvx T a b
theorem rvx_l {T : Nat → Nat} {a m : Nat} : ∀ n, (∀ b, b < n → T b ≤ m) → rvx T a n ≤ m
  | 0, _ => Nat.zero_le _
  | n + 1, h => by
    have h1 := rvx_l (a := a) n fun b hb => h b (by omega)
    have h2 := h n (by omega)
    unfold rvx
    split
    · exact h1
    · split
      · exact h2
      · exact h1
theorem rvx_g {T : Nat → Nat} {a b : Nat} (hba : b ≠ a) : ∀ n, b < n → T b ≤ rvx T a n
  | 0, h => absurd h (Nat.not_lt_zero _)
  | n + 1, h => by
    unfold rvx
    by_cases e : b = n
    · subst e
      rw [if_neg hba]
      split <;> omega
    · have := rvx_g (T := T) hba n (by omega)
      split
      · exact this
      · split <;> omega
def coF (V : LW) (w : Nat → Int32) (f a : Nat) : Nat := if wnO V w f = 2 ^ a then 0 else rvx (tot V w f) a (am w f) + 1 - tot V w f a
/-- an arm that isn't open alone lacks something -/
theorem co_ok {V : LW} {w : Nat → Int32} {f a : Nat} (ha : a < am w f) (h : wnO V w f ≠ 2 ^ a) : tot V w f a ≤ rvx (tot V w f) a (am w f) + 1 := by
  by_cases h0 : mst V w f = 0
  · have := mxT_le (t := tot V w f) (n := am w f) ha
    have e : mxT (tot V w f) (am w f) = mst V w f := rfl
    omega
  · have hle := mxT_le (t := tot V w f) (n := am w f) ha
    have e : mxT (tot V w f) (am w f) = mst V w f := rfl
    by_cases hlt : tot V w f a < mst V w f
    · rcases mxT_ex (t := tot V w f) (am w f) with h1 | ⟨b, hb, h1⟩
      · omega
      · have hba : b ≠ a := fun e2 => by rw [e2] at h1; omega
        have := rvx_g (T := tot V w f) hba (am w f) hb
        omega
    · -- another one has as many
      have : ∃ b, b < am w f ∧ b ≠ a ∧ tot V w f b = mst V w f := by
        refine Classical.byContradiction fun hno => h ?_
        unfold wnO
        rw [if_neg h0]
        unfold wset
        rw [if_neg h0]
        unfold winS
        refine Nat.eq_of_testBit_eq fun i => ?_
        rw [bset_t, Nat.testBit_two_pow]
        by_cases e1 : i < am w f
        · rw [decide_eq_true e1, Bool.true_and]
          refine decide_eq_decide.mpr ⟨fun h1 => ?_, fun h1 => ?_⟩
          · refine Classical.byContradiction fun h2 => hno ⟨i, e1, fun h3 => h2 h3.symm, h1⟩
          · rw [← h1]
            omega
        · rw [decide_eq_false e1, Bool.false_and, decide_eq_false (by omega)]
      obtain ⟨b, hb, hba, h1⟩ := this
      have := rvx_g (T := tot V w f) hba (am w f) hb
      omega
theorem coF_l {V : LW} {w : Nat → Int32} (h : WI w) {f a : Nat} (hf : f < 16) : coF V w f a ≤ 6001000 := by
  have ha3 := am_le h hf
  have := rvx_l (T := tot V w f) (a := a) (m := 6000999) (am w f) fun b hb => tot_l h hf (by omega)
  unfold coF
  split <;> omega
/-- what least answers -/
def lsE (V : LW) (w : Nat → Int32) (t : Nat) : CND := BRs w (coF V w) t 17 0 0 (wnO V w) fun _ => 0
def lsB (w : Nat → Int32) (t k : Int32) : Bool := townB w t && askB w k
def lsA (V : LW) (w : Nat → Int32) (t k : Int32) : Int32 := if lsB w t k = true then (match lsE V w (ix t) with
  | none => -1
  | some p => if k = nI 0 then nI p.1 else nI (p.2 (ix k - 10))) else -1
