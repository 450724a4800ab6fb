/-! the grammar of deltas, told once; the reference reads it -/
def unn (v : Nat → Nat) (k x : Nat) : Nat → Nat := fun j => if j = k then x else v j
theorem unn_s {v : Nat → Nat} {k x : Nat} : unn v k x k = x := if_pos rfl
theorem unn_n {v : Nat → Nat} {k x j : Nat} (h : j ≠ k) : unn v k x j = v j := if_neg h
/-- a node that is read: its fields as the reference lays them, the greatest goal so far in place 7; the token behind it -/
abbrev Rn : Type := Sum (Nat × Nat) ((Nat → Nat) × Nat)
def bn : Rn → ((Nat → Nat) → Nat → Rn) → Rn
  | .inl e, _ => .inl e
  | .inr p, K => K p.1 p.2
theorem bn_i {r : Rn} {K : (Nat → Nat) → Nat → Rn} {v : Nat → Nat} {j : Nat} (h : bn r K = .inr (v, j)) : ∃ v1 j1, r = .inr (v1, j1) ∧ K v1 j1 = .inr (v, j) := by
  cases r with
  | inl e => cases h
  | inr p => exact ⟨p.1, p.2, rfl, h⟩
theorem bn_l {r : Rn} {K : (Nat → Nat) → Nat → Rn} {e : Nat × Nat} (h : r = .inl e) : bn r K = .inl e := by
  rw [h]
  rfl
theorem bn_r {r : Rn} {K : (Nat → Nat) → Nat → Rn} {v : Nat → Nat} {j : Nat} (h : r = .inr (v, j)) : bn r K = K v j := by
  rw [h]
  rfl
section GD
variable (T : Nat → Nat) (n : Nat)
def wdF (c : Nat) (v : Nat → Nat) (i : Nat) : Rn := if kC T n 0 i = c then .inr (v, i + 1) else .inl (1, i)
def nuF (p lo hi : Nat) (v : Nat → Nat) (i : Nat) : Rn := if kC T n 0 i ≠ 2 then .inl (1, i) else if lo ≤ kN T n i ∧ kN T n i ≤ hi then .inr (unn v p (kN T n i), i + 1) else .inl (2, i)
def upA (a x : Nat) (v : Nat → Nat) : Nat → Nat := unn (unn (unn v (2 + a) x) 7 (if v 7 < x then x else v 7)) 1 (a + 1)
def arF (m a : Nat) (v : Nat → Nat) (i : Nat) : Rn := if kC T n 0 i ≠ 2 then .inl (1, i) else if m + 1 ≤ kN T n i ∧ kN T n i ≤ 15 then .inr (upA a (kN T n i) v, i + 1) else .inl (2, i)
def fkF (m : Nat) (v : Nat → Nat) (i : Nat) : Rn := bn (wdF T n 13 v i) fun v i => bn (arF T n m 0 v i) fun v i => bn (wdF T n 5 v i) fun v i => bn (arF T n m 1 v i) fun v i => if kC T n 0 i = 5 then arF T n m 2 v (i + 1) else .inr (v, i)
def twF (m : Nat) (v : Nat → Nat) (i : Nat) : Rn := bn (nuF T n 5 0 999 v i) fun v i => bn (wdF T n 14 v i) fun v i => bn (nuF T n 6 1 999 v i) fun v i => bn (wdF T n 13 v i) fun v i => arF T n m 0 v i
def nd0 (s G : Nat) : Nat → Nat := unn (unn (fun _ => 0) 0 s) 7 G
def inF (m : Nat) (s G i : Nat) : Rn := if s = 0 then fkF T n m (nd0 s G) i else if s = 1 then twF T n m (nd0 s G) i else .inr (nd0 s G, i)
def ndF (m G i : Nat) : Rn := if 10 ≤ kC T n 0 i ∧ kC T n 0 i ≤ 12 then (if m = 16 then .inl (3, i) else bn (inF T n m (kC T n 0 i - 10) G (i + 1)) fun v i => wdF T n 159 v i) else .inl (1, i)
/-- all nodes, the token behind them, the greatest goal -/
abbrev Rl : Type := Sum (Nat × Nat) (List (Nat → Nat) × (Nat × Nat))
def bl : Rn → ((Nat → Nat) → Nat → Rl) → Rl
  | .inl e, _ => .inl e
  | .inr p, K => K p.1 p.2
def cl_ (v : Nat → Nat) : Rl → Rl
  | .inl e => .inl e
  | .inr p => .inr (v :: p.1, p.2)
def nsF : Nat → Nat → Nat → Nat → Rl
  | 0, i, _, _ => .inl (0, i)
  | f + 1, i, m, G => if kC T n 0 i = 0 then .inr ([], (i, G)) else bl (ndF T n m G i) fun v j => cl_ v (nsF f j (m + 1) (v 7))
def dlF : Sum (Nat × Nat) (List (Nat → Nat)) := match nsF T n 401 0 0 0 with
  | .inl e => .inl e
  | .inr p => if p.2.2 < p.1.length then .inr p.1 else .inl (4, p.2.1)
end GD
theorem bl_i {r : Rn} {K : (Nat → Nat) → Nat → Rl} {x : List (Nat → Nat) × (Nat × Nat)} (h : bl r K = .inr x) : ∃ v1 j1, r = .inr (v1, j1) ∧ K v1 j1 = .inr x := by
  cases r with
  | inl e => cases h
  | inr p => exact ⟨p.1, p.2, rfl, h⟩
theorem bl_l {r : Rn} {K : (Nat → Nat) → Nat → Rl} {e : Nat × Nat} (h : r = .inl e) : bl r K = .inl e := by
  rw [h]
  rfl
theorem bl_r {r : Rn} {K : (Nat → Nat) → Nat → Rl} {v : Nat → Nat} {j : Nat} (h : r = .inr (v, j)) : bl r K = K v j := by
  rw [h]
  rfl
theorem cl_i {v : Nat → Nat} {r : Rl} {L : List (Nat → Nat)} {x : Nat × Nat} (h : cl_ v r = .inr (L, x)) : ∃ L1, r = .inr (L1, x) ∧ L = v :: L1 := by
  cases r with
  | inl e => cases h
  | inr p => cases h; exact ⟨p.1, rfl, rfl⟩
theorem cl_l {v : Nat → Nat} {r : Rl} {e : Nat × Nat} (h : r = .inl e) : cl_ v r = .inl e := by
  rw [h]
  rfl
theorem cl_r {v : Nat → Nat} {r : Rl} {L : List (Nat → Nat)} {x : Nat × Nat} (h : r = .inr (L, x)) : cl_ v r = .inr (v :: L, x) := by
  rw [h]
  rfl
section GE
variable {T : Nat → Nat} {n : Nat}
/-- what is told of a node: its arms, the greatest goal, where the token stands -/
def ndAa (m G : Nat) (v : Nat → Nat) : Prop := v 1 ≤ 3 ∧ (∀ a, a < v 1 → m < v (2 + a) ∧ v (2 + a) ≤ 15 ∧ v (2 + a) ≤ v 7) ∧ (∀ a, v 1 ≤ a → a < 3 → v (2 + a) = 0) ∧ G ≤ v 7 ∧ v 7 ≤ 15 ∧ (v 7 = G ∨ ∃ a, a < v 1 ∧ v (2 + a) = v 7)
theorem wdF_k {c : Nat} {v v' : Nat → Nat} {i j : Nat} (hc : c ≠ 0) (h : wdF T n c v i = .inr (v', j)) : v' = v ∧ j = i + 1 ∧ i + 1 ≤ n ∧ kC T n 0 i = c := by
  unfold wdF at h
  split at h
  next h1 =>
    cases h
    exact ⟨rfl, rfl, kC_l (T := T) (n := n) (k := 0) (i := i) (by decide) (by omega), h1⟩
  next h1 => cases h
theorem nuF_k {p lo hi : Nat} {v v' : Nat → Nat} {i j : Nat} (h : nuF T n p lo hi v i = .inr (v', j)) : v' = unn v p (kN T n i) ∧ j = i + 1 ∧ i + 1 ≤ n ∧ lo ≤ kN T n i ∧ kN T n i ≤ hi ∧ kC T n 0 i = 2 := by
  unfold nuF at h
  split at h
  next h1 => cases h
  next h1 =>
    have hc : kC T n 0 i = 2 := Classical.byContradiction fun e => h1 e
    split at h
    next h2 =>
      cases h
      exact ⟨rfl, rfl, kC_l (T := T) (n := n) (k := 0) (i := i) (by decide) (by omega), h2.1, h2.2, hc⟩
    next h2 => cases h
theorem arF_k {m a : Nat} {v v' : Nat → Nat} {i j : Nat} (h : arF T n m a v i = .inr (v', j)) : v' = upA a (kN T n i) v ∧ j = i + 1 ∧ i + 1 ≤ n ∧ m + 1 ≤ kN T n i ∧ kN T n i ≤ 15 ∧ kC T n 0 i = 2 := by
  unfold arF at h
  split at h
  next h1 => cases h
  next h1 =>
    have hc : kC T n 0 i = 2 := Classical.byContradiction fun e => h1 e
    split at h
    next h2 =>
      cases h
      exact ⟨rfl, rfl, kC_l (T := T) (n := n) (k := 0) (i := i) (by decide) (by omega), h2.1, h2.2, hc⟩
    next h2 => cases h
theorem upA_1 {a x : Nat} {v : Nat → Nat} : upA a x v 1 = a + 1 := unn_s
theorem upA_7 {a x : Nat} {v : Nat → Nat} : upA a x v 7 = if v 7 < x then x else v 7 := by
  unfold upA
  rw [unn_n (by decide), unn_s]
theorem upA_a {a x : Nat} {v : Nat → Nat} (ha : a < 3) : upA a x v (2 + a) = x := by
  unfold upA
  rw [unn_n (by omega), unn_n (by omega), unn_s]
theorem upA_o {a x f : Nat} {v : Nat → Nat} (h1 : f ≠ 1) (h7 : f ≠ 7) (ha : f ≠ 2 + a) : upA a x v f = v f := by
  unfold upA
  rw [unn_n h1, unn_n h7, unn_n ha]
theorem ndA_up {m G a x : Nat} {v : Nat → Nat} (h : ndAa m G v) (ha : v 1 = a) (ha3 : a < 3) (hx : m + 1 ≤ x) (hx2 : x ≤ 15) : ndAa m G (upA a x v) := by
  obtain ⟨h1, h2, h3, h4, h5, h6⟩ := h
  unfold ndAa
  rw [upA_1, upA_7]
  refine ⟨by omega, fun b hb => ?_, fun b hb1 hb2 => ?_, ?_, ?_, ?_⟩
  · by_cases e : b = a
    · subst e
      rw [upA_a (by omega)]
      split <;> omega
    · rw [upA_o (by omega) (by omega) (by omega)]
      have := h2 b (by omega)
      split <;> omega
  · rw [upA_o (by omega) (by omega) (by omega)]
    exact h3 b (by omega) hb2
  · split <;> omega
  · split <;> omega
  · by_cases e : v 7 < x
    · rw [if_pos e]
      exact Or.inr ⟨a, by omega, by rw [upA_a ha3]⟩
    · rw [if_neg e]
      rcases h6 with h6 | ⟨b, hb, h6⟩
      · exact Or.inl h6
      · exact Or.inr ⟨b, by omega, by rw [upA_o (by omega) (by omega) (by omega)]; exact h6⟩
theorem nd0_A {m s G : Nat} (hG : G ≤ 15) : ndAa m G (nd0 s G) := by
  have e1 : nd0 s G 1 = 0 := rfl
  have e7 : nd0 s G 7 = G := rfl
  unfold ndAa
  rw [e1, e7]
  refine ⟨by omega, fun a ha => absurd ha (Nat.not_lt_zero a), fun a _ ha => ?_, Nat.le_refl _, hG, Or.inl rfl⟩
  show unn (unn (fun _ => 0) 0 s) 7 G (2 + a) = 0
  rw [unn_n (by omega), unn_n (by omega)]
/-- a node that was read -/
def ndB (m G : Nat) (v : Nat → Nat) : Prop := ndAa m G v ∧ v 0 ≤ 2 ∧ (v 0 = 0 → 2 ≤ v 1) ∧ (v 0 = 1 → v 1 = 1 ∧ 1 ≤ v 6) ∧ (v 0 = 2 → v 1 = 0) ∧ v 5 ≤ 999 ∧ v 6 ≤ 999 ∧ (v 0 ≠ 1 → v 5 = 0 ∧ v 6 = 0)
theorem fkF_k {m G i j : Nat} {v' : Nat → Nat} (hG : G ≤ 15) (h : fkF T n m (nd0 0 G) i = .inr (v', j)) : ndB m G v' ∧ v' 0 = 0 ∧ i < j ∧ j ≤ n := by
  obtain ⟨v1, j1, e1, h⟩ := bn_i h
  obtain ⟨v2, j2, e2, h⟩ := bn_i h
  obtain ⟨v3, j3, e3, h⟩ := bn_i h
  obtain ⟨v4, j4, e4, h⟩ := bn_i h
  obtain ⟨rfl, rfl, q1, -⟩ := wdF_k (by decide) e1
  obtain ⟨rfl, rfl, q2, r2, s2, -⟩ := arF_k e2
  obtain ⟨rfl, rfl, q3, -⟩ := wdF_k (by decide) e3
  obtain ⟨rfl, rfl, q4, r4, s4, -⟩ := arF_k e4
  have A0 := nd0_A (m := m) (s := 0) hG
  have A1 := ndA_up (a := 0) A0 rfl (by decide) r2 s2
  have A2 := ndA_up (a := 1) A1 upA_1 (by decide) r4 s4
  have z : ∀ f, f = 0 ∨ f = 5 ∨ f = 6 → upA 1 (kN T n (i + 1 + 1 + 1)) (upA 0 (kN T n (i + 1)) (nd0 0 G)) f = 0 := fun f hf => by
    rw [upA_o (by omega) (by omega) (by omega), upA_o (by omega) (by omega) (by omega)]
    rcases hf with rfl | rfl | rfl <;> rfl
  split at h
  next h5 =>
    obtain ⟨rfl, rfl, q6, r6, s6, -⟩ := arF_k h
    have A3 := ndA_up (a := 2) A2 upA_1 (by decide) r6 s6
    have z3 : ∀ f, f = 0 ∨ f = 5 ∨ f = 6 → upA 2 (kN T n (i + 1 + 1 + 1 + 1 + 1)) (upA 1 (kN T n (i + 1 + 1 + 1)) (upA 0 (kN T n (i + 1)) (nd0 0 G))) f = 0 := fun f hf => by
      rw [upA_o (by omega) (by omega) (by omega)]
      exact z f hf
    refine ⟨⟨A3, by rw [z3 0 (by omega)]; omega, fun _ => by rw [upA_1]; omega, fun e => ?_, fun e => ?_, by rw [z3 5 (by omega)]; omega, by rw [z3 6 (by omega)]; omega, fun _ => ⟨z3 5 (by omega), z3 6 (by omega)⟩⟩, z3 0 (by omega), by omega, by omega⟩
    · rw [z3 0 (by omega)] at e
      cases e
    · rw [z3 0 (by omega)] at e
      cases e
  next h5 =>
    cases h
    refine ⟨⟨A2, by rw [z 0 (by omega)]; omega, fun _ => by rw [upA_1]; omega, fun e => ?_, fun e => ?_, by rw [z 5 (by omega)]; omega, by rw [z 6 (by omega)]; omega, fun _ => ⟨z 5 (by omega), z 6 (by omega)⟩⟩, z 0 (by omega), by omega, by omega⟩
    · rw [z 0 (by omega)] at e
      cases e
    · rw [z 0 (by omega)] at e
      cases e
theorem ndA_un {m G f x : Nat} {v : Nat → Nat} (h : ndAa m G v) (hf : f = 5 ∨ f = 6) : ndAa m G (unn v f x) := by
  obtain ⟨h1, h2, h3, h4, h5, h6⟩ := h
  have e1 : unn v f x 1 = v 1 := unn_n (by omega)
  have e7 : unn v f x 7 = v 7 := unn_n (by omega)
  have ea : ∀ a, a < 3 → unn v f x (2 + a) = v (2 + a) := fun a ha => unn_n (by omega)
  unfold ndAa
  rw [e1, e7]
  refine ⟨h1, fun a ha => by rw [ea a (by omega)]; exact h2 a ha, fun a ha ha3 => by rw [ea a ha3]; exact h3 a ha ha3, h4, h5, ?_⟩
  rcases h6 with h6 | ⟨b, hb, h6⟩
  · exact Or.inl h6
  · exact Or.inr ⟨b, hb, by rw [ea b (by omega)]; exact h6⟩
theorem twF_k {m G i j : Nat} {v' : Nat → Nat} (hG : G ≤ 15) (h : twF T n m (nd0 1 G) i = .inr (v', j)) : ndB m G v' ∧ v' 0 = 1 ∧ i < j ∧ j ≤ n := by
  obtain ⟨v1, j1, e1, h⟩ := bn_i h
  obtain ⟨v2, j2, e2, h⟩ := bn_i h
  obtain ⟨v3, j3, e3, h⟩ := bn_i h
  obtain ⟨v4, j4, e4, h⟩ := bn_i h
  obtain ⟨rfl, rfl, q1, r1, s1, -⟩ := nuF_k e1
  obtain ⟨rfl, rfl, q2, -⟩ := wdF_k (by decide) e2
  obtain ⟨rfl, rfl, q3, r3, s3, -⟩ := nuF_k e3
  obtain ⟨rfl, rfl, q4, -⟩ := wdF_k (by decide) e4
  obtain ⟨rfl, rfl, q5, r5, s5, -⟩ := arF_k h
  have A0 := nd0_A (m := m) (s := 1) hG
  have A1 := ndA_up (a := 0) (ndA_un (ndA_un A0 (f := 5) (x := kN T n i) (Or.inl rfl)) (f := 6) (x := kN T n (i + 1 + 1)) (Or.inr rfl)) rfl (by decide) r5 s5
  have z0 : upA 0 (kN T n (i + 1 + 1 + 1 + 1)) (unn (unn (nd0 1 G) 5 (kN T n i)) 6 (kN T n (i + 1 + 1))) 0 = 1 := by
    rw [upA_o (by omega) (by omega) (by omega)]
    rfl
  have z5 : upA 0 (kN T n (i + 1 + 1 + 1 + 1)) (unn (unn (nd0 1 G) 5 (kN T n i)) 6 (kN T n (i + 1 + 1))) 5 = kN T n i := by
    rw [upA_o (by omega) (by omega) (by omega), unn_n (by omega), unn_s]
  have z6 : upA 0 (kN T n (i + 1 + 1 + 1 + 1)) (unn (unn (nd0 1 G) 5 (kN T n i)) 6 (kN T n (i + 1 + 1))) 6 = kN T n (i + 1 + 1) := by
    rw [upA_o (by omega) (by omega) (by omega), unn_s]
  refine ⟨⟨A1, by rw [z0]; omega, fun e => ?_, fun _ => ⟨upA_1, by rw [z6]; exact r3⟩, fun e => ?_, by rw [z5]; exact s1, by rw [z6]; exact s3, fun e => absurd z0 e⟩, z0, by omega, by omega⟩
  · rw [z0] at e
    cases e
  · rw [z0] at e
    cases e
theorem inF_k {m s G i j : Nat} {v' : Nat → Nat} (hs : s ≤ 2) (hG : G ≤ 15) (hi : i ≤ n) (h : inF T n m s G i = .inr (v', j)) : ndB m G v' ∧ v' 0 = s ∧ i ≤ j ∧ j ≤ n := by
  unfold inF at h
  split at h
  next h0 =>
    subst h0
    have := fkF_k hG h
    exact ⟨this.1, this.2.1, by omega, this.2.2.2⟩
  next h0 =>
    split at h
    next h1 =>
      subst h1
      have := twF_k hG h
      exact ⟨this.1, this.2.1, by omega, this.2.2.2⟩
    next h1 =>
      cases h
      have e2 : s = 2 := by omega
      subst e2
      exact ⟨⟨nd0_A hG, Nat.le_refl 2, fun e => (by cases e), fun e => (by cases e), fun _ => rfl, Nat.zero_le _, Nat.zero_le _, fun _ => ⟨rfl, rfl⟩⟩, rfl, Nat.le_refl _, hi⟩
theorem ndF_k {m G i j : Nat} {v' : Nat → Nat} (hG : G ≤ 15) (h : ndF T n m G i = .inr (v', j)) : ndB m G v' ∧ m ≠ 16 ∧ i < j ∧ j ≤ n := by
  unfold ndF at h
  split at h
  next h1 =>
    split at h
    next h2 => cases h
    next h2 =>
      obtain ⟨v1, j1, e1, h⟩ := bn_i h
      have hi := kC_l (T := T) (n := n) (k := 0) (i := i) (by decide) (by omega)
      have a := inF_k (by omega) hG (by omega) e1
      obtain ⟨rfl, rfl, q1, -⟩ := wdF_k (by decide) h
      exact ⟨a.1, h2, by omega, q1⟩
  next h1 => cases h
/-- all nodes that were read -/
def nsK (m : Nat) : Nat → List (Nat → Nat) → Nat → Prop
  | G, [], G' => G' = G
  | G, v :: L, G' => ndB m G v ∧ nsK (m + 1) (v 7) L G'
theorem nsF_k : ∀ (f i m G : Nat) {L : List (Nat → Nat)} {j G' : Nat}, i ≤ n → m ≤ 16 → G ≤ 15 → nsF T n f i m G = .inr (L, (j, G')) → nsK m G L G' ∧ L.length + m ≤ 16 ∧ G' ≤ 15 ∧ i ≤ j ∧ j ≤ n
  | 0, i, m, G, L, j, G', _, _, _, h => by cases h
  | f + 1, i, m, G, L, j, G', hi, hm, hG, h => by
    unfold nsF at h
    split at h
    next h0 =>
      cases h
      exact ⟨rfl, by show 0 + m ≤ 16; omega, hG, Nat.le_refl _, hi⟩
    next h0 =>
      obtain ⟨v1, j1, e1, h⟩ := bl_i h
      obtain ⟨L1, e2, rfl⟩ := cl_i h
      obtain ⟨a1, a2, a3, a4⟩ := ndF_k hG e1
      obtain ⟨b1, b2, b3, b4, b5⟩ := nsF_k f j1 (m + 1) (v1 7) a4 (by omega) a1.1.2.2.2.2.1 e2
      exact ⟨⟨a1, b1⟩, by rw [List.length_cons]; omega, b3, by omega, b5⟩
theorem nsK_g : ∀ {L : List (Nat → Nat)} {m G G' : Nat}, nsK m G L G' → G ≤ G' ∧ (∀ v, v ∈ L → ∀ a, a < v 1 → v (2 + a) ≤ G') ∧ (G' = G ∨ ∃ v, v ∈ L ∧ ∃ a, a < v 1 ∧ v (2 + a) = G')
  | [], m, G, G', h => by
    have h : G' = G := h
    exact ⟨by omega, fun v hv => absurd hv List.not_mem_nil, Or.inl h⟩
  | v :: L, m, G, G', h => by
    obtain ⟨h1, h2⟩ := h
    obtain ⟨a1, a2, a3⟩ := nsK_g h2
    have b := h1.1
    refine ⟨Nat.le_trans b.2.2.2.1 a1, fun u hu a ha => ?_, ?_⟩
    · rcases List.mem_cons.mp hu with rfl | hu
      · exact Nat.le_trans (b.2.1 a ha).2.2 a1
      · exact a2 u hu a ha
    · rcases a3 with e | ⟨u, hu, a, ha, e⟩
      · rcases b.2.2.2.2.2 with e2 | ⟨a, ha, e2⟩
        · exact Or.inl (by omega)
        · exact Or.inr ⟨v, List.mem_cons_self .., a, ha, by omega⟩
      · exact Or.inr ⟨u, List.mem_cons_of_mem _ hu, a, ha, e⟩
/-- each goal is there: so the reference asks it, so the class -/
theorem ns_all {L : List (Nat → Nat)} {G' : Nat} (h : nsK 0 0 L G') : G' < L.length ↔ 0 < L.length ∧ ∀ v, v ∈ L → ∀ a, a < v 1 → v (2 + a) < L.length := by
  obtain ⟨a1, a2, a3⟩ := nsK_g h
  constructor
  · intro hl
    exact ⟨by omega, fun v hv a ha => Nat.lt_of_le_of_lt (a2 v hv a ha) hl⟩
  · rintro ⟨h0, hl⟩
    rcases a3 with e | ⟨v, hv, a, ha, e⟩
    · omega
    · rw [← e]
      exact hl v hv a ha
end GE
