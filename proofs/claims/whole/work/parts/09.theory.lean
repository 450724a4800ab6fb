/-! the mini machine's own laws -/
def isD : Instr → Bool
  | .ifCond .. => false
  | .if_icmp .. => false
  | .goto _ => false
  | .tableswitch .. => false
  | .lookupswitch .. => false
  | .ireturn => false
  | .lreturn => false
  | .return_ => false
  | .invokeinterface .. => false
  | _ => true
theorem ob_some {α : Type} (v : α) (K : α → Prop) : ob (some v) K = K v := rfl
theorem ob_none {α : Type} (K : α → Prop) : ob none K = False := rfl
theorem ob_ex {α : Type} {o : Option α} {K : α → Prop} (h : ob o K) : ∃ v, o = some v ∧ K v := by
  cases o with
  | none => exact h.elim
  | some v => exact ⟨v, rfl, h⟩
theorem ex1_def {C : CT} {P : QT} {y : Nat} {K : KT} {Kn : Lo → Sk → Hp → Prop} {i : Instr} {L : Lo} {S : Sk} {h : Hp} (hd : isD i = true) : ex1 C P y K Kn i L S h = ob (stepI y i L S h) fun q => Kn q.1 q.2.1 q.2.2 := by
  cases i <;> first | rfl | (simp [isD] at hd)
theorem ite_one {c : Prop} [Decidable c] {A B : Prop} (h : if c then A else B) : (A ∧ ∀ A' B' : Prop, A' → if c then A' else B') ∨ (B ∧ ∀ A' B' : Prop, B' → if c then A' else B') := by
  by_cases hc : c
  · rw [if_pos hc] at h
    exact Or.inl ⟨h, fun A' B' a => by rw [if_pos hc]; exact a⟩
  · rw [if_neg hc] at h
    exact Or.inr ⟨h, fun A' B' a => by rw [if_neg hc]; exact a⟩
theorem ite_one2 {c : Prop} [Decidable c] {A B : Prop} (h : if c then B else A) : (A ∧ ∀ A' B' : Prop, A' → if c then B' else A') ∨ (B ∧ ∀ A' B' : Prop, B' → if c then B' else A') := by
  rcases ite_one h with ⟨a, b⟩ | ⟨a, b⟩
  · exact Or.inr ⟨a, fun A' B' => b B' A'⟩
  · exact Or.inl ⟨a, fun A' B' => b B' A'⟩
theorem br1_one {c : ClassFile.Cond} {x : Int32} {A B : Prop} (h : br1 c x A B) : (A ∧ ∀ A' B' : Prop, A' → br1 c x A' B') ∨ (B ∧ ∀ A' B' : Prop, B' → br1 c x A' B') := by
  cases c <;> first | exact ite_one h | exact ite_one2 h
theorem br2_one {c : ClassFile.Cond} {x y : Int32} {A B : Prop} (h : br2 c x y A B) : (A ∧ ∀ A' B' : Prop, A' → br2 c x y A' B') ∨ (B ∧ ∀ A' B' : Prop, B' → br2 c x y A' B') := by
  cases c <;> first | exact ite_one h | exact ite_one2 h
theorem nxt_si (h : Hp) (a k : Nat) (v : Int32) : nxt (si h a k v) = nxt h := rfl
theorem nxt_sl (h : Hp) (a k : Nat) (v : Int64) : nxt (sl h a k v) = nxt h := rfl
theorem nxt_sr (h : Hp) (a k : Nat) (v : Option Nat) : nxt (sr h a k v) = nxt h := rfl
theorem nxt_sn (h : Hp) (n : Nat) : nxt (sn h n) = n := rfl
theorem nxt_sw (h : Hp) (a : Nat) (r : Nat → Int32) : nxt (sw h a r) = nxt h := rfl
theorem nxt_swr (h : Hp) (a : Nat) (r : Nat → Option Nat) : nxt (swr h a r) = nxt h := rfl
theorem ist_nxt {h : Hp} {a : Nat} {i v : Int32} {h' : Hp} (H : ist h a i v = some h') : nxt h ≤ nxt h' := by
  unfold ist at H; split at H
  · cases H; exact Nat.le_refl _
  · cases H
theorem lst_nxt {h : Hp} {a : Nat} {i : Int32} {v : Int64} {h' : Hp} (H : lst h a i v = some h') : nxt h ≤ nxt h' := by
  unfold lst at H; split at H
  · cases H; exact Nat.le_refl _
  · cases H
theorem rst_nxt {h : Hp} {a : Nat} {i : Int32} {v : Nat} {h' : Hp} (H : rst h a i v = some h') : nxt h ≤ nxt h' := by
  unfold rst at H; split at H
  · cases H; exact Nat.le_refl _
  · cases H
theorem sfd_nxt {y : Nat} {h : Hp} {a f : Nat} {v : Value} {h' : Hp} (H : sfd y h a f v = some h') : nxt h ≤ nxt h' := by
  cases v <;> simp only [sfd] at H <;> first | (split at H <;> first | (cases H; exact Nat.le_refl _) | cases H) | cases H
theorem stepI_nxt {y : Nat} {i : Instr} {L : Lo} {S : Sk} {h : Hp} {q : Lo × Sk × Hp} (H : stepI y i L S h = some q) : nxt h ≤ nxt q.2.2 := by
  have e1 : ∀ {o : Option Value} {S' : Sk}, (o.map fun v => (L, v :: S', h)) = some q → nxt h ≤ nxt q.2.2 := by
    intro o S' e
    cases o with
    | none => cases e
    | some v => cases e; exact Nat.le_refl _
  have e3 : ∀ {o : Option Nat} {S' : Sk}, (o.map fun n => (L, Value.int (nI n) :: S', h)) = some q → nxt h ≤ nxt q.2.2 := by
    intro o S' e
    cases o with
    | none => cases e
    | some v => cases e; exact Nat.le_refl _
  have e2 : ∀ {o : Option Hp} {S' : Sk}, (∀ h', o = some h' → nxt h ≤ nxt h') → (o.map fun h' => (L, S', h')) = some q → nxt h ≤ nxt q.2.2 := by
    intro o S' e0 e
    cases o with
    | none => cases e
    | some v => cases e; exact e0 _ rfl
  have le : ∀ {x : Hp}, nxt h ≤ nxt x → ∀ {L' : Lo} {S' : Sk}, some (L', S', x) = some q → nxt h ≤ nxt q.2.2 := by
    intro x hx L' S' e
    cases e
    exact hx
  cases i <;> simp only [stepI, ldL, stV, stV2, incL, un, bin, bind0, binl, newM, newA] at H <;> (repeat' split at H) <;> first
    | (cases H; done)
    | exact le (Nat.le_refl _) H
    | exact e1 H
    | exact e3 H
    | exact e2 (fun _ => ist_nxt) H
    | exact e2 (fun _ => lst_nxt) H
    | exact e2 (fun _ => rst_nxt) H
    | exact e2 (fun _ => sfd_nxt) H
    | exact le (Nat.le_succ _) H
    | exact le (Nat.le_add_right _ _) H
    | skip
theorem ex1_one {C : CT} (hC : ∀ m args h r h', C m args h r h' → nxt h ≤ nxt h') {P : QT} {y : Nat} {K : KT} {Kn : Lo → Sk → Hp → Prop} {i : Instr} {L : Lo} {S : Sk} {h : Hp} (H : ex1 C P y K Kn i L S h) :
    (∃ pc L' S' h', nxt h ≤ nxt h' ∧ K pc L' S' h' ∧ ∀ P' K' Kn', K' pc L' S' h' → ex1 C P' y K' Kn' i L S h) ∨
    (∃ L' S' h', nxt h ≤ nxt h' ∧ Kn L' S' h' ∧ ∀ P' K' Kn', Kn' L' S' h' → ex1 C P' y K' Kn' i L S h) ∨
    (∃ r h', nxt h ≤ nxt h' ∧ P r h' ∧ ∀ P' K' Kn', P' r h' → ex1 C P' y K' Kn' i L S h) := by
  by_cases hd : isD i = true
  · rw [ex1_def hd] at H
    obtain ⟨q, hq, hk⟩ := ob_ex H
    refine Or.inr (Or.inl ⟨_, _, _, stepI_nxt hq, hk, fun P' K' Kn' z => ?_⟩)
    rw [ex1_def hd, hq]
    exact z
  · cases i <;> first | (exact absurd rfl hd) | skip
    case ifCond c t =>
      simp only [ex1] at H ⊢
      split at H
      · rcases br1_one H with ⟨a, b⟩ | ⟨a, b⟩
        · exact Or.inl ⟨_, _, _, _, Nat.le_refl _, a, fun _ _ _ z => b _ _ z⟩
        · exact Or.inr (Or.inl ⟨_, _, _, Nat.le_refl _, a, fun _ _ _ z => b _ _ z⟩)
      · exact H.elim
    case if_icmp c t =>
      simp only [ex1] at H ⊢
      split at H
      · rcases br2_one H with ⟨a, b⟩ | ⟨a, b⟩
        · exact Or.inl ⟨_, _, _, _, Nat.le_refl _, a, fun _ _ _ z => b _ _ z⟩
        · exact Or.inr (Or.inl ⟨_, _, _, Nat.le_refl _, a, fun _ _ _ z => b _ _ z⟩)
      · exact H.elim
    case goto t => exact Or.inl ⟨_, _, _, _, Nat.le_refl _, H, fun _ _ _ z => z⟩
    case tableswitch d lo hi offs =>
      simp only [ex1] at H ⊢
      split at H
      · rcases ite_one H with ⟨a, b⟩ | ⟨a, b⟩
        · exact Or.inl ⟨_, _, _, _, Nat.le_refl _, a, fun _ _ _ z => b _ _ z⟩
        · obtain ⟨v, e, w⟩ := ob_ex a
          refine Or.inl ⟨_, _, _, _, Nat.le_refl _, w, fun _ K' _ z => b _ _ ?_⟩
          rw [e]
          exact z
      · exact H.elim
    case lookupswitch d ps =>
      simp only [ex1] at H ⊢
      split at H
      · exact Or.inl ⟨_, _, _, _, Nat.le_refl _, H, fun _ _ _ z => z⟩
      · exact H.elim
    case ireturn =>
      simp only [ex1] at H ⊢
      split at H
      · exact Or.inr (Or.inr ⟨_, _, Nat.le_refl _, H.2, fun _ _ _ z => ⟨H.1, z⟩⟩)
      · exact H.elim
    case lreturn =>
      simp only [ex1] at H ⊢
      split at H
      · exact Or.inr (Or.inr ⟨_, _, Nat.le_refl _, H.2, fun _ _ _ z => ⟨H.1, z⟩⟩)
      · exact H.elim
    case return_ =>
      simp only [ex1] at H ⊢
      split at H
      · exact Or.inr (Or.inr ⟨_, _, Nat.le_refl _, H.2, fun _ _ _ z => ⟨H.1, z⟩⟩)
      · exact H.elim
    case invokeinterface m k =>
      simp only [ex1] at H ⊢
      obtain ⟨q, hq, h4, r, h', hc, hk⟩ := ob_ex H
      refine Or.inr (Or.inl ⟨_, _, _, hC _ _ _ _ _ hc, hk, fun _ _ _ z => ?_⟩)
      rw [hq]
      exact ⟨h4, r, h', hc, z⟩
theorem exI_one {C : CT} (hC : ∀ m args h r h', C m args h r h' → nxt h ≤ nxt h') {P : QT} {y : Nat} {K : KT} {pc : Nat} {L : Lo} {S : Sk} {h : Hp} (H : exI C P y K pc L S h) :
    (∃ pc' L' S' h', nxt h ≤ nxt h' ∧ K pc' L' S' h' ∧ ∀ P' K', K' pc' L' S' h' → exI C P' y K' pc L S h) ∨
    (∃ r h', nxt h ≤ nxt h' ∧ P r h' ∧ ∀ P' K', P' r h' → exI C P' y K' pc L S h) := by
  obtain ⟨q, hq, hk⟩ := ob_ex H
  rcases ex1_one hC hk with ⟨a, b, c, d, e, f, g⟩ | ⟨b, c, d, e, f, g⟩ | ⟨b, c, d, e, g⟩
  · exact Or.inl ⟨a, b, c, d, e, f, fun P' K' z => by unfold exI; rw [hq]; exact g _ _ _ z⟩
  · exact Or.inl ⟨_, b, c, d, e, f, fun P' K' z => by unfold exI; rw [hq]; exact g _ _ _ z⟩
  · exact Or.inr ⟨b, c, d, e, fun P' K' z => by unfold exI; rw [hq]; exact g _ _ _ z⟩
theorem wpF_wit {C : CT} (hC : ∀ m args h r h', C m args h r h' → nxt h ≤ nxt h') {P : QT} {y : Nat} : ∀ (n pc : Nat) (L : Lo) (S : Sk) (h : Hp), wpF C P y n pc L S h → ∃ r h', nxt h ≤ nxt h' ∧ P r h' ∧ wpF C (fun r1 h1 => r1 = r ∧ h1 = h') y n pc L S h := by
  intro n
  induction n with
  | zero => intro pc L S h H; exact H.elim
  | succ n ih =>
    intro pc L S h H
    rcases exI_one hC H with ⟨a, b, c, d, e, f, g⟩ | ⟨b, c, d, e, g⟩
    · obtain ⟨r, h', h1, h2, h3⟩ := ih _ _ _ _ f
      exact ⟨r, h', Nat.le_trans e h1, h2, g _ _ h3⟩
    · exact ⟨b, c, d, e, g _ _ ⟨rfl, rfl⟩⟩
theorem ev_nxt : ∀ (d m : Nat) (args : List Value) (h : Hp) (r : Option Value) (h' : Hp), ev d m args h r h' → nxt h ≤ nxt h' := by
  intro d
  induction d with
  | zero => intro m args h r h' H; exact H.elim
  | succ d ih =>
    intro m args h r h' H
    simp only [ev] at H
    split at H
    · obtain ⟨a, b, sp, dp, n, -, -, -, -, -, -, -, -, -, -, -, rfl⟩ := H
      exact Nat.le_refl _
    · split at H
      · obtain ⟨-, -, rfl⟩ := H
        exact Nat.le_refl _
      · split at H
        · obtain ⟨_, _, -, -, rfl⟩ := H
          exact Nat.le_refl _
        · split at H
          · obtain ⟨_, _, -, -, rfl⟩ := H
            exact Nat.le_refl _
          · obtain ⟨-, -, -, n, H⟩ := H
            obtain ⟨r1, h1, e, ⟨-, rfl⟩, -⟩ := wpF_wit ih _ _ _ _ _ H
            exact e
theorem wp_u {d : Nat} {P : QT} {y : Nat} {pc : Nat} {L : Lo} {S : Sk} {h : Hp} : wp (ev d) P y pc L S h = exI (ev d) P y (wp (ev d) P y) pc L S h := by
  refine propext ⟨fun ⟨n, H⟩ => ?_, fun H => ?_⟩
  · cases n with
    | zero => exact H.elim
    | succ n =>
      rcases exI_one (ev_nxt d) H with ⟨a, b, c, d, e, f, g⟩ | ⟨b, c, d, e, g⟩
      · exact g _ _ ⟨n, f⟩
      · exact g _ _ e
  · rcases exI_one (ev_nxt d) H with ⟨a, b, c, d, e, ⟨n, f⟩, g⟩ | ⟨b, c, d, e, g⟩
    · exact ⟨n + 1, g _ _ f⟩
    · exact ⟨1, g _ _ e⟩
theorem wp_wit {d : Nat} {P : QT} {y : Nat} {pc : Nat} {L : Lo} {S : Sk} {h : Hp} (H : wp (ev d) P y pc L S h) : ∃ r h', P r h' ∧ ∃ n, wpF (ev d) (fun r1 h1 => r1 = r ∧ h1 = h') y n pc L S h := by
  obtain ⟨n, H⟩ := H
  obtain ⟨r, h', -, h2, h3⟩ := wpF_wit (ev_nxt d) _ _ _ _ _ H
  exact ⟨r, h', h2, n, h3⟩
/-- a call is its body -/
theorem call_in {d y : Nat} {args : List Value} {h : Hp} {P : QT} (hy : (decide (y < NB) && (args.length == mA y)) = true) (hr : rcv y args h = true) (H : wp (ev d) P y 0 (entL y args) [] h) : callC (ev (d + 1)) y args h P := by
  simp only [Bool.and_eq_true, decide_eq_true_eq, beq_iff_eq] at hy
  obtain ⟨r, h', h2, n, h3⟩ := wp_wit H
  refine ⟨r, h', ?_, h2⟩
  have n1 : y ≠ jy_cp := fun e => by have := hy.1; rw [e] at this; exact absurd this (by decide)
  have n2 : y ≠ jy_oi := fun e => by have := hy.1; rw [e] at this; exact absurd this (by decide)
  have n3 : y ≠ jm_max := fun e => by have := hy.1; rw [e] at this; exact absurd this (by decide)
  have n4 : y ≠ jm_min := fun e => by have := hy.1; rw [e] at this; exact absurd this (by decide)
  simp only [ev, if_neg n1, if_neg n2, if_neg n3, if_neg n4]
  exact ⟨hy.1, hy.2, hr, n, h3⟩
/-- what is called answers one thing -/
theorem ite_two {c : Prop} [Decidable c] {A B A' B' : Prop} (h : if c then A else B) (h' : if c then A' else B') : (A ∧ A') ∨ (B ∧ B') := by
  by_cases hc : c
  · rw [if_pos hc] at h h'
    exact Or.inl ⟨h, h'⟩
  · rw [if_neg hc] at h h'
    exact Or.inr ⟨h, h'⟩
theorem br1_two {c : ClassFile.Cond} {x : Int32} {A B A' B' : Prop} (h : br1 c x A B) (h' : br1 c x A' B') : (A ∧ A') ∨ (B ∧ B') := by
  cases c <;> first | exact ite_two h h' | exact (ite_two h h').symm
theorem br2_two {c : ClassFile.Cond} {x y : Int32} {A B A' B' : Prop} (h : br2 c x y A B) (h' : br2 c x y A' B') : (A ∧ A') ∨ (B ∧ B') := by
  cases c <;> first | exact ite_two h h' | exact (ite_two h h').symm
theorem ob_two {α : Type} {o : Option α} {K K' : α → Prop} (h : ob o K) (h' : ob o K') : ∃ v, K v ∧ K' v := by
  cases o with
  | none => exact h.elim
  | some v => exact ⟨v, h, h'⟩
theorem ex1_two {C : CT} (hC : ∀ m args h r h' r2 h2, C m args h r h' → C m args h r2 h2 → r2 = r ∧ h2 = h') {P P' : QT} {y : Nat} {K K' : KT} {Kn Kn' : Lo → Sk → Hp → Prop} {i : Instr} {L : Lo} {S : Sk} {h : Hp} (H : ex1 C P y K Kn i L S h) (H' : ex1 C P' y K' Kn' i L S h) :
    (∃ pc L' S' h', K pc L' S' h' ∧ K' pc L' S' h') ∨ (∃ L' S' h', Kn L' S' h' ∧ Kn' L' S' h') ∨ (∃ r h', P r h' ∧ P' r h') := by
  by_cases hd : isD i = true
  · rw [ex1_def hd] at H H'
    obtain ⟨q, a, b⟩ := ob_two H H'
    exact Or.inr (Or.inl ⟨_, _, _, a, b⟩)
  · cases i <;> first | (exact absurd rfl hd) | skip
    case ifCond c t =>
      simp only [ex1] at H H'
      split at H
      · rcases br1_two H H' with ⟨a, b⟩ | ⟨a, b⟩
        · exact Or.inl ⟨_, _, _, _, a, b⟩
        · exact Or.inr (Or.inl ⟨_, _, _, a, b⟩)
      · exact H.elim
    case if_icmp c t =>
      simp only [ex1] at H H'
      split at H
      · rcases br2_two H H' with ⟨a, b⟩ | ⟨a, b⟩
        · exact Or.inl ⟨_, _, _, _, a, b⟩
        · exact Or.inr (Or.inl ⟨_, _, _, a, b⟩)
      · exact H.elim
    case goto t => exact Or.inl ⟨_, _, _, _, H, H'⟩
    case tableswitch d lo hi offs =>
      simp only [ex1] at H H'
      split at H
      · rcases ite_two H H' with ⟨a, b⟩ | ⟨a, b⟩
        · exact Or.inl ⟨_, _, _, _, a, b⟩
        · obtain ⟨v, e, w⟩ := ob_two a b
          exact Or.inl ⟨_, _, _, _, e, w⟩
      · exact H.elim
    case lookupswitch d ps =>
      simp only [ex1] at H H'
      split at H
      · exact Or.inl ⟨_, _, _, _, H, H'⟩
      · exact H.elim
    case ireturn =>
      simp only [ex1] at H H'
      split at H
      · exact Or.inr (Or.inr ⟨_, _, H.2, H'.2⟩)
      · exact H.elim
    case lreturn =>
      simp only [ex1] at H H'
      split at H
      · exact Or.inr (Or.inr ⟨_, _, H.2, H'.2⟩)
      · exact H.elim
    case return_ =>
      simp only [ex1] at H H'
      split at H
      · exact Or.inr (Or.inr ⟨_, _, H.2, H'.2⟩)
      · exact H.elim
    case invokeinterface m k =>
      simp only [ex1] at H H'
      obtain ⟨q, ⟨-, r, h', hc, hk⟩, -, r2, h2, hc2, hk2⟩ := ob_two H H'
      obtain ⟨rfl, rfl⟩ := hC _ _ _ _ _ _ _ hc hc2
      exact Or.inr (Or.inl ⟨_, _, _, hk, hk2⟩)
theorem wpF_det {C : CT} (hC : ∀ m args h r h' r2 h2, C m args h r h' → C m args h r2 h2 → r2 = r ∧ h2 = h') {P Q : QT} {y : Nat} : ∀ (n k pc : Nat) (L : Lo) (S : Sk) (h : Hp), wpF C P y n pc L S h → wpF C Q y k pc L S h → ∃ r h', P r h' ∧ Q r h' := by
  intro n
  induction n with
  | zero => intro k pc L S h H; exact H.elim
  | succ n ih =>
    intro k pc L S h H H'
    cases k with
    | zero => exact H'.elim
    | succ k =>
      obtain ⟨q, a, b⟩ := ob_two H H'
      rcases ex1_two hC a b with ⟨_, _, _, _, u, v⟩ | ⟨_, _, _, u, v⟩ | u
      · exact ih _ _ _ _ _ u v
      · exact ih _ _ _ _ _ u v
      · exact u
theorem ev_det : ∀ (d m : Nat) (args : List Value) (h : Hp) (r : Option Value) (h' : Hp) (r2 : Option Value) (h2 : Hp), ev d m args h r h' → ev d m args h r2 h2 → r2 = r ∧ h2 = h' := by
  intro d
  induction d with
  | zero => intro m args h r h' r2 h2 H; exact H.elim
  | succ d ih =>
    intro m args h r h' r2 h2 H H'
    simp only [ev] at H H'
    split at H
    · rename_i hm
      rw [if_pos hm] at H'
      obtain ⟨a, b, sp, dp, n, q1, q2, q3, e1, -, -, -, -, -, -, rfl, rfl⟩ := H
      obtain ⟨a', b', sp', dp', n', p1, p2, p3, e2, -, -, -, -, -, -, rfl, rfl⟩ := H'
      rw [e1] at e2
      simp only [List.cons.injEq, Value.ref.injEq, Value.int.injEq, and_true] at e2
      obtain ⟨rfl, e3, rfl, e4, e5⟩ := e2
      have f3 := (nI_eq q1 p1).mp e3
      have f4 := (nI_eq q2 p2).mp e4
      have f5 := (nI_eq q3 p3).mp e5
      subst f3 f4 f5
      exact ⟨rfl, rfl⟩
    · rename_i hm
      rw [if_neg hm] at H'
      split at H
      · rename_i hm2
        rw [if_pos hm2] at H'
        obtain ⟨-, rfl, rfl⟩ := H
        exact H'.2
      · rename_i hm2
        rw [if_neg hm2] at H'
        have mm : ∀ {f : Int32 → Int32 → Int32}, (∃ a b : Int32, args = [.int a, .int b] ∧ r = some (.int (f a b)) ∧ h' = h) → (∃ a b : Int32, args = [.int a, .int b] ∧ r2 = some (.int (f a b)) ∧ h2 = h) → r2 = r ∧ h2 = h' := by
          rintro f ⟨a, b, e, rfl, rfl⟩ ⟨a', b', e', rfl, rfl⟩
          rw [e] at e'
          simp only [List.cons.injEq, Value.int.injEq, and_true] at e'
          obtain ⟨rfl, rfl⟩ := e'
          exact ⟨rfl, rfl⟩
        split at H
        · rename_i hm3
          rw [if_pos hm3] at H'
          exact mm H H'
        · rename_i hm3
          rw [if_neg hm3] at H'
          split at H
          · rename_i hm4
            rw [if_pos hm4] at H'
            exact mm H H'
          · rename_i hm4
            rw [if_neg hm4] at H'
            obtain ⟨-, -, -, n, H⟩ := H
            obtain ⟨-, -, -, k, H'⟩ := H'
            obtain ⟨r3, h3, ⟨rfl, rfl⟩, rfl, rfl⟩ := wpF_det ih _ _ _ _ _ _ H H'
            exact ⟨rfl, rfl⟩
/-- a call whose answer is known -/
theorem call_eq {d m : Nat} {args : List Value} {h : Hp} {r : Option Value} {h' : Hp} (H : callC (ev d) m args h fun r1 h1 => r1 = r ∧ h1 = h') {P : QT} : callC (ev d) m args h P = P r h' := by
  obtain ⟨_, _, H, rfl, rfl⟩ := H
  refine propext ⟨fun ⟨r2, h2, a, b⟩ => ?_, fun a => ⟨_, _, H, a⟩⟩
  obtain ⟨rfl, rfl⟩ := ev_det _ _ _ _ _ _ _ _ H a
  exact b
theorem call_mono {d m : Nat} {args : List Value} {h : Hp} {P Q : QT} (H : callC (ev d) m args h P) (hPQ : ∀ r h', P r h' → Q r h') : callC (ev d) m args h Q := by
  obtain ⟨r, h', a, b⟩ := H
  exact ⟨r, h', a, hPQ r h' b⟩
/-- a block -/
theorem exL_nil {C : CT} {P : QT} {y : Nat} {K : KT} {L : Lo} {S : Sk} {h : Hp} : exL C P y K [] L S h = False := rfl
theorem ex1_end {C : CT} {P : QT} {y : Nat} {K : KT} {Kn Kn' : Lo → Sk → Hp → Prop} {i : Instr} (hi : isE i = true) : ex1 C P y K Kn i = ex1 C P y K Kn' i := by
  cases i <;> first | rfl | (simp [isE] at hi)
theorem sg_ok {d : Nat} {P : QT} {y : Nat} : ∀ (l : List Instr) (pc : Nat), sg y l pc = true → wp (ev d) P y pc = exL (ev d) P y (wp (ev d) P y) l := by
  intro l
  induction l with
  | nil => intro pc H; simp [sg] at H
  | cons i r ih =>
    intro pc H
    funext L S h
    rw [sg, Bool.or_eq_true] at H
    rcases H with H | H
    · simp only [Bool.and_eq_true, decide_eq_true_eq] at H
      obtain ⟨rfl, -⟩ := H
      rfl
    · rw [wp_u]
      unfold exI
      cases hf : fe y pc with
      | none => rw [hf] at H; cases H
      | some q =>
        obtain ⟨j, nx⟩ := q
        rw [hf] at H
        simp only [Bool.and_eq_true, Bool.or_eq_true, decide_eq_true_eq] at H
        obtain ⟨rfl, H⟩ := H
        show ex1 _ _ _ _ _ _ _ _ _ = ex1 _ _ _ _ _ _ _ _ _
        rcases H with H | H
        · rw [ex1_end H]
        · rw [ih nx H]
