/-! the grammar of laws, told once -/
/-- where the class's row of facts has what a name asks -/
def asI (k s : Nat) : Nat := if k = 0 then s - 1 else if s ≤ 4 then s - 1 else if s = 11 then 4 else if s = 9 then 5 else 6
def opC (s : Nat) : Nat := if s = 23 then 20043 else if s = 24 then 20045 else if s = 25 then 20042 else if s = 27 then 20060 else if s = 28 then 20061 else if s = 29 then 20062 else if s = 31 then 20001 else 20002
/-- a step as the class writes it -/
def cxO (k : Nat) (o : Nat × Nat) : List Nat := if o.1 = 0 then [o.2] else if o.1 < 13 then [10000 + asI k o.1] else if o.1 = 26 then [o.2, 20047] else if o.1 = 30 then [20003] else [opC o.1]
def cxL (k : Nat) : List (Nat × Nat) → List Nat
  | [] => []
  | o :: l => cxO k o ++ cxL k l
def cdR (c : Nat → Int32) : Nat → List Nat → Prop
  | _, [] => True
  | i, x :: l => c i = nI x ∧ cdR c (i + 1) l
theorem cdR_a {c : Nat → Int32} : ∀ {l : List Nat} {i : Nat} {l' : List Nat}, cdR c i (l ++ l') → cdR c i l ∧ cdR c (i + l.length) l'
  | [], i, l', h => ⟨trivial, h⟩
  | x :: l, i, l', h => by
    have h2 := cdR_a (l := l) (i := i + 1) (l' := l') h.2
    refine ⟨⟨h.1, h2.1⟩, ?_⟩
    rw [List.length_cons, show i + (l.length + 1) = i + 1 + l.length by omega]
    exact h2.2
theorem cdR_c {c c' : Nat → Int32} : ∀ {l : List Nat} {i : Nat}, (∀ j, c' j = c j) → cdR c i l → cdR c' i l
  | [], _, _, _ => trivial
  | _ :: l, i, e, h => ⟨by rw [e]; exact h.1, cdR_c e h.2⟩
theorem cdR_b {c c' : Nat → Int32} {N : Nat} : ∀ {l : List Nat} {i : Nat}, i + l.length ≤ N → (∀ j, j < N → c' j = c j) → cdR c i l → cdR c' i l
  | [], _, _, _, _ => trivial
  | x :: l, i, hi, e, h => by
    rw [List.length_cons] at hi
    exact ⟨by rw [e i (by omega)]; exact h.1, cdR_b (by omega) e h.2⟩
theorem cxO_p {k : Nat} {o : Nat × Nat} : 0 < (cxO k o).length := by
  unfold cxO
  repeat' split
  all_goals exact Nat.succ_pos _
abbrev Rs : Type := Sum (Nat × Nat) (List (Nat × Nat) × Nat)
def bd : Rs → (List (Nat × Nat) → Nat → Rs) → Rs
  | .inl e, _ => .inl e
  | .inr p, K => K p.1 p.2
theorem bd_i {r : Rs} {K : List (Nat × Nat) → Nat → Rs} {l : List (Nat × Nat)} {j : Nat} (h : bd r K = .inr (l, j)) : ∃ l1 j1, r = .inr (l1, j1) ∧ K l1 j1 = .inr (l, j) := by
  cases r with
  | inl e => cases h
  | inr p => exact ⟨p.1, p.2, rfl, h⟩
theorem bd_l {r : Rs} {K : List (Nat × Nat) → Nat → Rs} {e : Nat × Nat} (h : r = .inl e) : bd r K = .inl e := by
  rw [h]
  rfl
theorem bd_r {r : Rs} {K : List (Nat × Nat) → Nat → Rs} {l : List (Nat × Nat)} {j : Nat} (h : r = .inr (l, j)) : bd r K = K l j := by
  rw [h]
  rfl
def ap (l : List (Nat × Nat)) (r : Rs) : Rs := bd r fun l2 j => .inr (l ++ l2, j)
theorem ap_i {l l2 : List (Nat × Nat)} {r : Rs} {j : Nat} (h : ap l r = .inr (l2, j)) : ∃ l1, r = .inr (l1, j) ∧ l2 = l ++ l1 := by
  obtain ⟨l1, j1, h1, h2⟩ := bd_i h
  cases h2
  exact ⟨l1, h1, rfl⟩
theorem ap_l {l : List (Nat × Nat)} {r : Rs} {e : Nat × Nat} (h : r = .inl e) : ap l r = .inl e := bd_l h
theorem ap_r {l l1 : List (Nat × Nat)} {r : Rs} {j : Nat} (h : r = .inr (l1, j)) : ap l r = .inr (l ++ l1, j) := bd_r h
theorem ap_0 {r : Rs} : ap [] r = r := by
  cases r with
  | inl e => rfl
  | inr p => rfl
theorem ap_ap {a b : List (Nat × Nat)} {r : Rs} : ap a (ap b r) = ap (a ++ b) r := by
  cases r with
  | inl e => rfl
  | inr p =>
    show (Sum.inr (a ++ (b ++ p.1), p.2) : Rs) = Sum.inr (a ++ b ++ p.1, p.2)
    rw [List.append_assoc]
theorem ap_bd {a : List (Nat × Nat)} {r : Rs} {K : List (Nat × Nat) → Nat → Rs} : ap a (bd r K) = bd r fun l j => ap a (K l j) := by
  cases r with
  | inl e => rfl
  | inr p => rfl
theorem bd_ap {a : List (Nat × Nat)} {r : Rs} {K : List (Nat × Nat) → Nat → Rs} : bd (ap a r) K = bd r fun l j => K (a ++ l) j := by
  cases r with
  | inl e => rfl
  | inr p => rfl
theorem bd_bd {r : Rs} {K K2 : List (Nat × Nat) → Nat → Rs} : bd (bd r K) K2 = bd r fun l j => bd (K l j) K2 := by
  cases r with
  | inl e => rfl
  | inr p => rfl
theorem tyL_ap : ∀ {a b : List (Nat × Nat)} {ts : List Bool}, tyL (a ++ b) ts = (tyL a ts).bind (tyL b)
  | [], _, _ => rfl
  | o :: a, b, ts => by
    show (ty1 o ts).bind (tyL (a ++ b)) = ((ty1 o ts).bind (tyL a)).bind (tyL b)
    cases ty1 o ts with
    | none => rfl
    | some t => exact tyL_ap (a := a) (b := b) (ts := t)
theorem cxL_ap {k : Nat} : ∀ {a b : List (Nat × Nat)}, cxL k (a ++ b) = cxL k a ++ cxL k b
  | [], _ => rfl
  | o :: a, b => by
    show cxO k o ++ cxL k (a ++ b) = cxO k o ++ cxL k a ++ cxL k b
    rw [cxL_ap (a := a) (b := b), List.append_assoc]
theorem cxL_ln {k : Nat} : ∀ {a : List (Nat × Nat)}, a.length ≤ (cxL k a).length
  | [] => Nat.le_refl 0
  | o :: a => by
    show a.length + 1 ≤ (cxO k o ++ cxL k a).length
    have h1 := cxL_ln (k := k) (a := a)
    have h2 := cxO_p (k := k) (o := o)
    rw [List.length_append]
    omega
theorem nmL_ap {ok : Nat → Bool} {a b : List (Nat × Nat)} (h : nmL ok a) (h' : nmL ok b) : nmL ok (a ++ b) := fun o ho => (List.mem_append.mp ho).elim (h o) (h' o)
theorem nmL_0 {ok : Nat → Bool} : nmL ok [] := fun _ h => absurd h List.not_mem_nil
theorem nmL_1 {ok : Nat → Bool} {o : Nat × Nat} (h : o.1 < 13 → o.1 ≠ 0 → ok o.1 = true) : nmL ok [o] := fun x hx => by
  rw [List.mem_singleton.mp hx]
  exact h
theorem cdR_ap {c : Nat → Int32} : ∀ {l : List Nat} {i : Nat} {l' : List Nat}, cdR c i l → cdR c (i + l.length) l' → cdR c i (l ++ l')
  | [], i, l', _, h => h
  | x :: l, i, l', h, h' => ⟨h.1, cdR_ap (l := l) h.2 (by rw [List.length_cons, show i + (l.length + 1) = i + 1 + l.length by omega] at h'; exact h')⟩
def okk (k : Nat) : Nat → Bool := if k = 1 then okV else okM
section GR
variable (T : Nat → Nat) (n k : Nat)
def unF (i : Nat) : Rs := if kC T n k i = 2 then .inr ([(0, kN T n i)], i + 1) else if 41 ≤ kC T n k i ∧ kC T n k i ≤ 52 then .inr ([(kC T n k i - 40, 0)], i + 1) else .inl (1, i)
def pdL : Nat → Nat → Rs
  | 0, i => .inl (0, i)
  | f + 1, i => if kC T n k i = 142 then bd (unF T n k (i + 1)) fun l j => ap (l ++ [(25, 0)]) (pdL f j)
    else if kC T n k i = 147 then (if kC T n k (i + 1) ≠ 2 then .inl (1, i + 1) else if kN T n (i + 1) = 0 then .inl (2, i + 1) else ap [(26, kN T n (i + 1))] (pdL f (i + 2)))
    else .inr ([], i)
def pdF (i : Nat) : Rs := bd (unF T n k i) fun l j => ap l (pdL T n k 401 j)
def smL : Nat → Nat → Rs
  | 0, i => .inl (0, i)
  | f + 1, i => if kC T n k i = 143 ∨ kC T n k i = 145 then bd (pdF T n k (i + 1)) fun l j => ap (l ++ [(if kC T n k i = 143 then 23 else 24, 0)]) (smL f j) else .inr ([], i)
def smF (i : Nat) : Rs := bd (pdF T n k i) fun l j => ap l (smL T n k 401 j)
def lpL (c o : Nat) (F : Nat → Rs) : Nat → Nat → Rs
  | 0, i => .inl (0, i)
  | f + 1, i => if kC T n k i = c then bd (F (i + 1)) fun l j => ap (l ++ [(o, 0)]) (lpL c o F f j) else .inr ([], i)
def lpF (c o : Nat) (F : Nat → Rs) (i : Nat) : Rs := bd (F i) fun l j => ap l (lpL T n k c o F 401 j)
def evF (F : Nat → Rs) : Nat → Rs := lpF T n k 5 31 F
def anF (F : Nat → Rs) : Nat → Rs := lpF T n k 4 32 (evF T n k F)
def cmF_ (i : Nat) : Rs := bd (smF T n k i) fun l j => if 160 ≤ kC T n k j ∧ kC T n k j ≤ 162 then bd (smF T n k (j + 1)) fun l2 j2 => .inr (l ++ l2 ++ [(kC T n k j - 133, 0)], j2) else .inl (1, j)
def oneF : Nat → Nat → Rs
  | 0, i => if kC T n k i = 6 ∨ kC T n k i = 140 then .inl (3, i) else cmF_ T n k i
  | r + 1, i => if kC T n k i = 6 then bd (oneF r (i + 1)) fun l j => .inr (l ++ [(30, 0)], j)
    else if kC T n k i = 140 then bd (anF T n k (oneF r) (i + 1)) fun l j => if kC T n k j = 141 then .inr (l, j + 1) else .inl (1, j)
    else cmF_ T n k i
def whF (j : Nat) : Rs := if kC T n k j = 3 then anF T n k (oneF T n k 8) (j + 1) else .inr ([], j)
end GR
/-- what a part's steps are: where it ends, how long, which names, which sort -/
def okR (n k : Nat) (t : Bool) (D i : Nat) (l : List (Nat × Nat)) (j : Nat) : Prop := i < j ∧ j ≤ n ∧ i + (cxL (k - 1) l).length ≤ j ∧ nmL (okk k) l ∧ ∀ ts : List Bool, ts.length + D ≤ 40 → tyL l ts = some (t :: ts)
def okL (n k : Nat) (t : Bool) (D i : Nat) (l : List (Nat × Nat)) (j : Nat) : Prop := i ≤ j ∧ j ≤ n ∧ i + (cxL (k - 1) l).length ≤ j ∧ nmL (okk k) l ∧ ∀ ts : List Bool, ts.length + D ≤ 40 → tyL l (t :: ts) = some (t :: ts)
section GK
variable {T : Nat → Nat} {n k : Nat}
theorem kN_l {i : Nat} : kN T n i ≤ 9999 := by
  have h := (nmF_l (T := T) (b := tB T n (pz T n i)) (scn (fun i => dgt (T i)) n (tB T n (pz T n i)) - tB T n (pz T n i)) fun x hx => (scn_i (p := fun i => dgt (T i)) (n := n) (x := tB T n (pz T n i))).2.2 _ (by omega) (by omega)).2
  have e : kN T n i = nmF T (tB T n (pz T n i)) (scn (fun i => dgt (T i)) n (tB T n (pz T n i)) - tB T n (pz T n i)) := rfl
  omega
theorem kC_c (hk : k < 3) {i : Nat} : kC T n k i = 0 ∨ kC T n k i = 1 ∨ kC T n k i = 2 ∨ 100 ≤ kC T n k i ∨ ∃ m, m < WN k ∧ kC T n k i = CT_ k m := by
  unfold kC tC
  split
  · exact Or.inl rfl
  · split
    · rcases wcd_i (T := T) (b := tB T n (pz T n i)) (e := scn (fun i => ltr (T i)) n (tB T n (pz T n i))) hk with e | ⟨m, hm, e, -⟩
      · exact Or.inr (Or.inl e)
      · exact Or.inr (Or.inr (Or.inr (Or.inr ⟨m, hm, e⟩)))
    · split
      · split
        · exact Or.inr (Or.inr (Or.inl rfl))
        · exact Or.inr (Or.inl rfl)
      · split
        · exact Or.inr (Or.inr (Or.inr (Or.inl (Nat.le_add_right ..))))
        · exact Or.inr (Or.inl rfl)
theorem ok_ck : ((List.range 2).all fun k => (List.range (WN (k + 1))).all fun m => !(decide (41 ≤ CT_ (k + 1) m)) || (decide (CT_ (k + 1) m ≤ 52) && decide (5 ≤ m) && okk (k + 1) (CT_ (k + 1) m - 40) && decide (asI k (CT_ (k + 1) m - 40) = m - 5))) = true := by decide +kernel
/-- a name -/
theorem nm_ok (hk0 : 1 ≤ k) (hk : k < 3) {m : Nat} (hm : m < WN k) (h : 41 ≤ CT_ k m) : CT_ k m ≤ 52 ∧ 5 ≤ m ∧ okk k (CT_ k m - 40) = true ∧ asI (k - 1) (CT_ k m - 40) = m - 5 := by
  obtain ⟨k', rfl⟩ : ∃ k', k = k' + 1 := ⟨k - 1, by omega⟩
  have h1 := List.all_eq_true.mp (List.all_eq_true.mp ok_ck k' (List.mem_range.mpr (by omega))) m (List.mem_range.mpr hm)
  rw [decide_eq_true h, Bool.not_true, Bool.false_or, Bool.and_eq_true, Bool.and_eq_true, Bool.and_eq_true] at h1
  exact ⟨of_decide_eq_true h1.1.1.1, of_decide_eq_true h1.1.1.2, h1.1.2, of_decide_eq_true h1.2⟩
theorem wd_5 (hk0 : 1 ≤ k) (hk : k < 3) {m : Nat} (hm : m < WN k) : 5 ≤ m → 41 ≤ CT_ k m := by
  have h : ((List.range 2).all fun k => (List.range (WN (k + 1))).all fun m => !(decide (5 ≤ m)) || decide (41 ≤ CT_ (k + 1) m)) = true := by decide +kernel
  obtain ⟨k', rfl⟩ : ∃ k', k = k' + 1 := ⟨k - 1, by omega⟩
  have h1 := List.all_eq_true.mp (List.all_eq_true.mp h k' (List.mem_range.mpr (by omega))) m (List.mem_range.mpr hm)
  intro h5
  rw [decide_eq_true h5, Bool.not_true, Bool.false_or] at h1
  exact of_decide_eq_true h1
theorem okR_D {t : Bool} {D D' i j : Nat} {l : List (Nat × Nat)} (hD : D ≤ D') (h : okR n k t D i l j) : okR n k t D' i l j := ⟨h.1, h.2.1, h.2.2.1, h.2.2.2.1, fun ts hts => h.2.2.2.2 ts (by omega)⟩
theorem okR_L {t : Bool} {D i j j' : Nat} {l l' : List (Nat × Nat)} (h : okR n k t D i l j) (h' : okL n k t D j l' j') : okR n k t D i (l ++ l') j' := by
  obtain ⟨a1, a2, a3, a4, a5⟩ := h
  obtain ⟨b1, b2, b3, b4, b5⟩ := h'
  refine ⟨by omega, b2, ?_, nmL_ap a4 b4, fun ts hts => ?_⟩
  · rw [cxL_ap, List.length_append]
    omega
  · rw [tyL_ap, a5 ts hts]
    exact b5 ts hts
theorem okL_0 {t : Bool} {D i : Nat} (hi : i ≤ n) : okL n k t D i [] i := ⟨Nat.le_refl _, hi, Nat.le_refl _, nmL_0, fun _ _ => rfl⟩
/-- one more part and its work -/
theorem okL_s {t : Bool} {D i j j' s : Nat} {l l' : List (Nat × Nat)} (h : okR n k t D (i + 1) l j) (hs : 13 ≤ s ∧ s ≠ 26 ∧ s ≠ 30) (hs2 : ∀ ts, ty1 (s, 0) (t :: t :: ts) = some (t :: ts)) (h' : okL n k t (D + 1) j l' j') : okL n k t (D + 1) i (l ++ [(s, 0)] ++ l') j' := by
  obtain ⟨a1, a2, a3, a4, a5⟩ := h
  obtain ⟨b1, b2, b3, b4, b5⟩ := h'
  have e1 : (cxL (k - 1) [(s, 0)]).length = 1 := by
    show (cxO (k - 1) (s, 0) ++ []).length = 1
    unfold cxO
    rw [if_neg (by show ¬ s = 0; omega), if_neg (by show ¬ s < 13; omega), if_neg hs.2.1, if_neg hs.2.2]
    rfl
  refine ⟨by omega, b2, ?_, nmL_ap (nmL_ap a4 (nmL_1 fun h => absurd h (by show ¬ s < 13; omega))) b4, fun ts hts => ?_⟩
  · rw [cxL_ap, cxL_ap, List.length_append, List.length_append, e1]
    omega
  · rw [tyL_ap, tyL_ap, a5 (t :: ts) (by rw [List.length_cons]; omega)]
    show ((ty1 (s, 0) (t :: t :: ts)).bind (tyL [])).bind (tyL l') = _
    rw [hs2]
    exact b5 ts hts
theorem unF_k (hk0 : 1 ≤ k) (hk : k < 3) {i j : Nat} {l : List (Nat × Nat)} (h : unF T n k i = .inr (l, j)) : okR n k false 1 i l j := by
  unfold unF at h
  split at h
  next h1 =>
    cases h
    have hi := kC_l (T := T) (n := n) (i := i) hk (by omega)
    refine ⟨by omega, by omega, Nat.le_refl _, nmL_1 fun _ h => absurd rfl h, fun ts hts => ?_⟩
    show (ty1 (0, kN T n i) ts).bind (tyL []) = _
    unfold ty1
    rw [if_pos (by decide : (0 : Nat) < 13), if_pos ⟨by omega, fun _ => kN_l⟩]
    rfl
  next h1 =>
    split at h
    next h2 =>
      cases h
      have hi := kC_l (T := T) (n := n) (i := i) hk (by omega)
      have hn : okk k (kC T n k i - 40) = true := by
        rcases kC_c (T := T) (n := n) (i := i) hk with e | e | e | e | ⟨m, hm, e⟩
        · omega
        · omega
        · omega
        · omega
        · rw [e]
          exact (nm_ok hk0 hk hm (by omega)).2.2.1
      have e1 : (cxL (k - 1) [(kC T n k i - 40, 0)]).length = 1 := by
        show (cxO (k - 1) (kC T n k i - 40, 0) ++ []).length = 1
        unfold cxO
        rw [if_neg (by show ¬ kC T n k i - 40 = 0; omega), if_pos (by show kC T n k i - 40 < 13; omega)]
        rfl
      refine ⟨by omega, by omega, by rw [e1]; exact Nat.le_refl _, nmL_1 fun _ _ => hn, fun ts hts => ?_⟩
      show (ty1 (kC T n k i - 40, 0) ts).bind (tyL []) = _
      unfold ty1
      rw [if_pos (by show kC T n k i - 40 < 13; omega), if_pos ⟨by omega, fun _ => Nat.zero_le _⟩]
      rfl
    next h2 => cases h
theorem pdL_k (hk0 : 1 ≤ k) (hk : k < 3) : ∀ (f i : Nat) {j : Nat} {l : List (Nat × Nat)}, i ≤ n → pdL T n k f i = .inr (l, j) → okL n k false 2 i l j
  | 0, i, j, l, _, h => by cases h
  | f + 1, i, j, l, hi, h => by
    unfold pdL at h
    split at h
    next h1 =>
      obtain ⟨l1, j1, e1, e2⟩ := bd_i h
      obtain ⟨l2, e3, rfl⟩ := ap_i e2
      have hu := unF_k hk0 hk e1
      exact okL_s hu (by decide) (fun ts => rfl) (pdL_k hk0 hk f j1 hu.2.1 e3)
    next h1 =>
      split at h
      next h2 =>
        split at h
        next h3 => cases h
        next h3 =>
          split at h
          next h4 => cases h
          next h4 =>
            obtain ⟨l2, e3, rfl⟩ := ap_i h
            have hc : kC T n k (i + 1) = 2 := Classical.byContradiction fun h => h3 h
            have hi2 := kC_l (T := T) (n := n) (i := i + 1) hk (by omega)
            obtain ⟨b1, b2, b3, b4, b5⟩ := pdL_k hk0 hk f (i + 2) (by omega) e3
            refine ⟨by omega, b2, ?_, nmL_ap (nmL_1 fun h => absurd (show 26 < 13 from h) (by decide)) b4, fun ts hts => ?_⟩
            · rw [cxL_ap, List.length_append]
              show i + (2 + _) ≤ j
              omega
            · rw [tyL_ap]
              show ((ty1 (26, kN T n (i + 1)) (false :: ts)).bind (tyL [])).bind (tyL l2) = _
              have : ty1 (26, kN T n (i + 1)) (false :: ts) = some (false :: ts) := by
                unfold ty1
                show (if 1 ≤ kN T n (i + 1) ∧ kN T n (i + 1) ≤ 9999 then some (false :: ts) else none) = _
                rw [if_pos ⟨by omega, kN_l⟩]
              rw [this]
              exact b5 ts hts
      next h2 =>
        cases h
        exact okL_0 hi
theorem pdF_k (hk0 : 1 ≤ k) (hk : k < 3) {i j : Nat} {l : List (Nat × Nat)} (h : pdF T n k i = .inr (l, j)) : okR n k false 2 i l j := by
  obtain ⟨l1, j1, e1, e2⟩ := bd_i h
  obtain ⟨l2, e3, rfl⟩ := ap_i e2
  have hu := unF_k hk0 hk e1
  exact okR_L (okR_D (by decide) hu) (pdL_k hk0 hk 401 j1 hu.2.1 e3)
theorem smL_k (hk0 : 1 ≤ k) (hk : k < 3) : ∀ (f i : Nat) {j : Nat} {l : List (Nat × Nat)}, i ≤ n → smL T n k f i = .inr (l, j) → okL n k false 3 i l j
  | 0, i, j, l, _, h => by cases h
  | f + 1, i, j, l, hi, h => by
    unfold smL at h
    split at h
    next h1 =>
      obtain ⟨l1, j1, e1, e2⟩ := bd_i h
      obtain ⟨l2, e3, rfl⟩ := ap_i e2
      have hu := pdF_k hk0 hk e1
      have hr := smL_k hk0 hk f j1 hu.2.1 e3
      by_cases h3 : kC T n k i = 143
      · rw [if_pos h3]
        exact okL_s hu (by decide) (fun ts => rfl) hr
      · rw [if_neg h3]
        exact okL_s hu (by decide) (fun ts => rfl) hr
    next h1 =>
      cases h
      exact okL_0 hi
theorem smF_k (hk0 : 1 ≤ k) (hk : k < 3) {i j : Nat} {l : List (Nat × Nat)} (h : smF T n k i = .inr (l, j)) : okR n k false 3 i l j := by
  obtain ⟨l1, j1, e1, e2⟩ := bd_i h
  obtain ⟨l2, e3, rfl⟩ := ap_i e2
  have hu := pdF_k hk0 hk e1
  exact okR_L (okR_D (by decide) hu) (smL_k hk0 hk 401 j1 hu.2.1 e3)
theorem lpL_k {c o D : Nat} {F : Nat → Rs} (ho : o = 31 ∨ o = 32) (hF : ∀ i l j, F i = .inr (l, j) → okR n k true D i l j) : ∀ (f i : Nat) {j : Nat} {l : List (Nat × Nat)}, i ≤ n → lpL T n k c o F f i = .inr (l, j) → okL n k true (D + 1) i l j
  | 0, i, j, l, _, h => by cases h
  | f + 1, i, j, l, hi, h => by
    unfold lpL at h
    split at h
    next h1 =>
      obtain ⟨l1, j1, e1, e2⟩ := bd_i h
      obtain ⟨l2, e3, rfl⟩ := ap_i e2
      have hu := hF _ _ _ e1
      exact okL_s hu (by omega) (fun ts => by rcases ho with rfl | rfl <;> rfl) (lpL_k ho hF f j1 hu.2.1 e3)
    next h1 =>
      cases h
      exact okL_0 hi
theorem lpF_k {c o D : Nat} {F : Nat → Rs} (ho : o = 31 ∨ o = 32) (hF : ∀ i l j, F i = .inr (l, j) → okR n k true D i l j) {i j : Nat} {l : List (Nat × Nat)} (h : lpF T n k c o F i = .inr (l, j)) : okR n k true (D + 1) i l j := by
  obtain ⟨l1, j1, e1, e2⟩ := bd_i h
  obtain ⟨l2, e3, rfl⟩ := ap_i e2
  have hu := hF _ _ _ e1
  exact okR_L (okR_D (Nat.le_succ _) hu) (lpL_k ho hF 401 j1 hu.2.1 e3)
theorem evF_k {D : Nat} {F : Nat → Rs} (hF : ∀ i l j, F i = .inr (l, j) → okR n k true D i l j) (i : Nat) (l : List (Nat × Nat)) (j : Nat) (h : evF T n k F i = .inr (l, j)) : okR n k true (D + 1) i l j := lpF_k (Or.inl rfl) hF h
theorem anF_k {D : Nat} {F : Nat → Rs} (hF : ∀ i l j, F i = .inr (l, j) → okR n k true D i l j) (i : Nat) (l : List (Nat × Nat)) (j : Nat) (h : anF T n k F i = .inr (l, j)) : okR n k true (D + 2) i l j := lpF_k (Or.inr rfl) (evF_k hF) h
theorem cmF_k (hk0 : 1 ≤ k) (hk : k < 3) {i j : Nat} {l : List (Nat × Nat)} (h : cmF_ T n k i = .inr (l, j)) : okR n k true 4 i l j := by
  obtain ⟨l1, j1, e1, e2⟩ := bd_i h
  split at e2
  next h1 =>
    obtain ⟨l2, j2, e3, e4⟩ := bd_i e2
    cases e4
    obtain ⟨a1, a2, a3, a4, a5⟩ := smF_k hk0 hk e1
    obtain ⟨b1, b2, b3, b4, b5⟩ := smF_k hk0 hk e3
    have ho : kC T n k j1 - 133 = 27 ∨ kC T n k j1 - 133 = 28 ∨ kC T n k j1 - 133 = 29 := by omega
    generalize kC T n k j1 - 133 = o at ho
    have ec : (cxL (k - 1) [(o, 0)]).length = 1 := by rcases ho with rfl | rfl | rfl <;> rfl
    refine ⟨by omega, b2, ?_, nmL_ap (nmL_ap a4 b4) (nmL_1 fun h => absurd h (by show ¬ o < 13; omega)), fun ts hts => ?_⟩
    · rw [cxL_ap, cxL_ap, List.length_append, List.length_append, ec]
      omega
    · rw [tyL_ap, tyL_ap, a5 ts (by omega)]
      show ((tyL l2 (false :: ts)).bind (tyL [(o, 0)])) = _
      rw [b5 (false :: ts) (by rw [List.length_cons]; omega)]
      rcases ho with rfl | rfl | rfl <;> rfl
  next h1 => cases e2
theorem oneF_k (hk0 : 1 ≤ k) (hk : k < 3) : ∀ (r : Nat) (i : Nat) (l : List (Nat × Nat)) (j : Nat), oneF T n k r i = .inr (l, j) → okR n k true (4 + 2 * r) i l j
  | 0, i, l, j, h => by
    unfold oneF at h
    split at h
    next h1 => cases h
    next h1 => exact cmF_k hk0 hk h
  | r + 1, i, l, j, h => by
    unfold oneF at h
    split at h
    next h1 =>
      obtain ⟨l1, j1, e1, e2⟩ := bd_i h
      cases e2
      obtain ⟨a1, a2, a3, a4, a5⟩ := oneF_k hk0 hk r _ _ _ e1
      refine ⟨by omega, a2, ?_, nmL_ap a4 (nmL_1 fun h => absurd h (by decide)), fun ts hts => ?_⟩
      · rw [cxL_ap, List.length_append]
        show i + (_ + 1) ≤ _
        omega
      · rw [tyL_ap, a5 ts (by omega)]
        rfl
    next h1 =>
      split at h
      next h2 =>
        obtain ⟨l1, j1, e1, e2⟩ := bd_i h
        obtain ⟨a1, a2, a3, a4, a5⟩ := anF_k (oneF_k hk0 hk r) _ _ _ e1
        split at e2
        next h3 =>
          cases e2
          have hi2 := kC_l (T := T) (n := n) (i := j1) hk (by omega)
          exact ⟨by omega, by omega, by omega, a4, fun ts hts => a5 ts (by omega)⟩
        next h3 => cases e2
      next h2 => exact okR_D (by omega) (cmF_k hk0 hk h)
theorem whF_k (hk0 : 1 ≤ k) (hk : k < 3) {i j : Nat} {l : List (Nat × Nat)} (hi : i ≤ n) (h : whF T n k i = .inr (l, j)) : i ≤ j ∧ j ≤ n ∧ i + (cxL (k - 1) l).length ≤ j ∧ nmL (okk k) l ∧ (l = [] ∨ tyL l [] = some [true]) := by
  unfold whF at h
  split at h
  next h1 =>
    obtain ⟨a1, a2, a3, a4, a5⟩ := anF_k (oneF_k hk0 hk 8) _ _ _ h
    exact ⟨by omega, a2, by omega, a4, Or.inr (a5 [] (by decide))⟩
  next h1 =>
    cases h
    exact ⟨Nat.le_refl _, hi, Nat.le_refl _, nmL_0, Or.inl rfl⟩
end GK
/-! a law's lines -/
abbrev Rw : Type := Sum (Nat × Nat) LW
def bw : Rs → (List (Nat × Nat) → Nat → Rw) → Rw
  | .inl e, _ => .inl e
  | .inr p, K => K p.1 p.2
theorem bw_i {r : Rs} {K : List (Nat × Nat) → Nat → Rw} {ls : LW} (h : bw r K = .inr ls) : ∃ l1 j1, r = .inr (l1, j1) ∧ K l1 j1 = .inr ls := by
  cases r with
  | inl e => cases h
  | inr p => exact ⟨p.1, p.2, rfl, h⟩
theorem bw_l {r : Rs} {K : List (Nat × Nat) → Nat → Rw} {e : Nat × Nat} (h : r = .inl e) : bw r K = .inl e := by
  rw [h]
  rfl
theorem bw_r {r : Rs} {K : List (Nat × Nat) → Nat → Rw} {l : List (Nat × Nat)} {j : Nat} (h : r = .inr (l, j)) : bw r K = K l j := by
  rw [h]
  rfl
def cw (p : List (Nat × Nat) × List (Nat × Nat)) : Rw → Rw
  | .inl e => .inl e
  | .inr ls => .inr (p :: ls)
theorem cw_i {p : List (Nat × Nat) × List (Nat × Nat)} {r : Rw} {ls : LW} (h : cw p r = .inr ls) : ∃ l1, r = .inr l1 ∧ ls = p :: l1 := by
  cases r with
  | inl e => cases h
  | inr l => cases h; exact ⟨l, rfl, rfl⟩
theorem cw_l {p : List (Nat × Nat) × List (Nat × Nat)} {r : Rw} {e : Nat × Nat} (h : r = .inl e) : cw p r = .inl e := by
  rw [h]
  rfl
theorem cw_r {p : List (Nat × Nat) × List (Nat × Nat)} {r : Rw} {ls : LW} (h : r = .inr ls) : cw p r = .inr (p :: ls) := by
  rw [h]
  rfl
def lnF (T : Nat → Nat) (n k : Nat) : Nat → Nat → Nat → Rw
  | 0, i, _ => .inl (0, i)
  | f + 1, i, c => if kC T n k i = 0 then .inr [] else if kC T n k i ≠ 7 then .inl (1, i) else if c = 16 then .inl (3, i) else
    bw (smF T n k (i + 1)) fun A j => bw (whF T n k j) fun C j2 => if kC T n k j2 = 159 then cw (A, C) (lnF T n k f (j2 + 1) (c + 1)) else .inl (1, j2)
