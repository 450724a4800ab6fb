/-! the mini machine's heap in the machine's -/
abbrev GT : Type := (Nat × Heap) × ((Nat → ClassId) × (Nat → Nat → Nat)) × ((Nat → Nat) × (Nat → Nat)) × (Nat × Nat) × Value × (Nat × (Nat → Int32))
def gB (G : GT) : Nat := G.1.1
def gH (G : GT) : Heap := G.1.2
def gC (G : GT) : Nat → ClassId := G.2.1.1
def gI (G : GT) : Nat → Nat → Nat := G.2.1.2
def gK (G : GT) : Nat → Nat := G.2.2.1.1
def gV (G : GT) : Nat → Nat := G.2.2.1.2
def gT (G : GT) : Nat := G.2.2.2.1.1
def gS (G : GT) : Nat := G.2.2.2.1.2
def gF (G : GT) : Value := G.2.2.2.2.1
def gL (G : GT) : Nat := G.2.2.2.2.2.1
def gX (G : GT) : Nat → Int32 := G.2.2.2.2.2.2
def adr (G : GT) (a : Nat) : Nat := if a < 100000 then gB G + a else if a < 200000 then gK G (a - 100000) else if a < 300000 then gV G (a - 200000) else if a = 300000 then gT G else gS G
def re (G : GT) : Value → Value
  | .ref a => .ref (adr G a)
  | .null => gF G
  | v => v
def mvv (G : GT) : Option Nat → Value
  | none => .null
  | some b => .ref (adr G b)
def fvv (G : GT) (h : Hp) (id c k : Nat) : Value := if fy c k = 2 then mvv G (gr h id k) else .int (gi h id k)
def setv (k : Nat) : Int32 := [999, 33, 1000, 1000].getD k 0
abbrev TyS : FieldType := .object "VotedRiver$State"
def cOK (G : GT) (h : Hp) (s : State) (H : Heap) (id : Nat) : Prop :=
  ((kd id).1 = 0 → ∃ cA, ArrOfT s cA .int ∧ H[gB G + id]? = some (arrV cA (kd id).2 (fun j => .int (gi h id j)))) ∧
  ((kd id).1 = 1 → ∃ cA, ArrOfT s cA .long ∧ H[gB G + id]? = some (arrV cA (kd id).2 (fun j => .long (gl h id j)))) ∧
  ((kd id).1 = 2 → ∃ cA, (ArrOfT s cA TyS ∧ va_RA s cA TyS) ∧ H[gB G + id]? = some (arrV cA (kd id).2 (fun j => mvv G (gr h id j)))) ∧
  ((kd id).1 = 3 → ∃ cA, ArrOfT s cA (.array .int) ∧ H[gB G + id]? = some (arrV cA (kd id).2 (fun j => mvv G (gr h id j)))) ∧
  ((kd id).1 = 4 → t_OB (gB G + id) (gC G (kd id).2) (fn (kd id).2) (gI G (kd id).2) H (fun k => fvv G h id (kd id).2 k))
def HR (G : GT) (h : Hp) (s : State) (H : Heap) : Prop := H.size = gB G + nxt h ∧ nxt h ≤ NN ∧ (∀ q : Nat, q < gB G → H[q]? = (gH G)[q]?) ∧ (∀ id, id < nxt h → cOK G h s H id) ∧
  (∀ id, nxt h ≤ id → id < 100000 → ∀ k, gi h id k = 0 ∧ gl h id k = 0 ∧ gr h id k = none) ∧ (∀ k, k < 4 → gi h 300000 k = setv k) ∧ (∀ j, j < gL G → gi h 300001 j = gX G j) ∧ gi h 300002 0 = nI (gL G)
def va_AA (U : State) : Prop := (Cond.arrayOver (.array .int)).before #[] U = true
/-- what the tables and the start say, for any state of the run -/
def GF (G : GT) (s : State) : Prop :=
  (∀ c, c < 13 → u_Kn s (cn c) (ftab c) (fn c) (gC G c) (gI G c)) ∧
  va_Z "java/lang/String" "COMPACT_STRINGS" "Z" (.int 1) (fun q => gB G ≤ q) s (gH G) ∧ va_Z "jdk/internal/util/Preconditions" "SIOOBE_FORMATTER" "Ljava/util/function/BiFunction;" (gF G) (fun q => gB G ≤ q) s (gH G) ∧
  va_Z "VotedRiver" "SETTING_MOST" "[I" (.ref (gT G)) (fun q => gB G ≤ q) s (gH G) ∧ va_T .int (gT G) 4 (fun j => .int (setv j)) (fun q => gB G ≤ q) s (gH G) ∧
  vk_S 25 lenL bytL (gK G) (gV G) (fun q => gB G ≤ q) s (gH G) ∧ va_X (gS G) (gL G) (gX G) s (gH G) ∧ gS G < gB G ∧ gL G ≤ 3072 ∧
  (∀ i, i < 25 → vk_R (stL.getD i ("", 0, "")).1 (stL.getD i ("", 0, "")).2.1 (stL.getD i ("", 0, "")).2.2 (gK G i) s) ∧
  (∀ (c k m p : Nat), rsv c k = some (2, m, p) → va_Nw (.methodLinkNest (cn c) k (mN m) "VotedRiver") s) ∧ va_AO "VotedRiver$State" s ∧ va_AA s ∧ ((gF G).category = 1 ∧ gB G = (gH G).size)
theorem va_AA.moved {u U : State} (hvm : u.vm.Alike U.vm) (h : va_AA u) : va_AA U := by
  obtain ⟨comp, c, k, h1, h2, h3, h4, h5⟩ := arrayOverA_spec h
  obtain ⟨k', hk', he⟩ := hvm.2.2 _ _ h3
  have h2' := (hvm.findIdx?_eq (fun x => match x.kind with | .array component _ => component == comp | _ => false) (fun _ => rfl)).trans h2
  have hi : (U.vm.classes.findIdx? fun (x : Class) => match x.kind with | .array component _ => component == comp | _ => false) = some c := h2'
  have hkind : k'.kind = .array comp (.array .int) := by rw [he]; exact h4
  have f1 : U.vm.findClass (FieldType.array .int).toString = some comp := by rw [hvm.findClass]; exact h1
  have f2 : U.vm.findClass ("[" ++ (FieldType.array .int).toString) = some c := by rw [hvm.findClass]; exact h5
  unfold va_AA Cond.before Cond.holds
  simp only [Cond.value]
  rw [f1, Option.bind_some]
  refine (congrArg (fun o : Option Nat => (o.bind (fun c => (U.vm.classes[c]?).map fun (k : Class) => match k.kind with | .array _ ty => decide (ty = FieldType.array .int) && decide (U.vm.findClass ("[" ++ (FieldType.array .int).toString) = some c) | _ => false) == some true)) hi).trans ?_
  simp [hk', hkind, f2]
theorem GF.warm {G : GT} {s U : State} (hW : s.WarmedH U.vm) (h : GF G s) : GF G U := by
  obtain ⟨a1, a2, a3, a4, a5, a6, a7, a8, a9, a10, a11, a12, a13, a14⟩ := h
  have hv := hW.alike
  exact ⟨fun c hc => u_Kn_moved hv (a1 c hc), a2.moved hv, a3.moved hv, a4.moved hv, a5.moved hv, a6.moved hv, a7.moved hv, a8, a9, fun i hi => (a10 i hi).warm hW, fun c k m p hp => va_Nw.warmM hW (a11 c k m p hp), a12.moved hv, a13.moved hv, a14⟩
theorem cOK.moved {G : GT} {h : Hp} {u U : State} {H : Heap} {id : Nat} (hvm : u.vm.Alike U.vm) (x : cOK G h u H id) : cOK G h U H id := by
  obtain ⟨a0, a1, a2, a3, a4⟩ := x
  refine ⟨fun z => ?_, fun z => ?_, fun z => ?_, fun z => ?_, a4⟩
  · obtain ⟨cA, b1, b2⟩ := a0 z
    exact ⟨cA, arrOfT_moved hvm b1, b2⟩
  · obtain ⟨cA, b1, b2⟩ := a1 z
    exact ⟨cA, arrOfT_moved hvm b1, b2⟩
  · obtain ⟨cA, b1, b2⟩ := a2 z
    exact ⟨cA, ⟨arrOfT_moved hvm b1.1, b1.2.moved hvm⟩, b2⟩
  · obtain ⟨cA, b1, b2⟩ := a3 z
    exact ⟨cA, arrOfT_moved hvm b1, b2⟩
theorem HR.moved {G : GT} {h : Hp} {u U : State} {H : Heap} (hvm : u.vm.Alike U.vm) (x : HR G h u H) : HR G h U H :=
  ⟨x.1, x.2.1, x.2.2.1, fun id hid => (x.2.2.2.1 id hid).moved hvm, x.2.2.2.2⟩
theorem re_int {G : GT} {x : Int32} : re G (.int x) = .int x := rfl
theorem re_cat {G : GT} (hF : (gF G).category = 1) {v : Value} (h : c1 v = true) : (re G v).category = 1 := by
  cases v <;> first | rfl | exact hF | cases h
theorem re_cat2 {G : GT} (hF : (gF G).category = 1) (v : Value) : (re G v).category ≤ 2 := by
  cases v <;> first | exact Nat.le_succ 1 | exact Nat.le_refl 2 | (show (gF G).category ≤ 2; omega)
theorem re_sum {G : GT} (hF : (gF G).category = 1) : ∀ S : Sk, ((S.map (re G)).map fun v => v.category).sum ≤ szS S
  | [] => Nat.le_refl _
  | v :: S => by
    have h1 := re_cat2 hF v
    have h2 := re_sum hF S
    simp only [List.map_cons, List.sum_cons] at h2 ⊢
    cases v <;> first
      | (have e := re_cat (v := .int ‹_›) hF rfl; show _ ≤ szS S + 1; omega)
      | (have e := re_cat (v := .ref ‹_›) hF rfl; show _ ≤ szS S + 1; omega)
      | (show _ ≤ szS S + 2; omega)
/-- the locals -/
def lst_ (G : GT) (L : Lo) : List (Nat × Value) := (List.range L.length).filterMap fun i => match L[i]? with
  | some (some v) => some (i, re G v)
  | _ => none
theorem lst_mem {G : GT} {L : Lo} {i : Nat} {w : Value} : (i, w) ∈ lst_ G L ↔ ∃ v, L[i]? = some (some v) ∧ w = re G v := by
  unfold lst_
  rw [List.mem_filterMap]
  constructor
  · rintro ⟨j, -, hj⟩
    split at hj
    · rename_i v hv
      cases hj
      exact ⟨v, hv, rfl⟩
    · cases hj
  · rintro ⟨v, hv, rfl⟩
    refine ⟨i, List.mem_range.mpr (List.getElem?_eq_some_iff.mp hv).1, ?_⟩
    rw [hv]
def LR (G : GT) (L : Lo) (ls : Array Slot) (nL : Nat) : Prop := L.length = nL ∧ lv_has ls nL (lst_ G L)
theorem lv_more {ls : Array Slot} {nL : Nat} {l l' : List (Nat × Value)} (h : lv_has ls nL l) (hs : ∀ q ∈ l', q ∈ l) : lv_has ls nL l' := ⟨h.1, h.2.1, fun q hq => h.2.2 q (hs q hq)⟩
theorem getD_some {L : Lo} {k : Nat} {v : Value} (h : L.getD k none = some v) : L[k]? = some (some v) := by
  rw [List.getD_eq_getElem?_getD] at h
  cases hk : L[k]? with
  | none => rw [hk] at h; cases h
  | some x => rw [hk] at h; simp at h; rw [h]
theorem LR.get {G : GT} {L : Lo} {ls : Array Slot} {nL k : Nat} {v : Value} (h : LR G L ls nL) (hk : L.getD k none = some v) : ls[k]? = some (.val (re G v)) := h.2.2.2 (k, re G v) (lst_mem.mpr ⟨v, getD_some hk, rfl⟩)
theorem setL_len : ∀ (L : Lo) (i : Nat) (v : Value), (setL L i v).length = L.length
  | [], _, _ => rfl
  | _ :: _, 0, _ => rfl
  | [_], _ + 1, _ => rfl
  | _ :: _ :: _, 1, _ => rfl
  | a :: b :: r, n + 2, v => by
    have := setL_len (b :: r) (n + 1) v
    simp only [setL, List.length_cons] at this ⊢
    omega
theorem kl_some {x : Option Value} {u : Value} (h : kl x = some u) : x = some u ∧ u.category ≠ 2 := by
  cases x with
  | none => cases h
  | some v => cases v <;> simp [kl] at h <;> subst h <;> exact ⟨rfl, (by decide : (1 : Nat) ≠ 2)⟩
theorem setL_at : ∀ (L : Lo) (i : Nat) (v : Value) (j : Nat) (u : Value), i < L.length → (setL L i v)[j]? = some (some u) → (j = i ∧ u = v) ∨ (j ≠ i ∧ L[j]? = some (some u) ∧ (j + 1 = i → u.category ≠ 2))
  | [], _, _, _, _, _, h => by simp [setL] at h
  | a :: r, 0, v, j, u, _, h => by
    cases j with
    | zero => simp [setL] at h; exact Or.inl ⟨rfl, h.symm⟩
    | succ j => simp [setL] at h; exact Or.inr ⟨by omega, by simpa using h, by omega⟩
  | [a], n + 1, v, j, u, hi, h => by simp at hi
  | a :: b :: r, 1, v, j, u, _, h => by
    match j, h with
    | 0, h =>
      simp only [setL, List.getElem?_cons_zero, Option.some.injEq] at h
      obtain ⟨h1, h2⟩ := kl_some h
      subst h1
      exact Or.inr ⟨by omega, rfl, fun _ => h2⟩
    | 1, h => simp [setL] at h; exact Or.inl ⟨rfl, h.symm⟩
    | j + 2, h => simp [setL] at h; exact Or.inr ⟨by omega, by simpa using h, by omega⟩
  | a :: b :: r, n + 2, v, j, u, hi, h => by
    cases j with
    | zero => simp [setL] at h; subst h; exact Or.inr ⟨by omega, rfl, by omega⟩
    | succ j =>
      have h' : (setL (b :: r) (n + 1) v)[j]? = some (some u) := by simpa [setL] using h
      rcases setL_at (b :: r) (n + 1) v j u (by simp at hi ⊢; omega) h' with ⟨q1, q2⟩ | ⟨q1, q2, q3⟩
      · exact Or.inl ⟨by omega, q2⟩
      · exact Or.inr ⟨by omega, by simpa using q2, fun e => q3 (by omega)⟩
theorem setN_at : ∀ (L : Lo) (i j : Nat) (u : Value), (setN L i)[j]? = some (some u) → j ≠ i ∧ L[j]? = some (some u)
  | [], _, _, _, h => by simp [setN] at h
  | a :: r, 0, j, u, h => by
    cases j with
    | zero => simp [setN] at h
    | succ j => exact ⟨by omega, by simpa [setN] using h⟩
  | a :: r, n + 1, j, u, h => by
    cases j with
    | zero => exact ⟨by omega, by simpa [setN] using h⟩
    | succ j =>
      have h' : (setN r n)[j]? = some (some u) := by simpa [setN] using h
      obtain ⟨q1, q2⟩ := setN_at r n j u h'
      exact ⟨by omega, by simpa using q2⟩
theorem setN_len : ∀ (L : Lo) (i : Nat), (setN L i).length = L.length
  | [], _ => rfl
  | _ :: _, 0 => rfl
  | _ :: r, n + 1 => by
    have := setN_len r n
    simp only [setN, List.length_cons, this]
/-- a value of one word is stored -/
theorem LR.set1 {G : GT} {L : Lo} {nL i : Nat} {v : Value} {ls : Array Slot} (hF : (gF G).category = 1) (hl : L.length = nL) (hi : i < L.length) (hv : lv_has ls nL ((i, re G v) :: (lst_ G L).filter (fun q => !(q.1 == i) && !(q.1 + 1 == i && q.2.category == 2)))) : LR G (setL L i v) ls nL := by
  refine ⟨by rw [setL_len]; exact hl, lv_more hv fun q hq => ?_⟩
  obtain ⟨j, w⟩ := q
  obtain ⟨u, hu, rfl⟩ := lst_mem.mp hq
  rcases setL_at L i v j u hi hu with ⟨rfl, rfl⟩ | ⟨h1, h2, h3⟩
  · exact List.mem_cons_self
  · refine List.mem_cons_of_mem _ (List.mem_filter.mpr ⟨lst_mem.mpr ⟨u, h2, rfl⟩, ?_⟩)
    simp only [Bool.and_eq_true, Bool.not_eq_true', beq_eq_false_iff_ne, ne_eq, Bool.and_eq_false_iff]
    refine ⟨h1, ?_⟩
    by_cases e : j + 1 = i
    · right
      have h4 := h3 e
      cases u <;> first | (exact absurd rfl h4) | exact (by decide : ¬ (1 : Nat) = 2) | (show ¬ (gF G).category = 2; omega)
    · exact Or.inl e
theorem LR.set2 {G : GT} {L : Lo} {nL i : Nat} {x : Int64} {ls : Array Slot} (hF : (gF G).category = 1) (hl : L.length = nL) (hi : i + 1 < L.length) (hv : lv_has ls nL ((i, Value.long x) :: (lst_ G L).filter (fun q => !(q.1 == i) && (!(q.1 == i + 1) && !(q.1 + 1 == i && q.2.category == 2))))) : LR G (setN (setL L i (.long x)) (i + 1)) ls nL := by
  refine ⟨by rw [setN_len, setL_len]; exact hl, lv_more hv fun q hq => ?_⟩
  obtain ⟨j, w⟩ := q
  obtain ⟨u, hu, rfl⟩ := lst_mem.mp hq
  obtain ⟨h0, hu⟩ := setN_at _ _ _ _ hu
  rcases setL_at L i _ j u (by omega) hu with ⟨rfl, rfl⟩ | ⟨h1, h2, h3⟩
  · exact List.mem_cons_self
  · refine List.mem_cons_of_mem _ (List.mem_filter.mpr ⟨lst_mem.mpr ⟨u, h2, rfl⟩, ?_⟩)
    simp only [Bool.and_eq_true, Bool.not_eq_true', beq_eq_false_iff_ne, ne_eq, Bool.and_eq_false_iff]
    refine ⟨h1, h0, ?_⟩
    by_cases e : j + 1 = i
    · right
      have h4 := h3 e
      cases u <;> first | (exact absurd rfl h4) | exact (by decide : ¬ (1 : Nat) = 2) | (show ¬ (gF G).category = 2; omega)
    · exact Or.inl e
/-! how the heap changes -/
theorem gi_si {h : Hp} {a k b j : Nat} {v : Int32} : gi (si h a k v) b j = if b = a ∧ j = k then v else gi h b j := rfl
theorem gi_sw {h : Hp} {a b j : Nat} {r : Nat → Int32} : gi (sw h a r) b j = if b = a then r j else gi h b j := by
  show upw h.1.2 a r b j = _
  unfold upw
  split <;> rfl
theorem gl_sl {h : Hp} {a k b j : Nat} {v : Int64} : gl (sl h a k v) b j = if b = a ∧ j = k then v else gl h b j := rfl
theorem gr_sr {h : Hp} {a k b j : Nat} {v : Option Nat} : gr (sr h a k v) b j = if b = a ∧ j = k then v else gr h b j := rfl
theorem cOK.same {G : GT} {h h' : Hp} {s : State} {H H' : Heap} {id : Nat} (x : cOK G h s H id) (hH : H'[gB G + id]? = H[gB G + id]?) (h1 : ∀ k, gi h' id k = gi h id k) (h2 : ∀ k, gl h' id k = gl h id k) (h3 : ∀ k, gr h' id k = gr h id k) : cOK G h' s H' id := by
  obtain ⟨a0, a1, a2, a3, a4⟩ := x
  refine ⟨fun z => ?_, fun z => ?_, fun z => ?_, fun z => ?_, fun z => ?_⟩
  · simp only [hH, h1]; exact a0 z
  · simp only [hH, h2]; exact a1 z
  · simp only [hH, h3]; exact a2 z
  · simp only [hH, h3]; exact a3 z
  · have hf : ∀ k, fvv G h' id (kd id).2 k = fvv G h id (kd id).2 k := fun k => by unfold fvv; rw [h1, h3]
    simp only [hf]
    exact (a4 z).kept hH
/-- one cell changes -/
theorem HR.one {G : GT} {h h' : Hp} {s : State} {H H' : Heap} {a : Nat} (x : HR G h s H) (ha : a < nxt h) (hn : nxt h' = nxt h) (hz : H'.size = H.size) (ho : ∀ q : Nat, q ≠ gB G + a → H'[q]? = H[q]?)
    (h1 : ∀ id k, id ≠ a → gi h' id k = gi h id k) (h2 : ∀ id k, id ≠ a → gl h' id k = gl h id k) (h3 : ∀ id k, id ≠ a → gr h' id k = gr h id k) (hc : cOK G h' s H' a) : HR G h' s H' := by
  obtain ⟨x1, x2, x3, x4, x5, x6, x7, x8⟩ := x
  have hN : NN = 220 := rfl
  refine ⟨by rw [hz, hn]; exact x1, by rw [hn]; exact x2, fun q hq => by rw [ho q (by omega)]; exact x3 q hq, fun id hid => ?_, fun id h5 h6 k => ?_, fun k hk => by rw [h1 _ _ (by omega)]; exact x6 k hk, fun j hj => by rw [h1 _ _ (by omega)]; exact x7 j hj, by rw [h1 _ _ (by omega)]; exact x8⟩
  · by_cases e : id = a
    · rw [e]; exact hc
    · exact (x4 id (by rw [← hn]; exact hid)).same (ho _ (by omega)) (fun k => h1 id k e) (fun k => h2 id k e) (fun k => h3 id k e)
  · rw [hn] at h5
    have e : id ≠ a := by omega
    rw [h1 _ _ e, h2 _ _ e, h3 _ _ e]
    exact x5 id h5 h6 k
/-- one cell more -/
theorem HR.new {G : GT} {h : Hp} {s : State} {H H' : Heap} (x : HR G h s H) (hlt : nxt h < NN) (hz : H'.size = H.size + 1) (ho : ∀ q : Nat, q < H.size → H'[q]? = H[q]?) (hc : cOK G h s H' (nxt h)) : HR G (sn h (nxt h + 1)) s H' := by
  obtain ⟨x1, x2, x3, x4, x5, x6, x7, x8⟩ := x
  refine ⟨by rw [hz, x1]; rfl, hlt, fun q hq => by rw [ho q (by omega)]; exact x3 q hq, fun id hid => ?_, fun id h5 h6 k => x5 id (by have : nxt h + 1 ≤ id := h5; omega) h6 k, x6, x7, x8⟩
  have hid' : id < nxt h + 1 := hid
  by_cases e : id = nxt h
  · rw [e]; exact hc
  · exact (x4 id (by omega)).same (ho _ (by omega)) (fun _ => rfl) (fun _ => rfl) (fun _ => rfl)
theorem HR.zero {G : GT} {h : Hp} {s : State} {H : Heap} (x : HR G h s H) (hlt : nxt h < NN) (k : Nat) : gi h (nxt h) k = 0 ∧ gl h (nxt h) k = 0 ∧ gr h (nxt h) k = none := x.2.2.2.2.1 _ (Nat.le_refl _) (by have : NN = 220 := rfl; omega) k
theorem SLa_mono {a b : Nat} (h : a ≤ b) : SLa a ≤ SLa b := by
  induction b with
  | zero => have : a = 0 := by omega
            subst this; exact Nat.le_refl _
  | succ b ih =>
    rcases Nat.lt_or_ge b a with q | q
    · have : a = b + 1 := by omega
      subst this; exact Nat.le_refl _
    · exact Nat.le_trans (ih q) (Nat.le_add_right _ _)
theorem adr_lo {G : GT} {a : Nat} (h : a < 100000) : adr G a = gB G + a := by unfold adr; rw [if_pos h]
theorem inb_use {h : Hp} {a : Nat} {i : Int32} (H : inb h a i = true) : ∃ n, aln h a = some n ∧ 0 ≤ i.toInt ∧ i.toInt < n := by
  unfold inb at H
  split at H
  · rename_i n hn
    exact ⟨n, hn, decide_eq_true_eq.mp H⟩
  · cases H
theorem toI {i : Int32} (h : 0 ≤ i.toInt) : i.toInt = (i.toNatClampNeg : Int) := by
  show i.toInt = ((i.toInt.toNat : Nat) : Int)
  omega
theorem vpin {i : Int32} {n : Nat} (h1 : 0 ≤ i.toInt) (h2 : i.toInt < n) : ¬ (i < 0 ∨ n ≤ i.toNatClampNeg) ∧ i.toNatClampNeg < n := by
  have := toI h1
  refine ⟨?_, by omega⟩
  rintro (q | q)
  · have := Int32.lt_iff_toInt_lt.mp q
    rw [Int32.toInt_zero] at this
    omega
  · omega
