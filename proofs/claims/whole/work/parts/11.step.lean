/-! one instruction of the mini machine is one of the machine -/
def fdT (c k : Nat) : FieldType := (parseFieldDescriptor (ftab c k).2.2.1).getD .int
theorem fd_ck : ((List.range 13).all fun c => (List.range (fn c)).all fun k => decide ((ftab c k).1 = cn c) && decide (parseFieldDescriptor (ftab c k).2.2.1 = some (fdT c k)) &&
    ((fy c k == 0 && decide (fdT c k = .int)) || (fy c k == 1 && decide (fdT c k = .boolean)) || (fy c k == 2 && (fdT c k).isReference && decide (defaultValue (fdT c k) = .null))) && (List.range (fn c)).all fun j => decide (j = k ∨ (ftab c j).2.1 ≠ (ftab c k).2.1)) = true := by decide +kernel
theorem fd_at {c k : Nat} (hc : c < 13) (hk : k < fn c) : (ftab c k).1 = cn c ∧ parseFieldDescriptor (ftab c k).2.2.1 = some (fdT c k) ∧ ((fy c k = 0 ∧ fdT c k = .int) ∨ (fy c k = 1 ∧ fdT c k = .boolean) ∨ (fy c k = 2 ∧ (fdT c k).isReference = true ∧ defaultValue (fdT c k) = .null)) ∧ ∀ j, j < fn c → j ≠ k → (ftab c j).2.1 ≠ (ftab c k).2.1 := by
  have h := List.all_eq_true.mp (List.all_eq_true.mp fd_ck c (List.mem_range.mpr hc)) k (List.mem_range.mpr hk)
  simp only [Bool.and_eq_true, decide_eq_true_eq, Bool.or_eq_true, beq_iff_eq] at h
  obtain ⟨⟨⟨h1, h2⟩, h3⟩, h4⟩ := h
  refine ⟨h1, h2, ?_, fun j hj hn => ?_⟩
  · rcases h3 with (h3 | h3) | ⟨⟨a, b⟩, c⟩
    · exact Or.inl h3
    · exact Or.inr (Or.inl h3)
    · exact Or.inr (Or.inr ⟨a, b, c⟩)
  · have := List.all_eq_true.mp h4 j (List.mem_range.mpr hj)
    simp only [decide_eq_true_eq] at this
    exact this.resolve_left hn
def CX (G : GT) (y : Nat) (p : Program) (s : State) (m : MethodId) (args : Array Value) (meth : Method) (c : Code) : Prop :=
  p.tables.exec = Jvm.exec ∧ c.code = mB y ∧ c.maxLocals = mL y ∧ s.vm.findClass (cn (mC y)) = some m.cls ∧ (∀ w ∈ lw_gd, w.before args s = true) ∧ (mK y = 2 → meth.name = "<init>") ∧ GF G s ∧ mC y < 20
def Go (p : Program) (l : Launch) (e : Env) (R : Room) (s : State) (m : MethodId) (args : Array Value) (below : List Frame) (meth : Method) (c : Code) (Q : State → Prop) (G : GT) (n0 : Nat) (h : Hp) (L : Lo) (S : Sk) (pc : Nat) : Prop :=
  ∀ (H : Heap) (locs : List Loc) (ls : Array Slot), HR G h s H → LR G L ls c.maxLocals → (∀ q ∈ locs, gB G ≤ q.base) → n0 ≤ nxt h → W p l e R s m args below meth c H locs (nxt h - n0) (SLa (nxt h) - SLa n0) Q (F0 m pc ls (S.map (re G)))
def clsL : List vw_C := (List.range 13).map fun c => (cn c, ftab c, fn c)
theorem clsL_at {c : Nat} (hc : c < 13) : clsL[c]? = some (cn c, ftab c, fn c) := by
  unfold clsL
  rw [List.getElem?_map, List.getElem?_range hc]
  rfl
theorem lay_in {c : Nat} (hc : c < 13) : ∀ w ∈ u_ws (cn c) (ftab c) (fn c), w ∈ lw_gd := by
  intro w hw
  have h := List.all_eq_true.mp (List.all_eq_true.mp ly_ck c (List.mem_range.mpr hc)) w hw
  simp only [Bool.and_eq_true, decide_eq_true_eq] at h
  exact gw_in h.1 h.2
section SO
variable {p : Program} {l : Launch} {e : Env} {R : Room} {s : State} {m : MethodId} {args : Array Value} {below : List Frame} {meth : Method} {c : Code} {Q : State → Prop} {G : GT} {y n0 : Nat}
theorem CX.word (X : CX G y p s m args meth c) {k kind t q : Nat} (h : rsv (mC y) k = some (kind, t, q)) (h2 : kind ≠ 2) (h5 : kind ≠ 5) : (wdO (mC y) k kind t).before args s = true := by
  have hb := rs_wd h
  unfold wdB at hb
  simp only [Bool.and_eq_true, Bool.or_eq_true, decide_eq_true_eq, beq_iff_eq] at hb
  obtain ⟨⟨⟨⟨⟨b1, b2⟩, -⟩, -⟩, -⟩, -⟩ := hb
  rcases b2 with (b2 | b2) | b2
  · exact absurd b2 h2
  · exact absurd b2 h5
  · exact X.2.2.2.2.1 _ (gw_in (List.mem_of_getElem? b1) b2)
theorem CX.kn (X : CX G y p s m args meth c) {k : Nat} (hk : k < 13) : u_Kn s (cn k) (ftab k) (fn k) (gC G k) (gI G k) := X.2.2.2.2.2.2.1.1 k hk
theorem CX.cat (X : CX G y p s m args meth c) : (gF G).category = 1 := X.2.2.2.2.2.2.1.2.2.2.2.2.2.2.2.2.2.2.2.2.1
theorem CX.K (X : CX G y p s m args meth c) : va_K (gC G, gI G) clsL [] s := by
  refine ⟨fun k q hq => ?_, fun k q hq => by cases k <;> cases hq⟩
  have hk : k < 13 := by
    have := (List.getElem?_eq_some_iff.mp hq).1
    unfold clsL at this
    simpa using this
  rw [clsL_at hk] at hq
  cases hq
  exact X.kn hk
theorem so_gets (X : CX G y p s m args meth c) {h : Hp} {H : Heap} {locs : List Loc} {cells slots : Nat} {ls : Array Slot} {rest : List Value} {pc idx : Nat} (hH : HR G h s H) {C n d : String} {v : Value} (hZ : va_Z C n d v (fun q => gB G ≤ q) s (gH G)) (hlink : (Cond.fieldLink (cn (mC y)) idx C n d).before args s = true) (hdg : decode (mB y) pc = .ok (.getstatic idx, 3))
    (kk : W p l e R s m args below meth c H locs cells slots Q (F0 m (pc + 3) ls (v :: rest))) : W p l e R s m args below meth c H locs cells slots Q (F0 m pc ls rest) := by
  obtain ⟨cf, kf, fi, f, a, cell, h1, h2, h3, h4, h5, h6, h7, h8⟩ := hZ
  exact W.gets X.1 X.2.1 X.2.2.2.1 hlink h1 h2 h3 h4 (by rw [hH.2.2.1 a (Nat.not_le.mp h8)]; exact h5) (fun e => by rw [e] at h6; cases h6) h7 rfl hdg kk
theorem so_getf (X : CX G y p s m args meth c) {h : Hp} {H : Heap} {locs : List Loc} {cells slots : Nat} {ls : Array Slot} {rest : List Value} {pc idx a cc k : Nat} (hH : HR G h s H) (ha : a < nxt h) (hk0 : kd a = (4, cc)) (hcc : cc < 13) (hk : k < fn cc) (hlink : (Cond.fieldLink (cn (mC y)) idx (cn cc) (ftab cc k).2.1 (ftab cc k).2.2.1).before args s = true) (hdg : decode (mB y) pc = .ok (.getfield idx, 3))
    (kk : W p l e R s m args below meth c H locs cells slots Q (F0 m (pc + 3) ls (fvv G h a cc k :: rest))) : W p l e R s m args below meth c H locs cells slots Q (F0 m pc ls (.ref (gB G + a) :: rest)) := by
  obtain ⟨cell, q1, q2, q3, q4⟩ := (hH.2.2.2.1 a ha).2.2.2.2 (by rw [hk0])
  rw [hk0] at q2 q4
  obtain ⟨hS, hfc, kC, hkC, hkind⟩ := X.kn hcc
  obtain ⟨cf, kf, fi, f, hi, hsl⟩ := hS k hk
  refine W.getf X.1 X.2.1 X.2.2.2.1 hlink (by rw [← (fd_at hcc hk).1]; exact hi) (u_facts hfc hkC (u_lays X.2.2.2.2.1 (lay_in hcc) hk) hi).1 q1 (by rw [q3]; exact fun h => by cases h) (v := fvv G h a cc k) ?_ rfl rfl hdg kk
  rw [hsl, q4 k hk]
theorem cOK_obj {h h' : Hp} {H' : Heap} {a cc k : Nat} {cell : Cell} {v : Value} (hk0 : kd a = (4, cc)) (q2 : cell.cls = gC G cc) (q3 : cell.vm = .none) (q4 : ∀ j, j < fn cc → cell.slots[gI G cc j]? = some (fvv G h a cc j)) (hap : ∀ i j, i < fn cc → j < fn cc → i ≠ j → gI G cc i ≠ gI G cc j) (hk : k < fn cc) (e1 : H'[gB G + a]? = some (cell.setSlot (gI G cc k) v)) (hv : ∀ j, j < fn cc → fvv G h' a cc j = updV (fun j => fvv G h a cc j) k v j) : cOK G h' s H' a := by
  refine ⟨fun z => ?_, fun z => ?_, fun z => ?_, fun z => ?_, fun z => ?_⟩
  · rw [hk0] at z; cases z
  · rw [hk0] at z; cases z
  · rw [hk0] at z; cases z
  · rw [hk0] at z; cases z
  · rw [hk0]
    exact t_OB.to (V := updV (fun j => fvv G h a cc j) k v) ⟨_, e1, q2, q3, t_set q4 hap hk v⟩ (fun j hj => (hv j hj).symm)
theorem so_puti (X : CX G y p s m args meth c) {h : Hp} {H : Heap} {locs : List Loc} {cells slots : Nat} {ls : Array Slot} {rest : List Value} {pc idx a cc k : Nat} {x : Int32} (hH : HR G h s H) (ha : a < nxt h) (hk0 : kd a = (4, cc)) (hcc : cc < 13) (hk : k < fn cc) (hfin : (ftab cc k).2.2.2 = false) (hx : fy cc k = 0 ∨ (fy cc k = 1 ∧ (x = 0 ∨ x = 1))) (hlink : (Cond.fieldLink (cn (mC y)) idx (cn cc) (ftab cc k).2.1 (ftab cc k).2.2.1).before args s = true) (hdg : decode (mB y) pc = .ok (.putfield idx, 3))
    (kk : ∀ (H' : Heap) (i : Nat), HR G (si h a k x) s H' → W p l e R s m args below meth c H' (locs ++ [⟨gB G + a, i⟩]) cells slots Q (F0 m (pc + 3) ls rest)) : W p l e R s m args below meth c H locs cells slots Q (F0 m pc ls (.int x :: .ref (gB G + a) :: rest)) := by
  obtain ⟨cell, q1, q2, q3, q4⟩ := (hH.2.2.2.1 a ha).2.2.2.2 (by rw [hk0])
  rw [hk0] at q2 q4
  obtain ⟨f1, f2, f3, f4⟩ := fd_at hcc hk
  have hap := va_apart (own := cn cc) X.2.2.2.2.1 (lay_in hcc) (fdT cc) (fun j hj => (fd_at hcc hj).2.1) (fun i hi j hj hij => (fd_at hcc hj).2.2.2 i hi hij) X.K (clsL_at hcc)
  obtain ⟨hS, hfc, kC, hkC, hkind⟩ := X.kn hcc
  obtain ⟨cf, kf, fi, f, hi, hsl⟩ := hS k hk
  have hlay := X.2.2.2.2.1 _ (lay_in hcc _ (u_in_lay hk))
  unfold u_lay at hlay
  rw [if_neg (by rw [hfin]; decide)] at hlay
  have hst := (u_facts hfc hkC (u_lays X.2.2.2.2.1 (lay_in hcc) hk) hi).1
  have hn : narrow (fdT cc k) (.int x) = .int x ∧ fits (fdT cc k) (.int x) = true := by
    rcases f3 with ⟨g1, g2⟩ | ⟨g1, g2⟩ | ⟨g1, -⟩
    · rw [g2]; exact ⟨rfl, rfl⟩
    · rw [g2]
      rcases hx with hx | ⟨-, hx⟩
      · rw [g1] at hx; cases hx
      · rcases hx with rfl | rfl <;> exact ⟨rfl, rfl⟩
    · rcases hx with hx | ⟨hx, -⟩ <;> (rw [g1] at hx; cases hx)
  have h6 := u_store hfc hkC hkind hlay hi f2 hn.1 hn.2
  refine W.putK X.1 X.2.1 (f := f) ⟨X.2.2.2.1, hlink, ⟨_, _, _, by rw [← f1]; exact hi⟩, hst⟩ (by rw [q2]; exact h6) q1 q3 (by rw [hsl]; exact k2_hasslot (q4 k hk)) rfl rfl hdg fun H' e1 e2 e3 => ?_
  rw [hsl] at e1 ⊢
  refine kk H' _ (hH.one ha rfl e2 e3 (fun id j hid => by rw [gi_si, if_neg (fun z => hid z.1)]) (fun _ _ _ => rfl) (fun _ _ _ => rfl) (cOK_obj hk0 q2 q3 q4 hap hk e1 fun j hj => ?_))
  unfold fvv updV
  by_cases ej : j = k
  · subst ej
    have : ¬ fy cc j = 2 := by rcases hx with hx | ⟨hx, -⟩ <;> (rw [hx]; decide)
    rw [if_neg this, if_pos rfl, gi_si, if_pos ⟨rfl, rfl⟩]
  · have e : gi (si h a k x) a j = gi h a j := by rw [gi_si, if_neg (fun z => ej z.2)]
    rw [if_neg ej, e]
    rfl
theorem ref_fits {ty : FieldType} {b : Nat} (h : ty.isReference = true) : narrow ty (.ref b) = .ref b ∧ fits ty (.ref b) = true := by
  cases ty <;> first | exact ⟨rfl, rfl⟩ | cases h
theorem so_putr (X : CX G y p s m args meth c) {h : Hp} {H : Heap} {locs : List Loc} {cells slots : Nat} {ls : Array Slot} {rest : List Value} {pc idx a cc k b : Nat} (hH : HR G h s H) (ha : a < nxt h) (hk0 : kd a = (4, cc)) (hcc : cc < 13) (hk : k < fn cc) (hfin : (ftab cc k).2.2.2 = true) (hx : fy cc k = 2) (hin : mK y = 2) (hown : mC y = cc) (hlink : (Cond.fieldLink (cn (mC y)) idx (cn cc) (ftab cc k).2.1 (ftab cc k).2.2.1).before args s = true) (hdg : decode (mB y) pc = .ok (.putfield idx, 3))
    (kk : ∀ (H' : Heap) (i : Nat), HR G (sr h a k (some b)) s H' → W p l e R s m args below meth c H' (locs ++ [⟨gB G + a, i⟩]) cells slots Q (F0 m (pc + 3) ls rest)) : W p l e R s m args below meth c H locs cells slots Q (F0 m pc ls (.ref (adr G b) :: .ref (gB G + a) :: rest)) := by
  obtain ⟨cell, q1, q2, q3, q4⟩ := (hH.2.2.2.1 a ha).2.2.2.2 (by rw [hk0])
  rw [hk0] at q2 q4
  obtain ⟨f1, f2, f3, f4⟩ := fd_at hcc hk
  have hap := va_apart (own := cn cc) X.2.2.2.2.1 (lay_in hcc) (fdT cc) (fun j hj => (fd_at hcc hj).2.1) (fun i hi j hj hij => (fd_at hcc hj).2.2.2 i hi hij) X.K (clsL_at hcc)
  obtain ⟨hS, hfc, kC, hkC, hkind⟩ := X.kn hcc
  obtain ⟨cf, kf, fi, f, hi, hsl⟩ := hS k hk
  have hlay := X.2.2.2.2.1 _ (lay_in hcc _ (u_in_lay hk))
  unfold u_lay at hlay
  rw [if_pos hfin] at hlay
  have hst := (u_facts hfc hkC (u_lays X.2.2.2.2.1 (lay_in hcc) hk) hi).1
  have hcf : m.cls = cf := by
    obtain ⟨_, _, c', _, _, _, -, -, hf', -, -, -, hown2, -⟩ := Cond.laysFinal_spec hlay
    have e1 : c' = cf := by have := hi.symm.trans hf'; simp at this; exact this.1.symm
    rw [f1] at hown2
    have hown3 := X.2.2.2.1
    rw [hown] at hown3
    rw [← e1]; exact Option.some.inj (hown3.symm.trans hown2)
  have hrf : (fdT cc k).isReference = true := by
    rcases f3 with ⟨g1, -⟩ | ⟨g1, -⟩ | ⟨-, g2, -⟩
    · rw [g1] at hx; cases hx
    · rw [g1] at hx; cases hx
    · exact g2
  have h6 := u_fits (v := .ref (adr G b)) hfc hkC hkind (Or.inr hlay) hi f2 (ref_fits hrf).1 (ref_fits hrf).2
  refine W.putFinK X.1 X.2.1 X.2.2.2.1 hlink (by rw [← f1]; exact hi) hst hcf (X.2.2.2.2.2.1 hin) (by rw [q2]; exact h6) q1 q3 (by rw [hsl]; exact k2_hasslot (q4 k hk)) rfl rfl hdg fun H' e1 e2 e3 => ?_
  rw [hsl] at e1 ⊢
  refine kk H' _ (hH.one ha rfl e2 e3 (fun _ _ _ => rfl) (fun _ _ _ => rfl) (fun id j hid => by rw [gr_sr, if_neg (fun z => hid z.1)]) (cOK_obj hk0 q2 q3 q4 hap hk e1 fun j hj => ?_))
  unfold fvv updV
  by_cases ej : j = k
  · subst ej
    rw [if_pos hx, if_pos rfl, gr_sr, if_pos ⟨rfl, rfl⟩]
    rfl
  · have e : gr (sr h a k (some b)) a j = gr h a j := by rw [gr_sr, if_neg (fun z => ej z.2)]
    rw [if_neg ej, e]
    rfl
end SO
