/-! every run of the mini machine is one of the machine -/
theorem rs_small {c k kind t q : Nat} (h : rsv c k = some (kind, t, q)) (hk : kind = 1 ∨ kind = 2) : t < 293 := by
  have hb := rs_wd h
  unfold wdB at hb
  simp only [Bool.and_eq_true, decide_eq_true_eq] at hb
  exact hb.1.1.2 hk
theorem rs2_ck : ((List.range 21).all fun c => (rsL.getD c []).all fun e => decide (e.2.1 = 2 → e.2.2.1 < 290)) = true := by decide +kernel
theorem rs_nest {c k t q : Nat} (h : rsv c k = some (2, t, q)) : t < 290 := by
  unfold rsv at h
  cases hf : (rsL.getD c []).find? (fun q => q.1 == k) with
  | none => rw [hf] at h; cases h
  | some e =>
    rw [hf] at h
    have hm := List.mem_of_find?_eq_some hf
    have hc : c < 21 := by
      rcases Nat.lt_or_ge c 21 with z | z
      · exact z
      · rw [List.getD_eq_getElem?_getD, List.getElem?_eq_none (by rw [rsL_len]; exact z)] at hm
        cases hm
    have := decide_eq_true_eq.mp (List.all_eq_true.mp (List.all_eq_true.mp rs2_ck c (List.mem_range.mpr hc)) e hm)
    obtain ⟨e1, e2, e3, e4⟩ := e
    cases h
    exact this rfl
theorem nrm_inv {c pc m k : Nat} {raw : Instr} (hn : nrm c pc raw = some (.invokeinterface m k)) :
    (∃ idx pw kind, (kind = 1 ∨ kind = 2) ∧ rsv c idx = some (kind, m, pw) ∧ ((raw = .invokevirtual idx ∧ mK m = 0) ∨ (raw = .invokestatic idx ∧ mK m = 1) ∨ (raw = .invokespecial idx ∧ mK m = 2))) ∨
    (m = 294 ∧ ∃ idx t pw, raw = .invokestatic idx ∧ rsv c idx = some (8, t, pw)) ∨ (m = 295 ∧ ∃ idx t pw, raw = .invokespecial idx ∧ rsv c idx = some (7, t, pw)) := by
  cases raw <;> simp only [nrm] at hn <;> first | (cases hn; done) | skip
  case invokevirtual idx =>
    split at hn
    · rename_i m2 pw hr
      split at hn
      · rename_i hk0
        cases hn
        exact Or.inl ⟨idx, pw, 1, Or.inl rfl, hr, Or.inl ⟨rfl, hk0⟩⟩
      · cases hn
    · rename_i m2 pw hr
      split at hn
      · rename_i hk0
        cases hn
        exact Or.inl ⟨idx, pw, 2, Or.inr rfl, hr, Or.inl ⟨rfl, hk0⟩⟩
      · cases hn
    · cases hn
  case invokestatic idx =>
    split at hn
    · rename_i m2 pw hr
      split at hn
      · rename_i hk0
        cases hn
        exact Or.inl ⟨idx, pw, 1, Or.inl rfl, hr, Or.inr (Or.inl ⟨rfl, hk0⟩)⟩
      · cases hn
    · rename_i m2 pw hr
      split at hn
      · rename_i hk0
        cases hn
        exact Or.inl ⟨idx, pw, 2, Or.inr rfl, hr, Or.inr (Or.inl ⟨rfl, hk0⟩)⟩
      · cases hn
    · rename_i t pw hr
      cases hn
      exact Or.inr (Or.inl ⟨rfl, idx, t, pw, rfl, hr⟩)
    · cases hn
  case invokespecial idx =>
    split at hn
    · rename_i m2 pw hr
      split at hn
      · rename_i hk0
        cases hn
        exact Or.inl ⟨idx, pw, 1, Or.inl rfl, hr, Or.inr (Or.inr ⟨rfl, hk0⟩)⟩
      · cases hn
    · rename_i m2 pw hr
      split at hn
      · rename_i hk0
        cases hn
        exact Or.inl ⟨idx, pw, 2, Or.inr rfl, hr, Or.inr (Or.inr ⟨rfl, hk0⟩)⟩
      · cases hn
    · rename_i t pw hr
      cases hn
      exact Or.inr (Or.inr ⟨rfl, idx, t, pw, rfl, hr⟩)
    · cases hn
  case newarray t => cases t <;> simp only [nrm] at hn <;> cases hn
  all_goals (repeat' split at hn) <;> cases hn
section SM
variable {p : Program} {l : Launch} {e : Env} {R : Room} {s : State} {m : MethodId} {args : Array Value} {below : List Frame} {meth : Method} {c : Code} {Q : State → Prop} {G : GT} {y n0 : Nat}
/-- what a return must do -/
def RetOK (p : Program) (l : Launch) (e : Env) (R : Room) (s : State) (m : MethodId) (args : Array Value) (below : List Frame) (meth : Method) (c : Code) (Q : State → Prop) (G : GT) (y n0 : Nat) (P : QT) : Prop :=
  ∀ (r : Option Value) (h1 : Hp) (H : Heap) (locs : List Loc) (ls : Array Slot) (pc : Nat), P r h1 → HR G h1 s H → (∀ q ∈ locs, gB G ≤ q.base) → n0 ≤ nxt h1 →
    ((r = none ∧ mR y = none ∧ decode (mB y) pc = .ok (.return_, 1)) ∨ (∃ x, r = some (.int x) ∧ retI y x ∧ decode (mB y) pc = .ok (.ireturn, 1)) ∨ (∃ x, r = some (.long x) ∧ mR y = some .long ∧ decode (mB y) pc = .ok (.lreturn, 1))) →
    W p l e R s m args below meth c H locs (nxt h1 - n0) (SLa (nxt h1) - SLa n0) Q (F0 m pc ls (r.toList.map (re G)))
/-- what is known of the calls -/
def CalOK (G : GT) (l : Launch) (d : Nat) : Prop := ∀ d', d = d' + 1 → ∀ (m1 : Nat) (av : List Value) (h : Hp) (r : Option Value) (h' : Hp), ev d m1 av h r h' → m1 < 291 → (∀ v ∈ av, c1 v = true) → MetD G l d' m1 av h r h'
theorem kd_ck3 : kdL.all (fun q => decide (q.1 = 4 → q.2 < 13)) = true := by decide +kernel
theorem kd_cls {a k : Nat} (h : kd a = (4, k)) : k < 13 := by
  have hlo : a < 100000 := kd_lo (by rw [h]; simp)
  unfold kd at h
  rw [if_pos hlo, List.getD_eq_getElem?_getD] at h
  cases hq : kdL[a]? with
  | none => rw [hq] at h; cases h
  | some q =>
    rw [hq] at h
    have := decide_eq_true_eq.mp (List.all_eq_true.mp kd_ck3 q (List.mem_of_getElem? hq))
    cases h
    exact this rfl
theorem oi_ck : (decide (Jvm.Cond.instanceMethod objectInit ∈ lw_tbl) && goodWord (.instanceMethod objectInit) && decide (Jvm.Cond.code objectInit ⟨#[0xb1]⟩ 1 none ∈ lw_tbl) && goodWord (.code objectInit ⟨#[0xb1]⟩ 1 none)) = true := by decide +kernel
theorem cp_ck : (decide (Jvm.Cond.native arraycopyName ∈ lw_tbl) && goodWord (.native arraycopyName) && decide (Jvm.Cond.static arraycopyName ∈ lw_tbl) && goodWord (.static arraycopyName) && decide (Jvm.Cond.initialized "java/lang/System" ∈ lw_tbl)) = true := by decide +kernel
theorem mm_ck : (decide (Jvm.Cond.static Lib.Math.max.name ∈ lw_tbl) && goodWord (.static Lib.Math.max.name) && decide (Jvm.Cond.code Lib.Math.max.name Lib.Math.max.code 2 (some .int) ∈ lw_tbl) && goodWord (.code Lib.Math.max.name Lib.Math.max.code 2 (some .int)) && decide (Jvm.Cond.static Lib.Math.min.name ∈ lw_tbl) && goodWord (.static Lib.Math.min.name) && decide (Jvm.Cond.code Lib.Math.min.name Lib.Math.min.code 2 (some .int) ∈ lw_tbl) && goodWord (.code Lib.Math.min.name Lib.Math.min.code 2 (some .int)) && decide (mN 291 = Lib.Math.max.name) && decide (mN 292 = Lib.Math.min.name)) = true := by decide +kernel
theorem rev3 {av : List Value} {S' : Sk} : (av.reverse ++ S').map (re G) = (av.map (re G)).reverse ++ S'.map (re G) := by simp
theorem rsum (hF : (gF G).category = 1) {S' : Sk} (h4 : szS S' ≤ 8) : 2 * (0 : Nat) + ((S'.map (re G)).map fun v => v.category).sum ≤ 8 := by
  have := re_sum hF S'
  omega
/-- a call of one of the classes' own methods -/
theorem so_call (X : CX G y p s m args meth c) {h h' : Hp} {d' m1 len pc k : Nat} {raw : Instr} {av : List Value} {S' : Sk} {r : Option Value} {L : Lo} (hm : m1 < 291) (hd : decode (mB y) pc = .ok (raw, len)) (hl : lnB len raw = true) (hn : nrm (mC y) pc raw = some (.invokeinterface m1 k)) (hk : av.length = k) (ha : av.length = mA m1) (hrc : rcv m1 av h = true) (h4 : szS S' ≤ 8) (hc : ∀ v ∈ av, c1 v = true)
    (hM : MetD G l d' m1 av h r h') (hR : d' + 1 ≤ R.frames ∧ 40 * d' + 40 ≤ R.locals) (hle : nxt h ≤ nxt h') (hcap : nxt h' - n0 ≤ R.cells ∧ SLa (nxt h') - SLa n0 ≤ R.slots) (K : Go p l e R s m args below meth c Q G n0 h' L (pushR r S') (pc + len)) : Go p l e R s m args below meth c Q G n0 h L (av.reverse ++ S') pc := by
  intro H locs ls hH hL hq h0
  have hF := X.cat
  have hsz : (F0 m pc ls ((av.reverse ++ S').map (re G))).locals.size = mL y := by rw [← X.2.2.1]; exact hL.2.1
  have hW := rsum hF h4
  have hm1 := SLa_mono h0
  have hm2 := SLa_mono hle
  have hf : nxt h - n0 + (nxt h' - nxt h) ≤ R.cells ∧ SLa (nxt h) - SLa n0 + (SLa (nxt h') - SLa (nxt h)) ≤ R.slots := ⟨by omega, by omega⟩
  have hU : ∀ U : State, U.heap = H → s.WarmedH U.vm → mPc G av h (av.map (re G)).toArray U := fun U hU hW => ⟨rfl, X.2.2.2.2.2.2.1.warm hW, by rw [hU]; exact hH.moved hW.alike⟩
  obtain ⟨g1, g2, g3, g4, g5, g6, g7, g8, g9, g10, g11⟩ := mw_u hm
  rw [rev3]
  -- the three ways of a call
  have key : ∀ {link : Nat} {pw : Nat}, (link = 1 ∨ link = 2) → ∀ {idx : Nat}, rsv (mC y) idx = some (link, m1, pw) →
      (mK m1 = 0 → decode (mB y) pc = .ok (.invokevirtual idx, 3) → W p l e R s m args below meth c H locs (nxt h - n0) (SLa (nxt h) - SLa n0) Q (F0 m pc ls ((av.map (re G)).reverse ++ S'.map (re G)))) ∧
      (mK m1 = 1 → decode (mB y) pc = .ok (.invokestatic idx, 3) → W p l e R s m args below meth c H locs (nxt h - n0) (SLa (nxt h) - SLa n0) Q (F0 m pc ls ((av.map (re G)).reverse ++ S'.map (re G)))) ∧
      (mK m1 = 2 → decode (mB y) pc = .ok (.invokespecial idx, 3) → W p l e R s m args below meth c H locs (nxt h - n0) (SLa (nxt h) - SLa n0) Q (F0 m pc ls ((av.map (re G)).reverse ++ S'.map (re G)))) := by
    intro link pw hlink idx hr
    refine ⟨fun hk0 hdg => ?_, fun hk1 hdg => ?_, fun hk2 hdg => ?_⟩
    · have e3 : (3 : Nat) = len := by have := hd.symm.trans hdg; cases this; rfl
      have K3 : Go p l e R s m args below meth c Q G n0 h' L (pushR r S') (pc + 3) := by rw [e3]; exact K
      have hwi : (Cond.instanceMethod (mN m1)).before args s = true ∧ (Cond.selects (cn (mC m1)) (mN m1) (mN m1)).before args s = true := by
        rcases g2 with ⟨-, a, b⟩ | ⟨z, -⟩ | ⟨z, -⟩
        · exact ⟨X.2.2.2.2.1 _ (gw_in (List.mem_of_getElem? a) rfl), X.2.2.2.2.1 _ (gw_in (List.mem_of_getElem? b) rfl)⟩
        · omega
        · exact absurd hk0 z
      unfold rcv at hrc
      rw [if_neg (by omega)] at hrc
      split at hrc
      · rename_i a0 As
        have hrc := (decide_eq_true_eq.mp hrc).resolve_left (by omega)
        have hcell : ∃ cellB : Cell, H[adr G a0]? = some cellB ∧ cellB.vm.isStatics = false ∧ s.vm.findClass (cn (mC m1)) = some cellB.cls := by
          rcases hrc with ⟨z1, z2⟩ | ⟨z1, z2, z3⟩
          · obtain ⟨cell, q1, q2, q3, -⟩ := (hH.2.2.2.1 a0 z2).2.2.2.2 (by rw [z1])
            rw [z1] at q2
            rw [adr_lo (kd_lo (by rw [z1]; simp))]
            have h13 : mC m1 < 13 := kd_cls z1
            exact ⟨cell, q1, by rw [q3]; rfl, by rw [q2]; exact (X.kn h13).2.1⟩
          · obtain ⟨k1, k2, k3⟩ := kd_6 z1
            obtain ⟨⟨cell, o1, o2, o3, o4⟩, -⟩ := X.2.2.2.2.2.2.1.2.2.2.2.2.1.1 _ z2
            rw [adr_K k1 k2, ← k3, z3]
            exact ⟨cell, by rw [hH.2.2.1 _ (Nat.not_le.mp o4)]; exact o1, o2, o3⟩
        have hlen : (As.map (re G)).length = mA m1 - if mK m1 = 1 then 0 else 1 := by
          rw [if_neg (by omega), List.length_map]
          simp only [List.length_cons] at ha
          omega
        have hst : (F0 m pc ls ((List.map (re G) (Value.ref a0 :: As)).reverse ++ S'.map (re G))).stack = (As.map (re G)).reverse ++ Value.ref (adr G a0) :: S'.map (re G) := by
          simp [re]
        refine so_after (a := (Value.ref (adr G a0) :: As.map (re G)).toArray) X hL hq h0 hle ?_ K3
        rcases hlink with rfl | rfl
        · exact va_runV (C := cn (mC m1)) X.fix hM ⟨X.callB hm hr hR, hwi.1, hwi.2⟩ ⟨mPc_blind, hcell, hU⟩ rfl hlen hsz hst hW hdg hf
        · exact va_runVN (C := cn (mC m1)) X.fix hM ⟨X.callN hm hr hR, hwi.1, hwi.2⟩ ⟨mPc_blind, hcell, hU⟩ rfl hlen hsz hst hW hdg hf
      · cases hrc
    · have e3 : (3 : Nat) = len := by have := hd.symm.trans hdg; cases this; rfl
      have K3 : Go p l e R s m args below meth c Q G n0 h' L (pushR r S') (pc + 3) := by rw [e3]; exact K
      have hwi : (Cond.static (mN m1)).before args s = true := by
        rcases g2 with ⟨z, -⟩ | ⟨-, a⟩ | ⟨-, z, -⟩
        · omega
        · exact X.2.2.2.2.1 _ (gw_in (List.mem_of_getElem? a) rfl)
        · exact absurd hk1 z
      have hlen : (av.map (re G)).length = mA m1 - if mK m1 = 1 then 0 else 1 := by
        rw [if_pos hk1, List.length_map]
        omega
      refine so_after (a := (av.map (re G)).toArray) X hL hq h0 hle ?_ K3
      rcases hlink with rfl | rfl
      · exact va_runS X.fix hM ⟨X.callB hm hr hR, hwi⟩ ⟨mPc_blind, hU⟩ rfl hlen hsz rfl hW hdg hf
      · exact va_runSN X.fix hM ⟨X.callN hm hr hR, hwi, trivial⟩ ⟨mPc_blind, hU⟩ rfl hlen hsz rfl hW hdg hf
    · have e3 : (3 : Nat) = len := by have := hd.symm.trans hdg; cases this; rfl
      have K3 : Go p l e R s m args below meth c Q G n0 h' L (pushR r S') (pc + 3) := by rw [e3]; exact K
      have hwi : (Cond.instanceMethod (mN m1)).before args s = true ∧ (mN m1).name = "<init>" ∧ mR m1 = none := by
        rcases g2 with ⟨z, -⟩ | ⟨z, -⟩ | ⟨-, -, a, b, z⟩
        · omega
        · omega
        · exact ⟨X.2.2.2.2.1 _ (gw_in (List.mem_of_getElem? a) rfl), b, z⟩
      unfold rcv at hrc
      rw [if_neg (by omega)] at hrc
      split at hrc
      · rename_i a0 As
        have hlen : (As.map (re G)).length = mA m1 - if mK m1 = 1 then 0 else 1 := by
          rw [if_neg (by omega), List.length_map]
          simp only [List.length_cons] at ha
          omega
        have hst : (F0 m pc ls ((List.map (re G) (Value.ref a0 :: As)).reverse ++ S'.map (re G))).stack = (As.map (re G)).reverse ++ Value.ref (adr G a0) :: S'.map (re G) := by
          simp [re]
        refine so_after (a := (Value.ref (adr G a0) :: As.map (re G)).toArray) X hL hq h0 hle ?_ K3
        rcases hlink with rfl | rfl
        · have cb := X.callB (n := nxt h) (n' := nxt h') hm hr hR
          rw [hwi.2.2] at cb
          exact va_runI X.fix hM ⟨cb, hwi.2.1, hwi.1⟩ ⟨mPc_blind, hU⟩ rfl hlen hsz hst hW hdg hf
        · have cb := X.callN (n := nxt h) (n' := nxt h') hm hr hR
          rw [hwi.2.2] at cb
          exact va_runIN X.fix hM ⟨cb, hwi.2.1, hwi.1⟩ ⟨mPc_blind, hU⟩ rfl hlen hsz hst hW hdg hf
      · cases hrc
  rcases nrm_inv hn with ⟨idx, pw, kind, hkd, hr, hraw⟩ | ⟨z, -⟩ | ⟨z, -⟩
  · rcases hraw with ⟨rfl, z⟩ | ⟨rfl, z⟩ | ⟨rfl, z⟩
    · have hl := beq_iff_eq.mp hl
      subst hl
      exact (key hkd hr).1 z hd
    · have hl := beq_iff_eq.mp hl
      subst hl
      exact (key hkd hr).2.1 z hd
    · have hl := beq_iff_eq.mp hl
      subst hl
      exact (key hkd hr).2.2 z hd
  · omega
  · omega
theorem CX.in_w (X : CX G y p s m args meth c) {w : Jvm.Cond} (h : w ∈ lw_tbl) (hg : goodWord w = true) : w.before args s = true := X.2.2.2.2.1 _ (gw_in h hg)
theorem so_objInit (X : CX G y p s m args meth c) {h : Hp} {idx t pw pc a : Nat} {S' : Sk} {L : Lo} (hd : decode (mB y) pc = .ok (.invokespecial idx, 3)) (hr : rsv (mC y) idx = some (7, t, pw)) (h4 : szS S' ≤ 8) (hR : 1 ≤ R.frames ∧ 40 ≤ R.locals)
    (K : Go p l e R s m args below meth c Q G n0 h L S' (pc + 3)) : Go p l e R s m args below meth c Q G n0 h L (.ref a :: S') pc := by
  intro H locs ls hH hL hq h0
  have ho := oi_ck
  simp only [Bool.and_eq_true, decide_eq_true_eq] at ho
  have := rsum X.cat h4
  exact W.objInit X.1 X.2.1 X.2.2.2.1 (X.word hr (by decide) (by decide)) (X.in_w ho.1.1.1 ho.1.1.2) (X.in_w ho.1.2 ho.2) rfl hL.2.1 rfl hd hR.1 (by show 2 * 0 + ((S'.map (re G)).map fun v => v.category).sum + 12 ≤ _; omega) (K H locs ls hH hL hq h0)
theorem so_max (X : CX G y p s m args meth c) {h : Hp} {idx pw pc : Nat} {a b : Int32} {S' : Sk} {L : Lo} (hd : decode (mB y) pc = .ok (.invokestatic idx, 3)) (hr : rsv (mC y) idx = some (1, 291, pw)) (h4 : szS S' ≤ 8) (hR : 1 ≤ R.frames ∧ 40 ≤ R.locals) (hcap : nxt h - n0 ≤ R.cells ∧ SLa (nxt h) - SLa n0 ≤ R.slots)
    (K : Go p l e R s m args below meth c Q G n0 h L (.int (if a < b then b else a) :: S') (pc + 3)) : Go p l e R s m args below meth c Q G n0 h L (.int b :: .int a :: S') pc := by
  intro H locs ls hH hL hq h0
  have ho := mm_ck
  simp only [Bool.and_eq_true, decide_eq_true_eq] at ho
  have hw : (Cond.methodLink (cn (mC y)) idx (mN 291)).before args s = true := X.word hr (by decide) (by decide)
  rw [ho.1.2] at hw
  have := rsum X.cat h4
  have h19 := X.2.2.2.2.1 _ (ini_w (k := 19) (by decide) (by decide))
  exact va_mmax X.1 X.2.1 hL.2.1.symm X.2.2.2.1 hw (X.in_w ho.1.1.1.1.1.1.1.1.1 ho.1.1.1.1.1.1.1.1.2) h19 (X.in_w ho.1.1.1.1.1.1.1.2 ho.1.1.1.1.1.1.2) hR.1 (by show ((S'.map (re G)).map fun v => v.category).sum + 13 ≤ _; omega) hcap.1 hcap.2 hd (K H locs ls hH hL hq h0)
theorem so_min (X : CX G y p s m args meth c) {h : Hp} {idx pw pc : Nat} {a b : Int32} {S' : Sk} {L : Lo} (hd : decode (mB y) pc = .ok (.invokestatic idx, 3)) (hr : rsv (mC y) idx = some (1, 292, pw)) (h4 : szS S' ≤ 8) (hR : 1 ≤ R.frames ∧ 40 ≤ R.locals) (hcap : nxt h - n0 ≤ R.cells ∧ SLa (nxt h) - SLa n0 ≤ R.slots)
    (K : Go p l e R s m args below meth c Q G n0 h L (.int (if b < a then b else a) :: S') (pc + 3)) : Go p l e R s m args below meth c Q G n0 h L (.int b :: .int a :: S') pc := by
  intro H locs ls hH hL hq h0
  have ho := mm_ck
  simp only [Bool.and_eq_true, decide_eq_true_eq] at ho
  have hw : (Cond.methodLink (cn (mC y)) idx (mN 292)).before args s = true := X.word hr (by decide) (by decide)
  rw [ho.2] at hw
  have := rsum X.cat h4
  have h19 := X.2.2.2.2.1 _ (ini_w (k := 19) (by decide) (by decide))
  exact va_mmin X.1 X.2.1 hL.2.1.symm X.2.2.2.1 hw (X.in_w ho.1.1.1.1.1.2 ho.1.1.1.1.2) h19 (X.in_w ho.1.1.1.2 ho.1.1.2) hR.1 (by show ((S'.map (re G)).map fun v => v.category).sum + 13 ≤ _; omega) hcap.1 hcap.2 hd (K H locs ls hH hL hq h0)
theorem so_copy (X : CX G y p s m args meth c) {h h' : Hp} {idx t pw pc : Nat} {av : List Value} {r : Option Value} {S' : Sk} {L : Lo} (hd : decode (mB y) pc = .ok (.invokestatic idx, 3)) (hr : rsv (mC y) idx = some (8, t, pw)) (hs : cpS av h r h') (h4 : szS S' ≤ 8) (hR : 1 ≤ R.frames ∧ 40 ≤ R.locals)
    (K : Go p l e R s m args below meth c Q G n0 h' L (pushR r S') (pc + 3)) : Go p l e R s m args below meth c Q G n0 h L (av.reverse ++ S') pc := by
  obtain ⟨a, b, sp, dp, n, q1, q2, q3, rfl, ka, kb, ha, hb, hsp, hdp, rfl, rfl⟩ := hs
  intro H locs ls hH hL hq h0
  have ho := cp_ck
  simp only [Bool.and_eq_true, decide_eq_true_eq] at ho
  have hW := rsum X.cat h4
  obtain ⟨c0, k0, hc0⟩ := (hH.2.2.2.1 a ha).1 ka
  obtain ⟨c9, k1, hc1⟩ := (hH.2.2.2.1 b hb).1 kb
  obtain ⟨-, kk0, hk0, cm0, hkk0⟩ := k0 (kd a).2 (fun j => .int (gi h a j))
  obtain ⟨-, kk1, hk1, cm1, hkk1⟩ := k1 (kd b).2 (fun j => .int (gi h b j))
  have ea := adr_lo (G := G) (kd_lo (a := a) (by rw [ka]; decide))
  have eb := adr_lo (G := G) (kd_lo (a := b) (by rw [kb]; decide))
  have hb1 := hH.2.1
  have hNN : NN = 220 := rfl
  have cl : ∀ {z : Nat}, z < 2147483648 → (nI z).toNatClampNeg = z := fun hz => nI_clamp (by omega)
  have ti : ∀ {z : Nat}, z < 2147483648 → (nI z).toInt = (z : Int) := fun hz => nI_toInt (by omega)
  have ng : ∀ {z : Nat}, z < 2147483648 → ¬ nI z < 0 := fun hz => nI_pos (by omega)
  intro T hT Xs
  have hw : (Cond.methodLink (cn (mC y)) idx arraycopyName).before args s = true := X.word hr (by decide) (by decide)
  obtain ⟨vm', X', step⟩ := Xs.arraycopy X.1 X.2.2.2.1 hw (X.in_w ho.1.1.1.1 ho.1.1.1.2) (X.in_w ho.1.1.2 ho.1.2) (X.in_w ho.2 rfl) (src := gB G + a) (dst := gB G + b) (cs := arrV c0 (kd a).2 (fun j => .int (gi h a j))) (cd := arrV c9 (kd b).2 (fun j => .int (gi h b j))) (srcPos := nI sp) (destPos := nI dp) (n := nI n) (by rw [hT]; exact hc0) (by rw [hT]; exact hc1)
    (fun _ h => by cases h) (fun _ h => by cases h) (fun h => by cases h) (fun h => by cases h) hk0 hk1 hkk0 hkk1 (by decide) (ng q1) (ng q2) (ng q3)
    (by rw [ti q1, ti q3, arrV_size]; omega)
    (by rw [ti q2, ti q3, arrV_size]; omega)
    (fun vm₁ _ i hi => by
      rw [cl q3] at hi
      have e : (arrV c0 (kd a).2 (fun j => .int (gi h a j))).slots.getD ((nI sp).toNatClampNeg + i) .null = .int (gi h a (sp + i)) := by
        rw [cl q1, Array.getD_eq_getD_getElem?, arrV_read _ _ (by omega)]
        rfl
      refine ⟨?_, ?_⟩
      · rw [e]
        rfl
      · rw [e]
        exact trivial)
    (g := F0 m pc ls (.int (nI n) :: .int (nI dp) :: .ref (gB G + b) :: .int (nI sp) :: .ref (gB G + a) :: S'.map (re G))) rfl (by rw [← hL.2.1]) (rest := S'.map (re G)) rfl (by rw [X.2.1]; exact hd) hR.1 (by
      have hnf : nativeFrameWords "java/lang/System" "arraycopy" 5 ≤ 20 := by decide
      show 2 * 0 + _ + _ ≤ _
      omega)
  have e1 : copied (arrV c0 (kd a).2 (fun j => .int (gi h a j))) (arrV c9 (kd b).2 (fun j => .int (gi h b j))) (nI sp) (nI dp) (nI n) = arrV c9 (kd b).2 (fun j => .int (va_cpy (gi h a) (gi h b) sp dp n j)) := by
    have := va_copied (fun z => Value.int z) c0 c9 (n0 := (kd a).2) (n1 := (kd b).2) (sp := (nI sp).toNatClampNeg) (dp := (nI dp).toNatClampNeg) (n := (nI n).toNatClampNeg) (gi h a) (gi h b) (by rw [cl q1, cl q3]; exact hsp)
    refine Eq.trans (show copied _ _ _ _ _ = _ from this) ?_
    rw [cl q1, cl q2, cl q3]
  rw [e1] at X' step
  have hl : gB G + b < H.size := (Array.getElem?_eq_some_iff.mp hc1).1
  have hheap : ((T.setVm vm').setCell (gB G + b) (arrV c9 (kd b).2 (fun j => .int (va_cpy (gi h a) (gi h b) sp dp n j)))).heap = H.setIfInBounds (gB G + b) (arrV c9 (kd b).2 (fun j => .int (va_cpy (gi h a) (gi h b) sp dp n j))) := by rw [← hT]; rfl
  have oq : ∀ q : Nat, q ≠ gB G + b → (H.setIfInBounds (gB G + b) (arrV c9 (kd b).2 (fun j => .int (va_cpy (gi h a) (gi h b) sp dp n j))))[q]? = H[q]? := fun q hq => by simp [Array.getElem?_setIfInBounds, Ne.symm hq]
  have hR' : HR G (sw h b (va_cpy (gi h a) (gi h b) sp dp n)) s (H.setIfInBounds (gB G + b) (arrV c9 (kd b).2 (fun j => .int (va_cpy (gi h a) (gi h b) sp dp n j)))) := by
    refine hH.one hb rfl (by simp) oq (fun id k hid => by rw [gi_sw, if_neg hid]) (fun _ _ _ => rfl) (fun _ _ _ => rfl) (cOK_arr (h := h) kb (fun _ => ⟨c9, k1, ?_⟩) (fun z => by cases z) (fun z => by cases z) (fun z => by cases z) (by decide))
    have e2 : (fun j => Value.int (gi (sw h b (va_cpy (gi h a) (gi h b) sp dp n)) b j)) = fun j => Value.int (va_cpy (gi h a) (gi h b) sp dp n j) := by
      funext j
      rw [gi_sw, if_pos rfl]
    rw [e2]
    simp [Array.getElem?_setIfInBounds, hl]
  obtain ⟨t, a1, b1⟩ := K _ _ ls hR' hL (fun q hq2 => by
      rcases List.mem_append.mp hq2 with z | z
      · exact hq q z
      · obtain ⟨z, -, hz⟩ := List.mem_map.mp z
        rw [← hz]
        exact Nat.le_add_right _ _) h0 _ hheap X'
  refine ⟨t, ?_, b1⟩
  have hst : ([Value.ref a, Value.int (nI sp), Value.ref b, Value.int (nI dp), Value.int (nI n)].reverse ++ S').map (re G) = .int (nI n) :: .int (nI dp) :: .ref (gB G + b) :: .int (nI sp) :: .ref (gB G + a) :: S'.map (re G) := by
    simp [re, ea, eb]
  rw [hst]
  exact step t a1
end SM
