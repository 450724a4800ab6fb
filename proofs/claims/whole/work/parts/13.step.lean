/-! cells that are made -/
section SN
variable {p : Program} {l : Launch} {e : Env} {R : Room} {s : State} {m : MethodId} {args : Array Value} {below : List Frame} {meth : Method} {c : Code} {Q : State → Prop} {G : GT} {y n0 : Nat}
theorem ar_ck : (decide (Jvm.Cond.arrayClass .int ∈ lw_tbl) && goodWord (.arrayClass .int) && decide (Jvm.Cond.arrayClass .long ∈ lw_tbl) && goodWord (.arrayClass .long)) = true := by decide +kernel
theorem CX.arI (X : CX G y p s m args meth c) : (Jvm.Cond.arrayClass .int).before args s = true := by
  have h := ar_ck
  simp only [Bool.and_eq_true, decide_eq_true_eq] at h
  exact X.2.2.2.2.1 _ (gw_in h.1.1.1 h.1.1.2)
theorem CX.arJ (X : CX G y p s m args meth c) : (Jvm.Cond.arrayClass .long).before args s = true := by
  have h := ar_ck
  simp only [Bool.and_eq_true, decide_eq_true_eq] at h
  exact X.2.2.2.2.1 _ (gw_in h.1.2 h.2)
theorem SLa_arr {n t k : Nat} (h : kd n = (t, k)) (ht : t ≠ 4) : SLa (n + 1) = SLa n + k := by
  show SLa n + _ = _
  rw [h, if_neg ht]
theorem SLa_obj {n k : Nat} (h : kd n = (4, k)) : SLa (n + 1) = SLa n + fn k := by
  show SLa n + _ = _
  rw [h, if_pos rfl]
theorem kd_ck2 : kdL.all (fun q => decide (q.2 ≤ 64320)) = true := by decide +kernel
theorem kd_max {a : Nat} (h : a < 100000) : (kd a).2 ≤ 64320 := by
  unfold kd
  rw [if_pos h, List.getD_eq_getElem?_getD]
  cases hq : kdL[a]? with
  | none => exact Nat.zero_le _
  | some q => exact decide_eq_true_eq.mp (List.all_eq_true.mp kd_ck2 q (List.mem_of_getElem? hq))
theorem so_newA0 (X : CX G y p s m args meth c) {h : Hp} {H : Heap} {locs : List Loc} {ls : Array Slot} {rest : List Value} {pc : Nat} {n : Int32} (hH : HR G h s H) (h0 : n0 ≤ nxt h) (hn : ¬ n < 0) (hk : kd (nxt h) = (0, n.toNatClampNeg)) (hlt : nxt h < NN) (hcap : nxt h + 1 - n0 ≤ R.cells ∧ SLa (nxt h + 1) - SLa n0 ≤ R.slots) (hdg : decode (mB y) pc = .ok (.newarray .int, 2))
    (kk : ∀ H' : Heap, HR G (sn h (nxt h + 1)) s H' → W p l e R s m args below meth c H' locs (nxt h + 1 - n0) (SLa (nxt h + 1) - SLa n0) Q (F0 m (pc + 2) ls (.ref (gB G + nxt h) :: rest))) : W p l e R s m args below meth c H locs (nxt h - n0) (SLa (nxt h) - SLa n0) Q (F0 m pc ls (.int n :: rest)) := by
  have hS := SLa_arr hk (by decide)
  have hm := SLa_mono h0
  have hmx := kd_max (a := nxt h) (by have : NN = 220 := rfl; omega)
  rw [hk] at hmx
  have hmx : n.toNatClampNeg ≤ 64320 := hmx
  refine W.newaK X.1 X.2.1 (atype := .int) X.arI rfl hdg rfl hn rfl (by show _ * 4 ≤ _; omega) (by omega) (by omega) hH.1 fun H' cA e1 e2 e3 e4 => W.cs (by omega) (by omega) (kk H' (hH.new hlt (by rw [e2, hH.1]) (fun q hq => e3 q (by rw [hH.1] at hq; exact hq)) (cOK_arr (h := h) (k := 0) (by rw [hk]) (fun _ => ⟨cA, e4, ?_⟩) (fun z => by cases z) (fun z => by cases z) (fun z => by cases z) (by decide))))
  rw [e1, hk]
  congr 2
  funext j
  rw [(hH.zero hlt j).1]
  rfl
theorem so_newA1 (X : CX G y p s m args meth c) {h : Hp} {H : Heap} {locs : List Loc} {ls : Array Slot} {rest : List Value} {pc : Nat} {n : Int32} (hH : HR G h s H) (h0 : n0 ≤ nxt h) (hn : ¬ n < 0) (hk : kd (nxt h) = (1, n.toNatClampNeg)) (hlt : nxt h < NN) (hcap : nxt h + 1 - n0 ≤ R.cells ∧ SLa (nxt h + 1) - SLa n0 ≤ R.slots) (hdg : decode (mB y) pc = .ok (.newarray .long, 2))
    (kk : ∀ H' : Heap, HR G (sn h (nxt h + 1)) s H' → W p l e R s m args below meth c H' locs (nxt h + 1 - n0) (SLa (nxt h + 1) - SLa n0) Q (F0 m (pc + 2) ls (.ref (gB G + nxt h) :: rest))) : W p l e R s m args below meth c H locs (nxt h - n0) (SLa (nxt h) - SLa n0) Q (F0 m pc ls (.int n :: rest)) := by
  have hS := SLa_arr hk (by decide)
  have hm := SLa_mono h0
  have hmx := kd_max (a := nxt h) (by have : NN = 220 := rfl; omega)
  rw [hk] at hmx
  have hmx : n.toNatClampNeg ≤ 64320 := hmx
  refine W.newaK X.1 X.2.1 (atype := .long) X.arJ rfl hdg rfl hn rfl (by show _ * 8 ≤ _; omega) (by omega) (by omega) hH.1 fun H' cA e1 e2 e3 e4 => W.cs (by omega) (by omega) (kk H' (hH.new hlt (by rw [e2, hH.1]) (fun q hq => e3 q (by rw [hH.1] at hq; exact hq)) (cOK_arr (h := h) (k := 1) (by rw [hk]) (fun z => by cases z) (fun _ => ⟨cA, e4, ?_⟩) (fun z => by cases z) (fun z => by cases z) (by decide))))
  rw [e1, hk]
  congr 2
  funext j
  rw [(hH.zero hlt j).2.1]
  rfl
theorem push_old {H : Heap} {x : Cell} {q : Nat} (h : q < H.size) : (H.push x)[q]? = H[q]? := by
  rw [Array.getElem?_push, if_neg (by omega)]
theorem so_newA2 (X : CX G y p s m args meth c) {h : Hp} {H : Heap} {locs : List Loc} {ls : Array Slot} {rest : List Value} {pc k q : Nat} {n : Int32} (hH : HR G h s H) (h0 : n0 ≤ nxt h) (hn : ¬ n < 0) (hk : kd (nxt h) = (2, n.toNatClampNeg)) (hlt : nxt h < NN) (hcap : nxt h + 1 - n0 ≤ R.cells ∧ SLa (nxt h + 1) - SLa n0 ≤ R.slots) (hr : rsv (mC y) k = some (6, 7, q)) (hdg : decode (mB y) pc = .ok (.anewarray k, 3))
    (kk : ∀ H' : Heap, HR G (sn h (nxt h + 1)) s H' → W p l e R s m args below meth c H' locs (nxt h + 1 - n0) (SLa (nxt h + 1) - SLa n0) Q (F0 m (pc + 3) ls (.ref (gB G + nxt h) :: rest))) : W p l e R s m args below meth c H locs (nxt h - n0) (SLa (nxt h) - SLa n0) Q (F0 m pc ls (.int n :: rest)) := by
  have hS := SLa_arr hk (by decide)
  have hm := SLa_mono h0
  have hmx := kd_max (a := nxt h) (by have : NN = 220 := rfl; omega)
  rw [hk] at hmx
  have hmx : n.toNatClampNeg ≤ 64320 := hmx
  have hw : (Jvm.Cond.classLink (cn (mC y)) k "VotedRiver$State").before args s = true := X.word hr (by decide) (by decide)
  refine W.anew X.1 X.2.1 X.2.2.2.1 hw (X.2.2.2.2.2.2.1.2.2.2.2.2.2.2.2.2.2.2.1.use) rfl hdg rfl hn (by omega) (by omega) (by omega) fun cA kA comp e1 e2 e3 e4 => ?_
  refine W.cs (cells' := nxt h + 1 - n0) (slots' := SLa (nxt h + 1) - SLa n0) (by omega) (by omega) ?_
  rw [hH.1]
  refine kk _ (hH.new hlt (by simp) (fun q hq => push_old hq) (cOK_arr (h := h) (k := 2) (by rw [hk]) (fun z => by cases z) (fun z => by cases z) (fun _ => ⟨cA, ⟨fun n z => ⟨fun k h => (by cases h), kA, e2, comp, e3⟩, ⟨kA, comp, e2, e3, e4, e1⟩⟩, ?_⟩) (fun z => by cases z) (by decide)))
  rw [← hH.1, hk, arrV_new]
  have : ∀ j, mvv G (gr h (nxt h) j) = .null := fun j => by rw [(hH.zero hlt j).2.2]; rfl
  simp only [this]
  simp
theorem so_new (X : CX G y p s m args meth c) {h : Hp} {H : Heap} {locs : List Loc} {ls : Array Slot} {rest : List Value} {pc k t q : Nat} (hH : HR G h s H) (h0 : n0 ≤ nxt h) (ht : t < 13) (hk : kd (nxt h) = (4, t)) (hlt : nxt h < NN) (hcap : nxt h + 1 - n0 ≤ R.cells ∧ SLa (nxt h + 1) - SLa n0 ≤ R.slots) (hr : rsv (mC y) k = some (6, t, q)) (hdg : decode (mB y) pc = .ok (.new k, 3))
    (kk : ∀ H' : Heap, HR G (sn h (nxt h + 1)) s H' → W p l e R s m args below meth c H' locs (nxt h + 1 - n0) (SLa (nxt h + 1) - SLa n0) Q (F0 m (pc + 3) ls (.ref (gB G + nxt h) :: rest))) : W p l e R s m args below meth c H locs (nxt h - n0) (SLa (nxt h) - SLa n0) Q (F0 m pc ls rest) := by
  have hS := SLa_obj hk
  have hm := SLa_mono h0
  have hw : (Jvm.Cond.classLink (cn (mC y)) k (cn t)).before args s = true := X.word hr (by decide) (by decide)
  have hi1 := List.all_eq_true.mp in_ck t (List.mem_range.mpr ht)
  have hi2 := List.all_eq_true.mp ci_ck t (List.mem_range.mpr (by omega))
  simp only [decide_eq_true_eq, Bool.or_eq_true, Bool.and_eq_true, beq_iff_eq] at hi1 hi2
  have hi3 : (Jvm.Cond.initialized (cn t)).before args s = true := by
    rcases hi2 with z | z
    · omega
    · exact X.2.2.2.2.1 _ (gw_in (List.mem_of_getElem? z.1) z.2)
  have hg : goodWord (.instantiable (cn t) (fn t)) = true := rfl
  have hi4 : (Jvm.Cond.instantiable (cn t) (fn t)).before args s = true := X.2.2.2.2.1 _ (gw_in (List.mem_of_getElem? hi1) hg)
  refine W.newcK X.1 X.2.1 X.2.2.2.1 hw hi4 hi3 rfl hdg (by omega) (by omega) (X.kn ht).2.1 hH.1 fun H' kC e1 e2 e3 e4 => W.cs (by omega) (by omega) (kk H' (hH.new hlt (by rw [e3, hH.1]) (fun q hq => e4 q (by rw [hH.1] at hq; exact hq)) ?_))
  have hb := u_born (fdT t) X.2.2.2.2.1 (lay_in ht) (X.kn ht) e1 e2 (fun j hj => (fd_at ht hj).2.1)
  refine ⟨fun z => ?_, fun z => ?_, fun z => ?_, fun z => ?_, fun z => ?_⟩
  · rw [hk] at z; cases z
  · rw [hk] at z; cases z
  · rw [hk] at z; cases z
  · rw [hk] at z; cases z
  · rw [hk]
    refine t_OB.to hb fun j hj => ?_
    unfold fvv
    rcases (fd_at ht hj).2.2.1 with ⟨g1, g2⟩ | ⟨g1, g2⟩ | ⟨g1, g2, g3⟩
    · rw [if_neg (by rw [g1]; decide), g2, (hH.zero hlt j).1]; rfl
    · rw [if_neg (by rw [g1]; decide), g2, (hH.zero hlt j).1]; rfl
    · rw [if_pos g1, g3, (hH.zero hlt j).2.2]; rfl
theorem newM_use {h : Hp} {L : Lo} {S : Sk} {q : Lo × Sk × Hp} (hs : newM L S h = some q) : ∃ S', S = .int 16 :: .int 8 :: S' ∧ kd (nxt h) = (3, 8) ∧ (∀ i, i < 8 → kd (nxt h + 1 + i) = (0, 16)) ∧ nxt h + 8 < NN ∧ q = (L, .ref (nxt h) :: S', sn (swr h (nxt h) (fun i => if i < 8 then some (nxt h + 1 + i) else none)) (nxt h + 9)) := by
  unfold newM at hs
  split at hs
  · split at hs
    · rename_i hc
      obtain ⟨rfl, rfl, h3, h4, h5⟩ := hc
      cases hs
      refine ⟨_, rfl, h3, fun i hi => ?_, h5, rfl⟩
      have := List.all_eq_true.mp h4 i (List.mem_range.mpr hi)
      exact beq_iff_eq.mp this
    · cases hs
  · cases hs
theorem vr_outer (c : ClassId) (N h0 : Nat) : ∀ i : Nat, Jvm.Free.Multi.outerC c N h0 i = arrV c N (fun j => if j < i then .ref (h0 + 1 + j) else .null)
  | 0 => by
    show ({ cls := c, slots := Array.replicate N .null, vm := .none } : Cell) = _
    rw [arrV_new]
    refine congrArg (arrV c N) (funext fun j => ?_)
    simp
  | i + 1 => by
    show (Jvm.Free.Multi.outerC c N h0 i).setSlot i (.ref (h0 + 1 + i)) = _
    rw [vr_outer c N h0 i, arrV_store]
    refine congrArg (arrV c N) (funext fun j => ?_)
    by_cases e : j = i
    · subst e
      simp [updV]
    · by_cases h : j < i
      · simp [updV, e, h, Nat.lt_succ_of_lt h]
      · simp [updV, e, h, show ¬ j < i + 1 by omega]
theorem gr_swr {h : Hp} {a b j : Nat} {r : Nat → Option Nat} : gr (swr h a r) b j = if b = a then r j else gr h b j := by
  show upw h.2.2 a r b j = _
  unfold upw
  split <;> rfl
theorem SLa_9 {n : Nat} (h : kd n = (3, 8)) (hr : ∀ i, i < 8 → kd (n + 1 + i) = (0, 16)) : SLa (n + 9) = SLa n + (8 + 8 * 16) := by
  have e0 := SLa_arr h (by decide)
  have e : ∀ i, i < 8 → SLa (n + 1 + i + 1) = SLa (n + 1 + i) + 16 := fun i hi => SLa_arr (hr i hi) (by decide)
  have a0 := e 0 (by decide); have a1 := e 1 (by decide); have a2 := e 2 (by decide); have a3 := e 3 (by decide); have a4 := e 4 (by decide); have a5 := e 5 (by decide); have a6 := e 6 (by decide); have a7 := e 7 (by decide)
  simp only [Nat.add_assoc, Nat.reduceAdd] at *
  omega
theorem so_newM (X : CX G y p s m args meth c) {h : Hp} {H : Heap} {locs : List Loc} {ls : Array Slot} {rest : List Value} {pc k q t : Nat} (hH : HR G h s H) (h0 : n0 ≤ nxt h) (hk : kd (nxt h) = (3, 8)) (hkr : ∀ i, i < 8 → kd (nxt h + 1 + i) = (0, 16)) (hlt : nxt h + 8 < NN) (hcap : nxt h + 9 - n0 ≤ R.cells ∧ SLa (nxt h + 9) - SLa n0 ≤ R.slots) (hr : rsv (mC y) k = some (11, t, q)) (hdg : decode (mB y) pc = .ok (.multianewarray k 2, 4))
    (kk : ∀ H' : Heap, HR G (sn (swr h (nxt h) (fun i => if i < 8 then some (nxt h + 1 + i) else none)) (nxt h + 9)) s H' → W p l e R s m args below meth c H' locs (nxt h + 9 - n0) (SLa (nxt h + 9) - SLa n0) Q (F0 m (pc + 4) ls (.ref (gB G + nxt h) :: rest))) : W p l e R s m args below meth c H locs (nxt h - n0) (SLa (nxt h) - SLa n0) Q (F0 m pc ls (.int 16 :: .int 8 :: rest)) := by
  have hNN : NN = 220 := rfl
  have hS := SLa_9 hk hkr
  have hm := SLa_mono h0
  have hw : (Jvm.Cond.classLink (cn (mC y)) k "[[I").before args s = true := X.word hr (by decide) (by decide)
  have hz := hH.zero (by omega : nxt h < NN)
  intro T hT Xs
  obtain ⟨vm₁, cA, comp, hW1, fA, fC, hO, hI, X', step⟩ := Xs.multianewarray2F X.1 X.2.2.2.1 (ty := .int) hw X.2.2.2.2.2.2.1.2.2.2.2.2.2.2.2.2.2.2.2.1 X.arI (g := F0 m pc ls (.int 16 :: .int 8 :: rest)) rfl (by rw [X.2.1]; exact hdg) rfl (by decide) (by decide) (by decide) (by decide) (by decide) rfl rfl (by show nxt h - n0 + (1 + 8) ≤ _; omega) (by show SLa (nxt h) - SLa n0 + (8 + 8 * 16) ≤ _; omega)
  have e8 : (8 : Int32).toNatClampNeg = 8 := by decide
  have e16 : (16 : Int32).toNatClampNeg = 16 := by decide
  rw [e8, e16] at X' step
  generalize hF : Jvm.Free.Multi.fill (T.setVm vm₁) cA comp 8 16 (defaultValue .int) 8 = F at X' step
  have hTh : (T.setVm vm₁).heap = H := hT
  obtain ⟨f1, f2, -, -⟩ := Jvm.Free.Multi.fill_facts (T.setVm vm₁) cA comp 8 16 (defaultValue .int) 8
  rw [hF, hTh] at f1 f2
  have hold : ∀ x : Nat, x < H.size → F.heap[x]? = H[x]? := fun x hx => by
    have := Jvm.Free.Multi.fill_old (T.setVm vm₁) cA comp 8 16 (defaultValue .int) (a := x) (by rw [hTh]; exact hx) 8
    rw [hF, hTh] at this
    exact this
  have hrow : ∀ j : Nat, j < 8 → F.heap[H.size + 1 + j]? = some (arrV comp 16 (fun _ => .int 0)) := fun j hj => by
    have := Jvm.Free.Multi.fill_inner (T.setVm vm₁) cA comp 8 16 (defaultValue .int) 8 j hj
    rw [hF, hTh] at this
    rw [this, ← arrV_new]
    rfl
  rw [vr_outer] at f2
  have hAr : ArrOfT s cA (.array .int) := fun N9 z9 => by
    obtain ⟨-, k9, hk9, cm9, hkk9⟩ := (hO 0 0 0).1
    exact ⟨(fun q hq => by cases hq), k9, hk9, cm9, hkk9⟩
  have hAi : ArrOfT s comp .int := fun N9 z9 => by
    obtain ⟨-, k9, hk9, cm9, hkk9⟩ := (hI 0 .null).1
    exact ⟨(fun q hq => by cases hq), k9, hk9, cm9, hkk9⟩
  obtain ⟨x1, x2, x3, x4, x5, x6, x7, x8⟩ := hH
  have hR : HR G (sn (swr h (nxt h) (fun i => if i < 8 then some (nxt h + 1 + i) else none)) (nxt h + 9)) s F.heap := by
    refine ⟨by rw [f1, x1]; show _ = gB G + (nxt h + 9); omega, by show nxt h + 9 ≤ NN; omega, fun q hq => by rw [hold q (by omega)]; exact x3 q hq, fun id hid => ?_, fun id h5 h6 k => ?_, x6, x7, x8⟩
    · have hid' : id < nxt h + 9 := hid
      by_cases e : id < nxt h
      · exact (x4 id e).same (hold _ (by omega)) (fun _ => rfl) (fun _ => rfl) (fun k => by show gr (swr h _ _) id k = _; rw [gr_swr, if_neg (by omega)])
      · by_cases e2 : id = nxt h
        · subst e2
          refine cOK_arr (h := h) (k := 3) (by rw [hk]) (fun z => by cases z) (fun z => by cases z) (fun z => by cases z) (fun _ => ⟨cA, hAr, ?_⟩) (by decide)
          rw [← x1, f2, hk]
          congr 2
          funext j
          show _ = mvv G (gr (swr h _ _) _ j)
          rw [gr_swr, if_pos rfl]
          by_cases hj : j < 8
          · rw [if_pos hj, if_pos hj]
            show _ = Value.ref (adr G _)
            have ej : H.size + 1 + j = gB G + (nxt h + 1 + j) := by omega
            rw [adr_lo (by omega), ej]
          · rw [if_neg hj, if_neg hj]
            rfl
        · obtain ⟨i, hi, rfl⟩ : ∃ i, i < 8 ∧ id = nxt h + 1 + i := ⟨id - (nxt h + 1), by omega, by omega⟩
          refine cOK_arr (h := h) (k := 0) (by rw [hkr i hi]) (fun _ => ⟨comp, hAi, ?_⟩) (fun z => by cases z) (fun z => by cases z) (fun z => by cases z) (by decide)
          have := hrow i hi
          rw [x1] at this
          rw [show gB G + (nxt h + 1 + i) = gB G + nxt h + 1 + i by omega, this, hkr i hi]
          congr 2
          funext j
          show _ = Value.int (gi h _ j)
          rw [(x5 _ (by omega) (by omega) j).1]
    · have h5' : nxt h + 9 ≤ id := h5
      obtain ⟨y1, y2, y3⟩ := x5 id (by omega) h6 k
      refine ⟨y1, y2, ?_⟩
      show gr (swr h _ _) id k = none
      rw [gr_swr, if_neg (by omega)]
      exact y3
  have hX : Stand p l e R s m args below meth c F locs (nxt h + 9 - n0) (SLa (nxt h + 9) - SLa n0) := by
    rw [show nxt h + 9 - n0 = nxt h - n0 + 1 + 8 by omega, show SLa (nxt h + 9) - SLa n0 = SLa (nxt h) - SLa n0 + 8 + 8 * 16 by omega]
    exact X'
  obtain ⟨t, a1, b1⟩ := kk F.heap hR F rfl hX
  refine ⟨t, step t ?_, b1⟩
  have e : T.heap.size = gB G + nxt h := by rw [hT, x1]
  rw [e]
  exact a1
end SN
