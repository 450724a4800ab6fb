/-! a method's body, and a call -/
def tgB : Instr → Bool
  | .ifCond _ t => decide (0 ≤ t)
  | .if_icmp _ t => decide (0 ≤ t)
  | .goto t => decide (0 ≤ t)
  | .tableswitch d _ _ offs => decide (0 ≤ d) && offs.all (fun o => decide (0 ≤ o))
  | .lookupswitch d ps => decide (0 ≤ d) && ps.toList.all (fun q => decide (0 ≤ q.2))
  | _ => true
theorem tg_ck0 : ((List.range 100).all fun y => (kc y).all fun e => tgB e.2.1) = true := by decide +kernel
theorem tg_ck1 : ((List.range 100).all fun y => (kc (100 + y)).all fun e => tgB e.2.1) = true := by decide +kernel
theorem tg_ck2 : ((List.range 94).all fun y => (kc (200 + y)).all fun e => tgB e.2.1) = true := by decide +kernel
theorem tg_all {y : Nat} (hy : y < 294) : (kc y).all (fun e => tgB e.2.1) = true := by
  rcases Nat.lt_or_ge y 100 with h | h
  · exact List.all_eq_true.mp tg_ck0 y (List.mem_range.mpr h)
  · rcases Nat.lt_or_ge y 200 with h2 | h2
    · have := List.all_eq_true.mp tg_ck1 (y - 100) (List.mem_range.mpr (by omega))
      rwa [show 100 + (y - 100) = y by omega] at this
    · have := List.all_eq_true.mp tg_ck2 (y - 200) (List.mem_range.mpr (by omega))
      rwa [show 200 + (y - 200) = y by omega] at this
theorem fe_tg {y pc : Nat} {q : Instr × Nat} (hy : y < 294) (h : fe y pc = some q) : tgB q.1 = true := by
  unfold fe at h
  cases hf : (kc y).find? (fun q => q.1 == pc) with
  | none => rw [hf] at h; cases h
  | some e =>
    rw [hf] at h
    cases h
    exact List.all_eq_true.mp (tg_all hy) e (List.mem_of_find?_eq_some hf)
theorem mc_ck : ((List.range 291).all fun m => decide (mC m ≠ 13)) = true := by decide +kernel
def wsy (y : Nat) : List Jvm.Cond := Jvm.Cond.code (mN y) (mB y) (mL y) (mR y) :: lw_gd
def rmy (d n n' : Nat) : Room := { frames := d, cells := n' - n, slots := SLa n' - SLa n, locals := 40 * d }
def mPc (G : GT) (av : List Value) (h : Hp) : Array Value → State → Prop := fun a U => a = (av.map (re G)).toArray ∧ GF G U ∧ HR G h U U.heap
def mQc (G : GT) (r : Option Value) (h' : Hp) : Array Value → State → Outcome → State → Prop := fun _ _ o t => o = .returned (r.map (re G)) ∧ HR G h' t t.heap
def MetD (G : GT) (l : Launch) (d y : Nat) (av : List Value) (h : Hp) (r : Option Value) (h' : Hp) : Prop := Met l (mN y) (wsy y) (rmy d (nxt h) (nxt h')) (mPc G av h) (mQc G r h') (nxt h' - nxt h) (SLa (nxt h') - SLa (nxt h)) (fun q => gB G ≤ q)
theorem mPc_blind {G : GT} {av : List Value} {h : Hp} : FrameBlind (mPc G av h) := fun a U g mk ⟨h1, h2, h3⟩ => ⟨h1, h2.warm (State.WarmedH.refl U), h3.moved (Vm.Alike.refl U.vm)⟩
theorem popA_use : ∀ (k : Nat) (S : Sk) (acc av : List Value) (S' : Sk), popA k S acc = some (av, S') → (∀ v ∈ acc, c1 v = true) → ∃ bv, av = bv ++ acc ∧ S = bv.reverse ++ S' ∧ bv.length = k ∧ ∀ v ∈ av, c1 v = true
  | 0, S, acc, av, S', h, ha => by
    cases h
    exact ⟨[], rfl, rfl, rfl, ha⟩
  | k + 1, [], acc, av, S', h, ha => by cases h
  | k + 1, v :: S, acc, av, S', h, ha => by
    simp only [popA] at h
    split at h
    · rename_i hv
      obtain ⟨bv, rfl, rfl, h3, h4⟩ := popA_use k S (v :: acc) av S' h (fun w hw => by
        rcases List.mem_cons.mp hw with rfl | hw
        · exact hv
        · exact ha w hw)
      exact ⟨bv ++ [v], by simp, by simp, by simp [h3], h4⟩
    · cases h
theorem osw_map (pc : Int) (x : Int) : ∀ (l : List (Int × Int)) (d : Int), Op.lookupswitch.offset (l.map fun q => (q.1, pc + q.2)) (pc + d) x = pc + Op.lookupswitch.offset l d x
  | [], d => rfl
  | (a, o) :: r, d => by
    rw [List.map_cons, Op.lookupswitch.offset_cons, Op.lookupswitch.offset_cons, osw_map pc x r d]
    by_cases h : a = x
    · rw [if_pos h, if_pos h]
    · rw [if_neg h, if_neg h]
section SB
variable {p : Program} {l : Launch} {e : Env} {R : Room} {s : State} {m : MethodId} {args : Array Value} {below : List Frame} {meth : Method} {c : Code} {Q : State → Prop} {G : GT} {y n0 : Nat}
theorem CX.fix (X : CX G y p s m args meth c) : CallFix p m c (mB y) (mL y) s args lw_gd (cn (mC y)) := ⟨X.1, X.2.1, X.2.2.1, X.2.2.2.1, X.2.2.2.2.1⟩
theorem mw_u {m1 : Nat} (hm : m1 < 291) : goodWord (.code (mN m1) (mB m1) (mL m1) (mR m1)) = true ∧ ((mK m1 = 0 ∧ lw_tbl[(mw m1).2.1]? = some (.instanceMethod (mN m1)) ∧ lw_tbl[(mw m1).2.2.1]? = some (.selects (cn (mC m1)) (mN m1) (mN m1))) ∨ (mK m1 = 1 ∧ lw_tbl[(mw m1).2.1]? = some (.static (mN m1))) ∨ (mK m1 ≠ 0 ∧ mK m1 ≠ 1 ∧ lw_tbl[(mw m1).2.1]? = some (.instanceMethod (mN m1)) ∧ (mN m1).name = "<init>" ∧ mR m1 = none)) ∧
    (mN m1).cls = cn (mC m1) ∧ mC m1 < 20 ∧ mL m1 < 16 ∧ (parseMethodDescriptor (mN m1).desc).map (fun d => d.parameters.length) = some (mA m1 - if mK m1 = 1 then 0 else 1) ∧ ((mK m1 = 1 ∨ 1 ≤ mA m1) ∧ mA m1 ≤ mL m1) ∧ ((mN m1).cls ≠ "java/lang/invoke/MethodHandle" ∧ (mN m1).cls ≠ "java/lang/invoke/VarHandle") ∧ plainName (mN m1).cls = true ∧ (mR m1 = none ∨ mR m1 = some .int ∨ mR m1 = some .boolean ∨ mR m1 = some .char ∨ mR m1 = some .byte ∨ mR m1 = some .long) ∧ (mK m1 = 2 → (mN m1).name = "<init>") := by
  have h := mw_all hm
  unfold mwB at h
  simp only [Bool.and_eq_true, decide_eq_true_eq] at h
  obtain ⟨⟨⟨⟨⟨⟨⟨⟨⟨⟨h1, h2⟩, h3⟩, h4⟩, h5⟩, h6⟩, h7⟩, h8⟩, h9⟩, h10⟩, h11⟩ := h
  refine ⟨h1, ?_, h3, h4, h5, h6, h7, h8, h9, ?_, h11⟩
  · split at h2
    · rename_i hk
      simp only [Bool.and_eq_true, decide_eq_true_eq] at h2
      exact Or.inl ⟨hk, h2.1, h2.2⟩
    · rename_i hk
      simp only [decide_eq_true_eq] at h2
      exact Or.inr (Or.inl ⟨hk, h2⟩)
    · rename_i hk1 hk2
      simp only [Bool.and_eq_true, decide_eq_true_eq] at h2
      exact Or.inr (Or.inr ⟨hk1, hk2, h2.1.1, h2.1.2, h2.2⟩)
  · split at h10 <;> rename_i hr <;> first | (rw [hr]; simp; done) | cases h10
theorem ini_w {k : Nat} (hk : k < 20) (h13 : k ≠ 13) : Jvm.Cond.initialized (cn k) ∈ lw_gd := by
  have hi := List.all_eq_true.mp ci_ck k (List.mem_range.mpr hk)
  simp only [decide_eq_true_eq, Bool.or_eq_true, Bool.and_eq_true, beq_iff_eq] at hi
  rcases hi with z | z
  · exact absurd z h13
  · exact gw_in (List.mem_of_getElem? z.1) z.2
theorem wsy_good {m1 : Nat} (hm : m1 < 291) : GoodIn lw_gd (wsy m1) := by
  intro w hw
  rcases List.mem_cons.mp hw with rfl | hw
  · have h1 := (mw_u hm).1
    exact ⟨gw_in (List.mem_of_getElem? (cw_all hm)) h1, good_of_word h1⟩
  · exact gw_gd w hw
theorem CX.callB (X : CX G y p s m args meth c) {m1 d' n n' k pw : Nat} (hm : m1 < 291) (hr : rsv (mC y) k = some (1, m1, pw)) (hR : d' + 1 ≤ R.frames ∧ 40 * d' + 40 ≤ R.locals) :
    CallB R s args (cn (mC y)) k (mN m1) (mB m1) (mL m1) (mR m1) (wsy m1) (rmy d' n n') (n' - n) (SLa n' - SLa n) (mA m1 - if mK m1 = 1 then 0 else 1) := by
  obtain ⟨h1, h2, h3, h4, h5, h6, h7, h8, h9, h10⟩ := mw_u hm
  have h13 : mC m1 ≠ 13 := decide_eq_true_eq.mp (List.all_eq_true.mp mc_ck m1 (List.mem_range.mpr hm))
  have hini := X.2.2.2.2.1 _ (ini_w h4 h13)
  refine ⟨rfl, rfl, hR.1, by show 8 + (mL m1 + 11) + 40 * d' ≤ R.locals; omega, pay_in X.2.2.2.2.1 (wsy_good hm), List.mem_cons_self, X.2.2.2.2.1 _ ((wsy_good hm) _ List.mem_cons_self).1, by rw [h3]; exact hini, h8, fun sig hs => ?_, X.word hr (by decide) (by decide)⟩
  rw [hs] at h6
  exact (Option.some.inj h6).symm
theorem CX.callN (X : CX G y p s m args meth c) {m1 d' n n' k pw : Nat} (hm : m1 < 291) (hr : rsv (mC y) k = some (2, m1, pw)) (hR : d' + 1 ≤ R.frames ∧ 40 * d' + 40 ≤ R.locals) :
    va_CN R s args (cn (mC y)) k (mN m1) "VotedRiver" (mB m1) (mL m1) (mR m1) (wsy m1) (rmy d' n n') (n' - n) (SLa n' - SLa n) (mA m1 - if mK m1 = 1 then 0 else 1) := by
  obtain ⟨h1, h2, h3, h4, h5, h6, h7, h8, h9, h10⟩ := mw_u hm
  have h13 : mC m1 ≠ 13 := decide_eq_true_eq.mp (List.all_eq_true.mp mc_ck m1 (List.mem_range.mpr hm))
  have hini := X.2.2.2.2.1 _ (ini_w h4 h13)
  refine ⟨⟨rfl, rfl, hR.1, by show 8 + (mL m1 + 11) + 40 * d' ≤ R.locals; omega, pay_in X.2.2.2.2.1 (wsy_good hm), List.mem_cons_self⟩, X.2.2.2.2.1 _ ((wsy_good hm) _ List.mem_cons_self).1, by rw [h3]; exact hini, h8, fun sig hs => ?_, va_Nw.use rfl (X.2.2.2.2.2.2.1.2.2.2.2.2.2.2.2.2.2.1 _ _ _ _ hr)⟩
  rw [hs] at h6
  exact (Option.some.inj h6).symm
/-- behind a call -/
theorem so_after (X : CX G y p s m args meth c) {h h' : Hp} {H : Heap} {locs : List Loc} {ls : Array Slot} {pc : Nat} {st0 : List Value} {rest : Sk} {r : Option Value} {L : Lo} {a : Array Value} (hL : LR G L ls c.maxLocals) (hq : ∀ q ∈ locs, gB G ≤ q.base) (h0 : n0 ≤ nxt h) (hle : nxt h ≤ nxt h')
    (hr : va_Run p l e R s m args below meth c H locs (nxt h - n0) (SLa (nxt h) - SLa n0) (nxt h' - nxt h) (SLa (nxt h') - SLa (nxt h)) (F0 m pc ls st0) (rest.map (re G)) (mQc G r h' a) (fun q => gB G ≤ q))
    (k : Go p l e R s m args below meth c Q G n0 h' L (pushR r rest) (pc + 3)) : W p l e R s m args below meth c H locs (nxt h - n0) (SLa (nxt h) - SLa n0) Q (F0 m pc ls st0) := by
  intro T hT Xs
  obtain ⟨v, st₀, t, T', Ls, g0, X', hLs, e1, e2, ⟨hv, hH⟩, st⟩ := hr T hT Xs
  have hv : v = r.map (re G) := by cases hv; rfl
  subst hv
  have m1 := SLa_mono h0
  have m2 := SLa_mono hle
  rw [show nxt h - n0 + (nxt h' - nxt h) = nxt h' - n0 by omega, show SLa (nxt h) - SLa n0 + (SLa (nxt h') - SLa (nxt h)) = SLa (nxt h') - SLa n0 by omega] at X'
  have hal : t.vm.Alike s.vm := by rw [← e2]; exact X'.warmed.alike.symm
  have hst : (pushR r rest).map (re G) = (r.map (re G)).toList ++ rest.map (re G) := by cases r <;> rfl
  obtain ⟨t2, a1, b1⟩ := k T'.heap (locs ++ Ls) ls (by rw [e1]; exact hH.moved hal) hL (fun q hq2 => by
    rcases List.mem_append.mp hq2 with z | z
    · exact hq q z
    · exact hLs q z) (Nat.le_trans h0 hle) T' rfl X'
  rw [hst] at a1
  exact ⟨t2, st t2 a1, b1⟩
end SB
