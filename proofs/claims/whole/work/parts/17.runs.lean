theorem ev_cases {d m1 : Nat} {av : List Value} {h : Hp} {r : Option Value} {h' : Hp} (H : ev (d + 1) m1 av h r h') : (m1 = 294 ∧ cpS av h r h') ∨ (m1 = 295 ∧ (∃ a, av = [.ref a]) ∧ r = none ∧ h' = h) ∨ (m1 = 291 ∧ ∃ a b : Int32, av = [.int a, .int b] ∧ r = some (.int (if a < b then b else a)) ∧ h' = h) ∨ (m1 = 292 ∧ ∃ a b : Int32, av = [.int a, .int b] ∧ r = some (.int (if b < a then b else a)) ∧ h' = h) ∨ (m1 < 291 ∧ av.length = mA m1 ∧ rcv m1 av h = true) := by
  simp only [ev] at H
  split at H
  · rename_i e; exact Or.inl ⟨e, H⟩
  · split at H
    · rename_i e; exact Or.inr (Or.inl ⟨e, H⟩)
    · split at H
      · rename_i e; exact Or.inr (Or.inr (Or.inl ⟨e, H⟩))
      · split at H
        · rename_i e; exact Or.inr (Or.inr (Or.inr (Or.inl ⟨e, H⟩)))
        · exact Or.inr (Or.inr (Or.inr (Or.inr ⟨H.1, H.2.1, H.2.2.1⟩)))
theorem nrm_nd {c pc : Nat} {raw i : Instr} (hn : nrm c pc raw = some i) (hi : ¬ isD i = true) : (∃ q o, raw = .ifCond q o ∧ i = .ifCond q (pc + o)) ∨ (∃ q o, raw = .if_icmp q o ∧ i = .if_icmp q (pc + o)) ∨ (∃ o, raw = .goto o ∧ i = .goto (pc + o)) ∨
    (∃ d lo hi offs, raw = .tableswitch d lo hi offs ∧ i = .tableswitch (pc + d) lo hi (offs.map fun o => (pc : Int) + o)) ∨ (∃ d ps, raw = .lookupswitch d ps ∧ srt ps = true ∧ i = .lookupswitch (pc + d) (ps.map fun q => (q.1, (pc : Int) + q.2))) ∨
    (raw = .ireturn ∧ i = .ireturn) ∨ (raw = .lreturn ∧ i = .lreturn) ∨ (raw = .return_ ∧ i = .return_) ∨ (∃ m k, i = .invokeinterface m k) := by
  cases raw <;> simp only [nrm] at hn <;> first
    | (cases hn; done)
    | (cases hn; exact absurd rfl hi)
    | (cases hn; exact Or.inl ⟨_, _, rfl, rfl⟩)
    | (cases hn; exact Or.inr (Or.inl ⟨_, _, rfl, rfl⟩))
    | (cases hn; exact Or.inr (Or.inr (Or.inl ⟨_, rfl, rfl⟩)))
    | (cases hn; exact Or.inr (Or.inr (Or.inr (Or.inl ⟨_, _, _, _, rfl, rfl⟩))))
    | (cases hn; exact Or.inr (Or.inr (Or.inr (Or.inr (Or.inr (Or.inl ⟨rfl, rfl⟩))))))
    | (cases hn; exact Or.inr (Or.inr (Or.inr (Or.inr (Or.inr (Or.inr (Or.inl ⟨rfl, rfl⟩)))))))
    | (cases hn; exact Or.inr (Or.inr (Or.inr (Or.inr (Or.inr (Or.inr (Or.inr (Or.inl ⟨rfl, rfl⟩))))))))
    | skip
  case lookupswitch d ps =>
    split at hn
    · rename_i hs
      cases hn
      exact Or.inr (Or.inr (Or.inr (Or.inr (Or.inl ⟨_, _, rfl, hs, rfl⟩))))
    · cases hn
  case newarray t => cases t <;> simp only [nrm] at hn <;> cases hn <;> exact absurd rfl hi
  all_goals (repeat' split at hn) <;> first | (cases hn; done) | (cases hn; exact absurd rfl hi) | (cases hn; exact Or.inr (Or.inr (Or.inr (Or.inr (Or.inr (Or.inr (Or.inr (Or.inr ⟨_, _, rfl⟩))))))))
section SR
variable {p : Program} {l : Launch} {e : Env} {R : Room} {s : State} {m : MethodId} {args : Array Value} {below : List Frame} {meth : Method} {c : Code} {Q : State → Prop} {G : GT} {y n0 : Nat}
theorem body (X : CX G y p s m args meth c) (hy : y < 294) {d : Nat} (hC : CalOK G l d) (hR : d ≤ R.frames ∧ 40 * d ≤ R.locals) {P : QT} (hret : RetOK p l e R s m args below meth c Q G y n0 P) (hcap : ∀ r h1, P r h1 → nxt h1 - n0 ≤ R.cells ∧ SLa (nxt h1) - SLa n0 ≤ R.slots) :
    ∀ (n pc : Nat) (L : Lo) (S : Sk) (h : Hp), wpF (ev d) P y n pc L S h → Go p l e R s m args below meth c Q G n0 h L S pc := by
  intro n
  induction n with
  | zero => intro pc L S h H; exact H.elim
  | succ n ih =>
    intro pc L S h Hw
    have caps : ∀ {pc L S h}, wpF (ev d) P y n pc L S h → nxt h - n0 ≤ R.cells ∧ SLa (nxt h) - SLa n0 ≤ R.slots := by
      intro pc L S h z
      obtain ⟨r, h1, z1, z2, -⟩ := wpF_wit (ev_nxt d) _ _ _ _ _ z
      have := hcap r h1 z2
      have := SLa_mono z1
      constructor <;> omega
    obtain ⟨q, hq', hk⟩ := ob_ex Hw
    obtain ⟨i, nx⟩ := q
    obtain ⟨raw, len, hd, hn, rfl, hl⟩ := fe_ok hy hq'
    have htg := fe_tg hy hq'
    have hk : ex1 (ev d) P y (wpF (ev d) P y n) (wpF (ev d) P y n (pc + len)) i L S h := hk
    by_cases hi : isD i = true
    · rw [ex1_def hi] at hk
      obtain ⟨q2, hs, hk2⟩ := ob_ex hk
      exact stepI_ok X hd hl hn hi hs (caps hk2) (ih _ _ _ _ hk2)
    · have tgt : ∀ {o : Int}, 0 ≤ (pc : Int) + o → (pc : Int) + o = (((pc : Int) + o).toNat : Int) := fun h => (Int.toNat_of_nonneg h).symm
      rcases nrm_nd hn hi with ⟨cq, o, rfl, rfl⟩ | ⟨cq, o, rfl, rfl⟩ | ⟨o, rfl, rfl⟩ | ⟨dd, lo, hh, offs, rfl, rfl⟩ | ⟨dd, ps, rfl, hsr, rfl⟩ | ⟨rfl, rfl⟩ | ⟨rfl, rfl⟩ | ⟨rfl, rfl⟩ | ⟨m1, k, rfl⟩
      · have hl := beq_iff_eq.mp hl
        subst hl
        have ht := tgt (decide_eq_true_eq.mp htg)
        intro H locs ls hH hL hq h0
        simp only [ex1] at hk
        split at hk
        · cases cq <;> simp only [br1] at hk
          · exact lv_if_eq X.1 X.2.1 hd ht (fun z => ih _ _ _ _ (by rw [if_pos z] at hk; exact hk) H locs ls hH hL hq h0) (fun z => ih _ _ _ _ (by rw [if_neg z] at hk; exact hk) H locs ls hH hL hq h0)
          · exact lv_if_ne X.1 X.2.1 hd ht (fun z => ih _ _ _ _ (by rw [if_neg z] at hk; exact hk) H locs ls hH hL hq h0) (fun z => ih _ _ _ _ (by rw [if_pos z] at hk; exact hk) H locs ls hH hL hq h0)
          · exact lv_if_lt X.1 X.2.1 hd ht (fun z => ih _ _ _ _ (by rw [if_pos z] at hk; exact hk) H locs ls hH hL hq h0) (fun z => ih _ _ _ _ (by rw [if_neg z] at hk; exact hk) H locs ls hH hL hq h0)
          · exact lv_if_ge X.1 X.2.1 hd ht (fun z => ih _ _ _ _ (by rw [if_neg (Int32.not_lt.mpr z)] at hk; exact hk) H locs ls hH hL hq h0) (fun z => ih _ _ _ _ (by rw [if_pos (Int32.not_le.mp z)] at hk; exact hk) H locs ls hH hL hq h0)
          · exact lv_if_gt X.1 X.2.1 hd ht (fun z => ih _ _ _ _ (by rw [if_neg (Int32.not_le.mpr z)] at hk; exact hk) H locs ls hH hL hq h0) (fun z => ih _ _ _ _ (by rw [if_pos (Int32.not_lt.mp z)] at hk; exact hk) H locs ls hH hL hq h0)
          · exact lv_if_le X.1 X.2.1 hd ht (fun z => ih _ _ _ _ (by rw [if_pos z] at hk; exact hk) H locs ls hH hL hq h0) (fun z => ih _ _ _ _ (by rw [if_neg z] at hk; exact hk) H locs ls hH hL hq h0)
        · exact hk.elim
      · have hl := beq_iff_eq.mp hl
        subst hl
        have ht := tgt (decide_eq_true_eq.mp htg)
        intro H locs ls hH hL hq h0
        simp only [ex1] at hk
        split at hk
        · cases cq <;> simp only [br2] at hk
          · exact lv_icmp_eq X.1 X.2.1 hd ht (fun z => ih _ _ _ _ (by rw [if_pos z] at hk; exact hk) H locs ls hH hL hq h0) (fun z => ih _ _ _ _ (by rw [if_neg z] at hk; exact hk) H locs ls hH hL hq h0)
          · exact lv_icmp_ne X.1 X.2.1 hd ht (fun z => ih _ _ _ _ (by rw [if_neg z] at hk; exact hk) H locs ls hH hL hq h0) (fun z => ih _ _ _ _ (by rw [if_pos z] at hk; exact hk) H locs ls hH hL hq h0)
          · exact lv_icmp_lt X.1 X.2.1 hd ht (fun z => ih _ _ _ _ (by rw [if_pos z] at hk; exact hk) H locs ls hH hL hq h0) (fun z => ih _ _ _ _ (by rw [if_neg z] at hk; exact hk) H locs ls hH hL hq h0)
          · exact lv_icmp_ge X.1 X.2.1 hd ht (fun z => ih _ _ _ _ (by rw [if_neg (Int32.not_lt.mpr z)] at hk; exact hk) H locs ls hH hL hq h0) (fun z => ih _ _ _ _ (by rw [if_pos (Int32.not_le.mp z)] at hk; exact hk) H locs ls hH hL hq h0)
          · exact lv_icmp_gt X.1 X.2.1 hd ht (fun z => ih _ _ _ _ (by rw [if_pos z] at hk; exact hk) H locs ls hH hL hq h0) (fun z => ih _ _ _ _ (by rw [if_neg z] at hk; exact hk) H locs ls hH hL hq h0)
          · exact lv_icmp_le X.1 X.2.1 hd ht (fun z => ih _ _ _ _ (by rw [if_neg (Int32.not_lt.mpr z)] at hk; exact hk) H locs ls hH hL hq h0) (fun z => ih _ _ _ _ (by rw [if_pos (Int32.not_le.mp z)] at hk; exact hk) H locs ls hH hL hq h0)
        · exact hk.elim
      · have hl := beq_iff_eq.mp hl
        subst hl
        have ht := tgt (decide_eq_true_eq.mp htg)
        intro H locs ls hH hL hq h0
        exact lv_goto X.1 X.2.1 hd ht (ih _ _ _ _ hk H locs ls hH hL hq h0)
      · simp only [tgB, Bool.and_eq_true, decide_eq_true_eq] at htg
        intro H locs ls hH hL hq h0
        simp only [ex1] at hk
        split at hk
        · rename_i x S' hk0
          by_cases hx : x.toInt < lo ∨ hh < x.toInt
          · rw [if_pos hx] at hk
            exact lv_tableOut X.1 X.2.1 hd hx (tgt htg.1) (ih _ _ _ _ hk H locs ls hH hL hq h0)
          · rw [if_neg hx] at hk
            obtain ⟨o', ho, hk⟩ := ob_ex hk
            have hpos := Array.all_eq_true.mp htg.2
            rw [Array.getElem?_map] at ho
            cases ho2 : offs[(x.toInt - lo).toNat]? with
            | none => rw [ho2] at ho; cases ho
            | some o =>
              rw [ho2] at ho
              cases ho
              have h0o : 0 ≤ (pc : Int) + o := by
                obtain ⟨w1, w2⟩ := Array.getElem?_eq_some_iff.mp ho2
                have := hpos (x.toInt - lo).toNat (by rw [Array.size_map]; exact w1)
                rw [Array.getElem_map, w2] at this
                exact decide_eq_true_eq.mp this
              exact lv_tableIn X.1 X.2.1 hd (fun z => hx (Or.inl z)) (fun z => hx (Or.inr z)) ho2 (tgt h0o) (ih _ _ _ _ hk H locs ls hH hL hq h0)
        · exact hk.elim
      · simp only [tgB, Bool.and_eq_true, decide_eq_true_eq] at htg
        intro H locs ls hH hL hq h0
        simp only [ex1] at hk
        split at hk
        · rename_i x S' hk0
          rw [Array.toList_map, osw_map] at hk
          have h0o : 0 ≤ (pc : Int) + Op.lookupswitch.offset ps.toList dd x.toInt := by
            rw [← osw_map]
            have hall := List.all_eq_true.mp htg.2
            rw [Array.toList_map] at hall
            have : ∀ (lst : List (Int × Int)) (dv : Int), 0 ≤ dv → (∀ q ∈ lst, 0 ≤ q.2) → 0 ≤ Op.lookupswitch.offset lst dv x.toInt := by
              intro lst
              induction lst with
              | nil => intro dv h1 _; exact h1
              | cons a r ihl =>
                intro dv h1 h2
                obtain ⟨a1, a2⟩ := a
                rw [Op.lookupswitch.offset_cons]
                split
                · exact h2 (a1, a2) List.mem_cons_self
                · exact ihl dv h1 (fun q hq => h2 q (List.mem_cons_of_mem _ hq))
            exact this _ _ htg.1 (fun q hq => decide_eq_true_eq.mp (hall q hq))
          exact lv_lookup X.1 X.2.1 hd hsr rfl (tgt h0o) (ih _ _ _ _ hk H locs ls hH hL hq h0)
        · exact hk.elim
      · have hl := beq_iff_eq.mp hl
        subst hl
        intro H locs ls hH hL hq h0
        simp only [ex1] at hk
        split at hk
        · exact hret _ _ H locs ls pc hk.2 hH hq h0 (Or.inr (Or.inl ⟨_, rfl, hk.1, hd⟩))
        · exact hk.elim
      · have hl := beq_iff_eq.mp hl
        subst hl
        intro H locs ls hH hL hq h0
        simp only [ex1] at hk
        split at hk
        · exact hret _ _ H locs ls pc hk.2 hH hq h0 (Or.inr (Or.inr ⟨_, rfl, hk.1, hd⟩))
        · exact hk.elim
      · have hl := beq_iff_eq.mp hl
        subst hl
        intro H locs ls hH hL hq h0
        simp only [ex1] at hk
        split at hk
        · exact hret _ _ H locs ls pc hk.2 hH hq h0 (Or.inl ⟨rfl, hk.1, hd⟩)
        · exact hk.elim
      · simp only [ex1] at hk
        obtain ⟨⟨av, S'⟩, hpop, h4, r, h', hev, hK⟩ := ob_ex hk
        obtain ⟨bv, e1, rfl, e3, hc1⟩ := popA_use _ _ _ _ _ hpop (fun v hv => by cases hv)
        rw [List.append_nil] at e1
        subst e1
        have hle := ev_nxt _ _ _ _ _ _ hev
        have hcp := caps hK
        have KK := ih _ _ _ _ hK
        cases d with
        | zero => exact hev.elim
        | succ d' =>
          have hRR : d' + 1 ≤ R.frames ∧ 40 * d' + 40 ≤ R.locals := ⟨hR.1, by omega⟩
          have hR1 : 1 ≤ R.frames ∧ 40 ≤ R.locals := ⟨by omega, by omega⟩
          rcases ev_cases hev with ⟨rfl, hs⟩ | ⟨rfl, ⟨a, rfl⟩, rfl, rfl⟩ | ⟨rfl, a, b, rfl, rfl, rfl⟩ | ⟨rfl, a, b, rfl, rfl, rfl⟩ | ⟨hm, ha, hrc⟩
          · rcases nrm_inv hn with ⟨idx, pw, kind, hkd, hr, -⟩ | ⟨-, idx, t, pw, rfl, hr⟩ | ⟨z, -⟩
            · exact absurd (rs_small hr hkd) (by decide)
            · have hl := beq_iff_eq.mp hl
              subst hl
              exact so_copy X hd hr hs h4 hR1 KK
            · exact absurd z (by decide)
          · rcases nrm_inv hn with ⟨idx, pw, kind, hkd, hr, -⟩ | ⟨z, -⟩ | ⟨-, idx, t, pw, rfl, hr⟩
            · exact absurd (rs_small hr hkd) (by decide)
            · exact absurd z (by decide)
            · have hl := beq_iff_eq.mp hl
              subst hl
              exact so_objInit X hd hr h4 hR1 KK
          · rcases nrm_inv hn with ⟨idx, pw, kind, hkd, hr, hraw⟩ | ⟨z, -⟩ | ⟨z, -⟩
            · rcases hkd with rfl | rfl
              · rcases hraw with ⟨-, z⟩ | ⟨rfl, -⟩ | ⟨-, z⟩
                · exact absurd z (by decide +kernel)
                · have hl := beq_iff_eq.mp hl
                  subst hl
                  exact so_max X hd hr h4 hR1 hcp KK
                · exact absurd z (by decide +kernel)
              · exact absurd (rs_nest hr) (by decide)
            · exact absurd z (by decide)
            · exact absurd z (by decide)
          · rcases nrm_inv hn with ⟨idx, pw, kind, hkd, hr, hraw⟩ | ⟨z, -⟩ | ⟨z, -⟩
            · rcases hkd with rfl | rfl
              · rcases hraw with ⟨-, z⟩ | ⟨rfl, -⟩ | ⟨-, z⟩
                · exact absurd z (by decide +kernel)
                · have hl := beq_iff_eq.mp hl
                  subst hl
                  exact so_min X hd hr h4 hR1 hcp KK
                · exact absurd z (by decide +kernel)
              · exact absurd (rs_nest hr) (by decide)
            · exact absurd z (by decide)
            · exact absurd z (by decide)
          · exact so_call X hm hd hl hn e3 ha hrc h4 hc1 (hC d' rfl m1 _ h r h' hev hm hc1) hRR hle hcp KK
/-- all calls -/
theorem cal_ok (G : GT) (l : Launch) : ∀ d, CalOK G l d := by
  intro d
  induction d with
  | zero => intro d' h; cases h
  | succ d ih =>
    intro d' hd m1 av h r h' hev hm hc1
    cases hd
    obtain ⟨g1, g2, g3, g4, g5, g6, g7, g8, g9, g10, g11⟩ := mw_u hm
    have hrn : ∃ n, av.length = mA m1 ∧ wpF (ev d) (fun r1 h1 => r1 = r ∧ h1 = h') m1 n 0 (entL m1 av) [] h := by
      simp only [ev] at hev
      have nn : ∀ k, 291 ≤ k → m1 ≠ k := fun k hk e => by omega
      rw [if_neg (nn _ (by decide)), if_neg (nn _ (by decide)), if_neg (nn _ (by decide)), if_neg (nn _ (by decide))] at hev
      obtain ⟨-, a, -, n, b⟩ := hev
      exact ⟨n, a, b⟩
    obtain ⟨n, hlen, hwp⟩ := hrn
    refine Met.ofW (cc := mB m1) (maxL := mL m1) (ret := mR m1) g9 rfl ?_
    intro p e s m args below meth c s₁ B hml hv
    obtain ⟨rfl, hG, hH⟩ := hv
    have hts0 := atoms_spec (ws := wsy m1) B.pre
    have hown : s.vm.findClass (cn (mC m1)) = some m.cls := by rw [← g3]; exact findClass_of_methodNamed B.named
    have hin : mK m1 = 2 → meth.name = "<init>" := fun hk => (name_of_methodNamed B.named B.method).1.trans (g11 hk)
    have X : CX G m1 p s m (av.map (re G)).toArray meth c := ⟨B.exec, B.bytes, hml, hown, fun w hw => hts0 w (List.mem_cons_of_mem _ hw), hin, hG, g4⟩
    have hF := X.cat
    have hr := B.returns
    have hlocks := B.notSynchronized
    have hle : nxt h ≤ nxt h' := by
      obtain ⟨_, _, z, ⟨-, rfl⟩, -⟩ := wpF_wit (ev_nxt d) _ _ _ _ _ hwp
      exact z
    have hret : RetOK p l e (headSpec (wsy m1) (rmy d (nxt h) (nxt h'))).room s m (av.map (re G)).toArray below meth c (MQ below (mQc G r h') (av.map (re G)).toArray s (nxt h' - nxt h) (SLa (nxt h') - SLa (nxt h)) (fun q => gB G ≤ q)) G m1 (nxt h) (fun r1 h1 => r1 = r ∧ h1 = h') := by
      rintro r1 h1 H locs ls pc ⟨rfl, rfl⟩ hH1 hq h0 hk
      rcases hk with ⟨rfl, hk, hd⟩ | ⟨x, rfl, ⟨t, ht, hnr⟩, hd⟩ | ⟨x, rfl, hk, hd⟩
      · exact W.vret X.1 X.2.1 (by rw [hr, hk]) (fun t ht hW => ⟨rfl, by rw [ht]; exact hH1.moved hW.alike⟩) hq hd
      · exact W.zret X.1 X.2.1 (by rw [hr, ht]) hnr (fun t ht hW => ⟨rfl, by rw [ht]; exact hH1.moved hW.alike⟩) hq hd
      · exact W.lret X.1 X.2.1 (by rw [hr, hk]) (fun t ht hW => ⟨rfl, by rw [ht]; exact hH1.moved hW.alike⟩) hq hd
    have hb := body (below := below) (l := l) (e := e) X (by omega) ih (R := (headSpec (wsy m1) (rmy d (nxt h) (nxt h'))).room) ⟨Nat.le_refl _, Nat.le_refl _⟩ hret (fun r1 h1 hp => by obtain ⟨rfl, rfl⟩ := hp; exact ⟨Nat.le_refl _, Nat.le_refl _⟩) n 0 (entL m1 av) [] h hwp
    have hall : ∀ v ∈ av.map (re G), v.category = 1 := fun v hv => by
      obtain ⟨u, hu, rfl⟩ := List.mem_map.mp hv
      exact re_cat hF (hc1 u hu)
    have hsl : ∀ vs : List Value, (∀ v ∈ vs, v.category = 1) → (lg_sl vs).length = vs.length := by
      intro vs
      induction vs with
      | nil => intro _; rfl
      | cons v vs ihv =>
        intro h
        have h1 := h v List.mem_cons_self
        have h2 := ihv (fun w hw => h w (List.mem_cons_of_mem _ hw))
        unfold lg_sl at h2 ⊢
        rw [List.flatMap_cons, if_neg (by omega), List.length_append, h2]
        simp
        omega
    have hLn : (lg_sl (av.map (re G))).length ≤ mL m1 := by
      rw [hsl _ hall, List.length_map]
      have := g7.2
      omega
    have hl := lv_entry (av.map (re G)) hLn
    rw [lg_entry_eq]
    generalize (lg_sl (av.map (re G)) ++ List.replicate (mL m1 - (lg_sl (av.map (re G))).length) Slot.unset).toArray = ls at hl ⊢
    have hLR : LR G (entL m1 av) ls c.maxLocals := by
      rw [hml]
      refine ⟨?_, lv_more hl fun q hq => ?_⟩
      · unfold entL
        rw [List.length_append, List.length_map, List.length_replicate]
        have := g7.2
        omega
      · obtain ⟨i, w⟩ := q
        obtain ⟨v, hv, rfl⟩ := lst_mem.mp hq
        have hi : i < av.length ∧ av[i]? = some v := by
          unfold entL at hv
          rcases Nat.lt_or_ge i av.length with z | z
          · rw [List.getElem?_append_left (by rw [List.length_map]; exact z), List.getElem?_map] at hv
            cases ha : av[i]? with
            | none => rw [ha] at hv; cases hv
            | some u => rw [ha] at hv; cases hv; exact ⟨z, rfl⟩
          · rw [List.getElem?_append_right (by rw [List.length_map]; exact z)] at hv
            have := List.mem_of_getElem? hv
            rw [List.mem_replicate] at this
            cases this.2
        have : ∀ (vs : List Value) (j i : Nat) (u : Value), (∀ v ∈ vs, v.category = 1) → vs[i]? = some u → (j + i, u) ∈ lv_args j vs := by
          intro vs
          induction vs with
          | nil => intro j i u _ h; cases h
          | cons v vs ihv =>
            intro j i u hc h
            have h1 := hc v List.mem_cons_self
            unfold lv_args
            rw [if_neg (by omega)]
            cases i with
            | zero => cases h; exact List.mem_cons_self
            | succ i =>
              refine List.mem_cons_of_mem _ ?_
              have := ihv (j + 1) i u (fun w hw => hc w (List.mem_cons_of_mem _ hw)) h
              rwa [show j + 1 + i = j + (i + 1) by omega] at this
        have := this (av.map (re G)) 0 i (re G v) hall (by rw [List.getElem?_map, hi.2]; rfl)
        rwa [Nat.zero_add] at this
    have := hb s.heap [] ls hH hLR (fun q hq => by cases hq) (Nat.le_refl _)
    rw [Nat.sub_self, Nat.sub_self] at this
    exact this
end SR
