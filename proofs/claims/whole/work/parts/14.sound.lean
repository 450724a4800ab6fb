/-! an instruction that goes on behind itself -/
theorem ldL_use {t k : Nat} {L : Lo} {S : Sk} {h : Hp} {q : Lo × Sk × Hp} (hs : ldL t k L S h = some q) : ∃ v, L.getD k none = some v ∧ vty v = t ∧ q = (L, v :: S, h) := by
  unfold ldL at hs
  split at hs
  · rename_i v hv
    split at hs
    · rename_i ht
      cases hs
      exact ⟨v, hv, ht, rfl⟩
    · cases hs
  · cases hs
theorem stV_use {t k : Nat} {L : Lo} {S : Sk} {h : Hp} {q : Lo × Sk × Hp} (hs : stV t k L S h = some q) : ∃ v S', S = v :: S' ∧ vty v = t ∧ k < L.length ∧ q = (setL L k v, S', h) := by
  unfold stV at hs
  split at hs
  · split at hs
    · rename_i ht
      cases hs
      exact ⟨_, _, rfl, ht.1, ht.2, rfl⟩
    · cases hs
  · cases hs
theorem stV2_use {k : Nat} {L : Lo} {S : Sk} {h : Hp} {q : Lo × Sk × Hp} (hs : stV2 k L S h = some q) : ∃ v S', S = .long v :: S' ∧ k + 1 < L.length ∧ q = (setN (setL L k (.long v)) (k + 1), S', h) := by
  unfold stV2 at hs
  split at hs
  · split at hs
    · rename_i ht
      cases hs
      exact ⟨_, _, rfl, ht, rfl⟩
    · cases hs
  · cases hs
theorem incL_use {k : Nat} {n : Int} {L : Lo} {S : Sk} {h : Hp} {q : Lo × Sk × Hp} (hs : incL k n L S h = some q) : ∃ x, L.getD k none = some (.int x) ∧ q = (setL L k (.int (x + Int32.ofInt n)), S, h) := by
  unfold incL at hs
  split at hs
  · rename_i x hx
    cases hs
    exact ⟨x, hx, rfl⟩
  · cases hs
theorem un_use {f : Int32 → Value} {L : Lo} {S : Sk} {h : Hp} {q : Lo × Sk × Hp} (hs : un f L S h = some q) : ∃ x S', S = .int x :: S' ∧ q = (L, f x :: S', h) := by
  unfold un at hs
  split at hs
  · cases hs; exact ⟨_, _, rfl, rfl⟩
  · cases hs
theorem bin_use {f : Int32 → Int32 → Int32} {L : Lo} {S : Sk} {h : Hp} {q : Lo × Sk × Hp} (hs : bin f L S h = some q) : ∃ b a S', S = .int b :: .int a :: S' ∧ q = (L, .int (f a b) :: S', h) := by
  unfold bin at hs
  split at hs
  · cases hs; exact ⟨_, _, _, rfl, rfl⟩
  · cases hs
theorem bind0_use {f : Int32 → Int32 → Int32} {L : Lo} {S : Sk} {h : Hp} {q : Lo × Sk × Hp} (hs : bind0 f L S h = some q) : ∃ b a S', S = .int b :: .int a :: S' ∧ ¬ b = 0 ∧ q = (L, .int (f a b) :: S', h) := by
  unfold bind0 at hs
  split at hs
  · split at hs
    · cases hs
    · rename_i hb
      cases hs; exact ⟨_, _, _, rfl, hb, rfl⟩
  · cases hs
theorem binl_use {f : Int64 → Int64 → Value} {L : Lo} {S : Sk} {h : Hp} {q : Lo × Sk × Hp} (hs : binl f L S h = some q) : ∃ b a S', S = .long b :: .long a :: S' ∧ q = (L, f a b :: S', h) := by
  unfold binl at hs
  split at hs
  · cases hs; exact ⟨_, _, _, rfl, rfl⟩
  · cases hs
theorem newA_use {t : Nat} {L : Lo} {S : Sk} {h : Hp} {q : Lo × Sk × Hp} (hs : newA t L S h = some q) : ∃ n S', S = .int n :: S' ∧ ¬ n < 0 ∧ kd (nxt h) = (t, n.toNatClampNeg) ∧ nxt h < NN ∧ q = (L, .ref (nxt h) :: S', sn h (nxt h + 1)) := by
  unfold newA at hs
  split at hs
  · split at hs
    · rename_i hc
      cases hs; exact ⟨_, _, rfl, hc.1, hc.2.1, hc.2.2, rfl⟩
    · cases hs
  · cases hs
theorem map_use {α β : Type} {o : Option α} {f : α → β} {q : β} (hs : o.map f = some q) : ∃ v, o = some v ∧ q = f v := by
  cases o with
  | none => cases hs
  | some v => cases hs; exact ⟨v, rfl, rfl⟩
theorem vty0 {v : Value} (h : vty v = 0) : ∃ x, v = .int x := by cases v <;> first | exact ⟨_, rfl⟩ | cases h
theorem vty1 {v : Value} (h : vty v = 1) : ∃ x, v = .long x := by cases v <;> first | exact ⟨_, rfl⟩ | cases h
theorem vty2 {v : Value} (h : vty v = 2) : ∃ x, v = .ref x := by cases v <;> first | exact ⟨_, rfl⟩ | cases h
theorem bi_ck : ∀ n : Nat, n < 128 → (Int8.ofInt (n : Int)).toInt32 = nI n := by decide +kernel
theorem si_ck {n : Nat} (h : n < 32768) : (Int16.ofInt (n : Int)).toInt32 = nI n := by
  apply Int32.toInt_inj.mp
  rw [nI_toInt (by omega), Int16.toInt_toInt32, Int16.toInt_ofInt]
  have e : Int16.size = 65536 := rfl
  rw [e]
  simp only [Int.bmod]
  omega
theorem ic_ck : ∀ n : Nat, n < 6 → Int32.ofInt (n : Int) = nI n := by decide +kernel
section SD
variable {p : Program} {l : Launch} {e : Env} {R : Room} {s : State} {m : MethodId} {args : Array Value} {below : List Frame} {meth : Method} {c : Code} {Q : State → Prop} {G : GT} {y n0 : Nat}
theorem locs_add {locs : List Loc} {a i : Nat} (h : ∀ q ∈ locs, gB G ≤ q.base) : ∀ q ∈ locs ++ [(⟨gB G + a, i⟩ : Loc)], gB G ≤ q.base := by
  intro q hq
  rcases List.mem_append.mp hq with z | z
  · exact h q z
  · rw [List.mem_singleton.mp z]
    exact Nat.le_add_right _ _
theorem stepI_ok (X : CX G y p s m args meth c) {raw i : Instr} {len pc : Nat} {L : Lo} {S : Sk} {h : Hp} {q : Lo × Sk × Hp} (hd : decode (mB y) pc = .ok (raw, len)) (hl : lnB len raw = true) (hn : nrm (mC y) pc raw = some i) (hi : isD i = true) (hs : stepI y i L S h = some q) (hcap : nxt q.2.2 - n0 ≤ R.cells ∧ SLa (nxt q.2.2) - SLa n0 ≤ R.slots)
    (k : Go p l e R s m args below meth c Q G n0 q.2.2 q.1 q.2.1 (pc + len)) : Go p l e R s m args below meth c Q G n0 h L S pc := by
  intro H locs ls hH hL hq h0
  have hF := X.cat
  cases raw <;> simp only [nrm] at hn <;> first | (cases hn; done) | skip
  case iconst n =>
    have hl := beq_iff_eq.mp hl
    subst hl
    split at hn
    · rename_i e1
      cases hn
      cases hs
      exact lv_iconst X.1 X.2.1 hd (by rw [e1]; rfl) (k H locs ls hH hL hq h0)
    · split at hn
      · rename_i e1
        cases hn
        obtain ⟨j, rfl⟩ := Int.eq_ofNat_of_zero_le e1.1
        cases hs
        exact lv_iconst X.1 X.2.1 hd (ic_ck j (by omega)) (k H locs ls hH hL hq h0)
      · cases hn
  case bipush n =>
    have hl := beq_iff_eq.mp hl
    subst hl
    split at hn
    · rename_i e1
      cases hn
      obtain ⟨j, rfl⟩ := Int.eq_ofNat_of_zero_le e1.1
      cases hs
      exact lv_bipush X.1 X.2.1 hd (bi_ck j (by omega)) (k H locs ls hH hL hq h0)
    · cases hn
  case sipush n =>
    have hl := beq_iff_eq.mp hl
    subst hl
    split at hn
    · rename_i e1
      cases hn
      obtain ⟨j, rfl⟩ := Int.eq_ofNat_of_zero_le e1.1
      cases hs
      exact lv_sipush X.1 X.2.1 hd (si_ck (by omega)) (k H locs ls hH hL hq h0)
    · cases hn
  case ldc n =>
    have hl := beq_iff_eq.mp hl
    subst hl
    split at hn
    · rename_i v pw hr
      cases hn
      cases hs
      exact lv_ldc X.1 X.2.1 X.2.2.2.1 (X.word hr (by decide) (by decide)) hd (k H locs ls hH hL hq h0)
    · rename_i v pw hr
      cases hn
      simp only [stepI] at hs
      split at hs
      · rename_i h25
        cases hs
        have hb := rs_wd hr
        unfold wdB at hb
        simp only [Bool.and_eq_true, decide_eq_true_eq] at hb
        obtain ⟨q1, q2, -⟩ := hb.1.1.1.2 trivial
        have hZ := X.2.2.2.2.2.2.1.2.2.2.2.2.2.2.2.2.1 v h25
        rw [q1, q2] at hZ
        have ea : adr G (100000 + v) = gK G v := by rw [adr_K (by omega) (by omega), show 100000 + v - 100000 = v by omega]
        have kk := k H locs ls hH hL hq h0
        refine va_ldcS X.1 X.2.1 X.2.2.2.1 hZ hd ?_
        rw [← ea]
        exact kk
      · cases hs
    · cases hn
  case ldc_w n =>
    have hl := beq_iff_eq.mp hl
    subst hl
    split at hn
    · rename_i v pw hr
      cases hn
      cases hs
      exact lv_ldcw X.1 X.2.1 X.2.2.2.1 (X.word hr (by decide) (by decide)) hd (k H locs ls hH hL hq h0)
    · cases hn
  case ldc2_w n =>
    have hl := beq_iff_eq.mp hl
    subst hl
    split at hn
    · rename_i v pw hr
      cases hn
      cases hs
      exact lv_ldc2 X.1 X.2.1 X.2.2.2.1 (X.word hr (by decide) (by decide)) hd (k H locs ls hH hL hq h0)
    · cases hn
  case iload n =>
    have hl := beq_iff_eq.mp hl
    subst hl
    cases hn
    obtain ⟨v, hv, ht, rfl⟩ := ldL_use hs
    obtain ⟨x, rfl⟩ := vty0 ht
    exact lv_iload X.1 X.2.1 hd (hL.get hv) (k H locs ls hH hL hq h0)
  case iload_n n =>
    have hl := beq_iff_eq.mp hl
    subst hl
    cases hn
    obtain ⟨v, hv, ht, rfl⟩ := ldL_use hs
    obtain ⟨x, rfl⟩ := vty0 ht
    exact lv_iload_n X.1 X.2.1 hd rfl (hL.get hv) (k H locs ls hH hL hq h0)
  case lload n =>
    have hl := beq_iff_eq.mp hl
    subst hl
    cases hn
    obtain ⟨v, hv, ht, rfl⟩ := ldL_use hs
    obtain ⟨x, rfl⟩ := vty1 ht
    exact lv_lload X.1 X.2.1 hd (hL.get hv) (k H locs ls hH hL hq h0)
  case lload_n n =>
    have hl := beq_iff_eq.mp hl
    subst hl
    cases hn
    obtain ⟨v, hv, ht, rfl⟩ := ldL_use hs
    obtain ⟨x, rfl⟩ := vty1 ht
    exact lv_lload_n X.1 X.2.1 hd rfl (hL.get hv) (k H locs ls hH hL hq h0)
  case aload n =>
    have hl := beq_iff_eq.mp hl
    subst hl
    cases hn
    obtain ⟨v, hv, ht, rfl⟩ := ldL_use hs
    obtain ⟨x, rfl⟩ := vty2 ht
    exact lv_aload X.1 X.2.1 hd (hL.get hv) (k H locs ls hH hL hq h0)
  case aload_n n =>
    have hl := beq_iff_eq.mp hl
    subst hl
    cases hn
    obtain ⟨v, hv, ht, rfl⟩ := ldL_use hs
    obtain ⟨x, rfl⟩ := vty2 ht
    exact lv_aload_n X.1 X.2.1 hd rfl (hL.get hv) (k H locs ls hH hL hq h0)
  case istore n =>
    have hl := beq_iff_eq.mp hl
    subst hl
    cases hn
    obtain ⟨v, S', rfl, ht, hk, rfl⟩ := stV_use hs
    obtain ⟨x, rfl⟩ := vty0 ht
    exact lv_istore X.1 X.2.1 hd hL.2 (by rw [← hL.1]; exact hk) rfl (fun ls' hl' => k H locs ls' hH (LR.set1 hF hL.1 hk hl') hq h0)
  case istore_n n =>
    have hl := beq_iff_eq.mp hl
    subst hl
    cases hn
    obtain ⟨v, S', rfl, ht, hk, rfl⟩ := stV_use hs
    obtain ⟨x, rfl⟩ := vty0 ht
    exact lv_istore_n X.1 X.2.1 hd rfl hL.2 (by rw [← hL.1]; exact hk) rfl (fun ls' hl' => k H locs ls' hH (LR.set1 hF hL.1 hk hl') hq h0)
  case astore n =>
    have hl := beq_iff_eq.mp hl
    subst hl
    cases hn
    obtain ⟨v, S', rfl, ht, hk, rfl⟩ := stV_use hs
    obtain ⟨x, rfl⟩ := vty2 ht
    exact lv_astore X.1 X.2.1 hd hL.2 (by rw [← hL.1]; exact hk) rfl (fun ls' hl' => k H locs ls' hH (LR.set1 (v := .ref x) hF hL.1 hk hl') hq h0)
  case astore_n n =>
    have hl := beq_iff_eq.mp hl
    subst hl
    cases hn
    obtain ⟨v, S', rfl, ht, hk, rfl⟩ := stV_use hs
    obtain ⟨x, rfl⟩ := vty2 ht
    exact lv_astore_n X.1 X.2.1 hd rfl hL.2 (by rw [← hL.1]; exact hk) rfl (fun ls' hl' => k H locs ls' hH (LR.set1 (v := .ref x) hF hL.1 hk hl') hq h0)
  case lstore n =>
    have hl := beq_iff_eq.mp hl
    subst hl
    cases hn
    obtain ⟨v, S', rfl, hk, rfl⟩ := stV2_use hs
    exact lv_lstore X.1 X.2.1 hd hL.2 (by rw [← hL.1]; exact hk) rfl (fun ls' hl' => k H locs ls' hH (LR.set2 hF hL.1 hk hl') hq h0)
  case lstore_n n =>
    have hl := beq_iff_eq.mp hl
    subst hl
    cases hn
    obtain ⟨v, S', rfl, hk, rfl⟩ := stV2_use hs
    exact lv_lstore_n X.1 X.2.1 hd rfl hL.2 (by rw [← hL.1]; exact hk) rfl (fun ls' hl' => k H locs ls' hH (LR.set2 hF hL.1 hk hl') hq h0)
  case iinc n z =>
    have hl := beq_iff_eq.mp hl
    subst hl
    cases hn
    obtain ⟨x, hx, rfl⟩ := incL_use hs
    obtain ⟨j, hj⟩ := List.getElem?_of_mem (lst_mem.mpr ⟨_, getD_some hx, rfl⟩ : (n, re G (.int x)) ∈ lst_ G L)
    have hk := (List.getElem?_eq_some_iff.mp (getD_some hx)).1
    exact lv_iinc X.1 X.2.1 hd hL.2 hj rfl (by rw [← hL.1]; exact hk) rfl (fun ls' hl' => k H locs ls' hH (LR.set1 hF hL.1 hk hl') hq h0)
  case iadd => cases beq_iff_eq.mp hl; cases hn; obtain ⟨b, a, S', rfl, rfl⟩ := bin_use hs; exact lv_iadd X.1 X.2.1 hd (k H locs ls hH hL hq h0)
  case isub => cases beq_iff_eq.mp hl; cases hn; obtain ⟨b, a, S', rfl, rfl⟩ := bin_use hs; exact lv_isub X.1 X.2.1 hd (k H locs ls hH hL hq h0)
  case imul => cases beq_iff_eq.mp hl; cases hn; obtain ⟨b, a, S', rfl, rfl⟩ := bin_use hs; exact lv_imul X.1 X.2.1 hd (k H locs ls hH hL hq h0)
  case idiv => cases beq_iff_eq.mp hl; cases hn; obtain ⟨b, a, S', rfl, hb, rfl⟩ := bind0_use hs; exact lv_idiv X.1 X.2.1 hd hb (k H locs ls hH hL hq h0)
  case irem => cases beq_iff_eq.mp hl; cases hn; obtain ⟨b, a, S', rfl, hb, rfl⟩ := bind0_use hs; exact lv_irem X.1 X.2.1 hd hb (k H locs ls hH hL hq h0)
  case ineg => cases beq_iff_eq.mp hl; cases hn; obtain ⟨a, S', rfl, rfl⟩ := un_use hs; exact lv_ineg X.1 X.2.1 hd (k H locs ls hH hL hq h0)
  case iand => cases beq_iff_eq.mp hl; cases hn; obtain ⟨b, a, S', rfl, rfl⟩ := bin_use hs; exact lv_iand X.1 X.2.1 hd (k H locs ls hH hL hq h0)
  case ior => cases beq_iff_eq.mp hl; cases hn; obtain ⟨b, a, S', rfl, rfl⟩ := bin_use hs; exact lv_ior X.1 X.2.1 hd (k H locs ls hH hL hq h0)
  case ixor => cases beq_iff_eq.mp hl; cases hn; obtain ⟨b, a, S', rfl, rfl⟩ := bin_use hs; exact lv_ixor X.1 X.2.1 hd (k H locs ls hH hL hq h0)
  case ishl => cases beq_iff_eq.mp hl; cases hn; obtain ⟨b, a, S', rfl, rfl⟩ := bin_use hs; exact lv_ishl X.1 X.2.1 hd (k H locs ls hH hL hq h0)
  case ishr => cases beq_iff_eq.mp hl; cases hn; obtain ⟨b, a, S', rfl, rfl⟩ := bin_use hs; exact lv_ishr X.1 X.2.1 hd (k H locs ls hH hL hq h0)
  case iushr => cases beq_iff_eq.mp hl; cases hn; obtain ⟨b, a, S', rfl, rfl⟩ := bin_use hs; exact lv_iushr X.1 X.2.1 hd rfl (k H locs ls hH hL hq h0)
  case ladd => cases beq_iff_eq.mp hl; cases hn; obtain ⟨b, a, S', rfl, rfl⟩ := binl_use hs; exact lv_ladd X.1 X.2.1 hd (k H locs ls hH hL hq h0)
  case lmul => cases beq_iff_eq.mp hl; cases hn; obtain ⟨b, a, S', rfl, rfl⟩ := binl_use hs; exact lv_lmul X.1 X.2.1 hd (k H locs ls hH hL hq h0)
  case lcmp => cases beq_iff_eq.mp hl; cases hn; obtain ⟨b, a, S', rfl, rfl⟩ := binl_use hs; exact W.lcmp X.1 X.2.1 hd (k H locs ls hH hL hq h0)
  case i2l => cases beq_iff_eq.mp hl; cases hn; obtain ⟨a, S', rfl, rfl⟩ := un_use hs; exact lv_i2l X.1 X.2.1 hd rfl (k H locs ls hH hL hq h0)
  case i2c => cases beq_iff_eq.mp hl; cases hn; obtain ⟨a, S', rfl, rfl⟩ := un_use hs; exact lv_i2c X.1 X.2.1 hd rfl (k H locs ls hH hL hq h0)
  case i2b => cases beq_iff_eq.mp hl; cases hn; obtain ⟨a, S', rfl, rfl⟩ := un_use hs; exact lv_i2b X.1 X.2.1 hd rfl (k H locs ls hH hL hq h0)
  case dup =>
    cases beq_iff_eq.mp hl; cases hn
    simp only [stepI] at hs
    split at hs
    · split at hs
      · rename_i hc
        cases hs
        exact lv_dup X.1 X.2.1 hd (re_cat hF hc) (k H locs ls hH hL hq h0)
      · cases hs
    · cases hs
  case dup2 =>
    cases beq_iff_eq.mp hl; cases hn
    simp only [stepI] at hs
    split at hs
    · split at hs
      · rename_i hc
        cases hs
        exact lv_dup2_11 X.1 X.2.1 hd (re_cat hF hc.1) (re_cat hF hc.2) (k H locs ls hH hL hq h0)
      · cases hs
    · cases hs
  case pop =>
    cases beq_iff_eq.mp hl; cases hn
    simp only [stepI] at hs
    split at hs
    · split at hs
      · rename_i hc
        cases hs
        exact lv_pop X.1 X.2.1 hd (re_cat hF hc) (k H locs ls hH hL hq h0)
      · cases hs
    · cases hs
  case iaload =>
    cases beq_iff_eq.mp hl; cases hn
    simp only [stepI] at hs
    split at hs
    · obtain ⟨v, hv, rfl⟩ := map_use hs
      exact so_iald X hH hv hd (k H locs ls hH hL hq h0)
    · cases hs
  case laload =>
    cases beq_iff_eq.mp hl; cases hn
    simp only [stepI] at hs
    split at hs
    · obtain ⟨v, hv, rfl⟩ := map_use hs
      exact so_lald X hH hv hd (k H locs ls hH hL hq h0)
    · cases hs
  case aaload =>
    cases beq_iff_eq.mp hl; cases hn
    simp only [stepI] at hs
    split at hs
    · obtain ⟨v, hv, rfl⟩ := map_use hs
      exact so_rld X hH hv hd (k H locs ls hH hL hq h0)
    · cases hs
  case baload =>
    cases beq_iff_eq.mp hl; cases hn
    simp only [stepI] at hs
    split at hs
    · obtain ⟨v, hv, rfl⟩ := map_use hs
      exact so_bld X hH hv hd (k H locs ls hH hL hq h0)
    · cases hs
  case iastore =>
    cases beq_iff_eq.mp hl; cases hn
    simp only [stepI] at hs
    split at hs
    · obtain ⟨h', hv, rfl⟩ := map_use hs
      have hle := ist_nxt hv
      have e : nxt h' = nxt h := by
        unfold ist at hv; split at hv
        · cases hv; rfl
        · cases hv
      exact so_iast X hH hv hd (fun H' j hH' => W.cs (by rw [e]) (by rw [e]) (k H' _ ls hH' hL (locs_add hq) (by rw [e]; exact h0)))
    · cases hs
  case lastore =>
    cases beq_iff_eq.mp hl; cases hn
    simp only [stepI] at hs
    split at hs
    · obtain ⟨h', hv, rfl⟩ := map_use hs
      have e : nxt h' = nxt h := by
        unfold lst at hv; split at hv
        · cases hv; rfl
        · cases hv
      exact so_last X hH hv hd (fun H' j hH' => W.cs (by rw [e]) (by rw [e]) (k H' _ ls hH' hL (locs_add hq) (by rw [e]; exact h0)))
    · cases hs
  case aastore =>
    cases beq_iff_eq.mp hl; cases hn
    simp only [stepI] at hs
    split at hs
    · obtain ⟨h', hv, rfl⟩ := map_use hs
      have e : nxt h' = nxt h := by
        unfold rst at hv; split at hv
        · cases hv; rfl
        · cases hv
      exact so_rst X hH hv hd (fun H' j hH' => W.cs (by rw [e]) (by rw [e]) (k H' _ ls hH' hL (locs_add hq) (by rw [e]; exact h0)))
    · cases hs
  case arraylength =>
    cases beq_iff_eq.mp hl; cases hn
    simp only [stepI] at hs
    split at hs
    · obtain ⟨n, hv, rfl⟩ := map_use hs
      exact so_alen X hH hv hd (k H locs ls hH hL hq h0)
    · cases hs
  case getfield n =>
    have hl := beq_iff_eq.mp hl
    subst hl
    split at hn
    · rename_i f pw hr
      cases hn
      simp only [stepI] at hs
      split at hs
      · rename_i a S'
        obtain ⟨v, hv, rfl⟩ := map_use hs
        have hb := rs_wd hr
        unfold wdB at hb
        simp only [Bool.and_eq_true, decide_eq_true_eq] at hb
        have hf13 := (hb.1.2 trivial).1
        unfold fld at hv
        rw [if_neg (by omega), if_neg (by omega)] at hv
        split at hv
        · rename_i hc
          have ev : fvv G h a (f / 100) (f % 100) = re G v := by
            unfold fvv
            split at hv
            · rename_i h2
              rw [if_pos h2]
              obtain ⟨b, hb2, rfl⟩ := map_use hv
              rw [hb2]
              rfl
            · rename_i h2
              rw [if_neg h2]
              cases hv
              rfl
          have kk := k H locs ls hH hL hq h0
          have hlo : a < 100000 := kd_lo (by rw [hc.1]; simp)
          show W p l e R s m args below meth c H locs _ _ Q (F0 m pc ls (.ref (adr G a) :: S'.map (re G)))
          rw [adr_lo hlo]
          refine so_getf X hH hc.2.1 hc.1 hf13 hc.2.2 (X.word hr (by decide) (by decide)) hd ?_
          rw [ev]
          exact kk
        · cases hv
      · cases hs
    · rename_i f pw hr
      cases hn
      simp only [stepI] at hs
      split at hs
      · rename_i a S'
        obtain ⟨v, hv, rfl⟩ := map_use hs
        have hb := rs_wd hr
        unfold wdB at hb
        simp only [Bool.and_eq_true, decide_eq_true_eq] at hb
        have hf2 := hb.2.2.1 trivial
        have hw := X.word hr (by decide) (by decide)
        have kk := k H locs ls hH hL hq h0
        have hS := X.2.2.2.2.2.2.1.2.2.2.2.2.1.1
        show W p l e R s m args below meth c H locs _ _ Q (F0 m pc ls (.ref (adr G a) :: S'.map (re G)))
        rcases (show f = 0 ∨ f = 1 by omega) with rfl | rfl
        · unfold fld at hv
          rw [if_pos rfl] at hv
          split at hv
          · rename_i hc
            cases hv
            obtain ⟨k1, k2, k3⟩ := kd_6 hc.1
            obtain ⟨-, -, ⟨cf, kc, fi, ff, cell, o1, o2, o3, o4, o5, o6⟩, -⟩ := hS _ hc.2
            rw [adr_K k1 k2, ← k3]
            have eV : adr G (200000 + (kd a).2) = gV G (kd a).2 := by rw [adr_V (by omega) (by omega), show 200000 + (kd a).2 - 200000 = (kd a).2 by omega]
            refine W.getf X.1 X.2.1 X.2.2.2.1 hw o1 o2 (by rw [hH.2.2.1 _ (Nat.not_le.mp o6)]; exact o3) o4 o5 rfl rfl hd ?_
            rw [← eV]
            exact kk
          · cases hv
        · unfold fld at hv
          rw [if_neg (by decide), if_pos rfl] at hv
          split at hv
          · rename_i hc
            cases hv
            obtain ⟨k1, k2, k3⟩ := kd_6 hc.1
            obtain ⟨-, ⟨cf, kc, fi, ff, cell, o1, o2, o3, o4, o5, o6⟩, -, -⟩ := hS _ hc.2
            rw [adr_K k1 k2, ← k3]
            exact W.getf X.1 X.2.1 X.2.2.2.1 hw o1 o2 (by rw [hH.2.2.1 _ (Nat.not_le.mp o6)]; exact o3) o4 o5 rfl rfl hd kk
          · cases hv
      · cases hs
    · cases hn
  case putfield n =>
    have hl := beq_iff_eq.mp hl
    subst hl
    split at hn
    · rename_i f pw hr
      cases hn
      simp only [stepI] at hs
      split at hs
      · rename_i v a S'
        obtain ⟨h', hv, rfl⟩ := map_use hs
        have hb := rs_wd hr
        unfold wdB at hb
        simp only [Bool.and_eq_true, decide_eq_true_eq] at hb
        have hf13 := (hb.1.2 trivial).1
        cases v <;> simp only [sfd] at hv <;> first | (cases hv; done) | skip
        case int x =>
          split at hv
          · rename_i hc
            cases hv
            have hlo : a < 100000 := kd_lo (by rw [hc.1]; simp)
            show W p l e R s m args below meth c H locs _ _ Q (F0 m pc ls (.int x :: .ref (adr G a) :: S'.map (re G)))
            rw [adr_lo hlo]
            exact so_puti X hH hc.2.1 hc.1 hf13 hc.2.2.1 hc.2.2.2.1 hc.2.2.2.2 (X.word hr (by decide) (by decide)) hd (fun H' j hH' => k H' _ ls hH' hL (locs_add hq) h0)
          · cases hv
        case ref b =>
          split at hv
          · rename_i hc
            cases hv
            have hlo : a < 100000 := kd_lo (by rw [hc.1]; simp)
            show W p l e R s m args below meth c H locs _ _ Q (F0 m pc ls (.ref (adr G b) :: .ref (adr G a) :: S'.map (re G)))
            rw [adr_lo (a := a) hlo]
            exact so_putr X hH hc.2.1 hc.1 hf13 hc.2.2.1 hc.2.2.2.1 hc.2.2.2.2.1 hc.2.2.2.2.2.2.1 hc.2.2.2.2.2.2.2 (X.word hr (by decide) (by decide)) hd (fun H' j hH' => k H' _ ls hH' hL (locs_add hq) h0)
          · cases hv
      · cases hs
    · cases hn
  case getstatic n =>
    have hl := beq_iff_eq.mp hl
    subst hl
    split at hn
    · rename_i f pw hr
      cases hn
      have hw := X.word hr (by decide) (by decide)
      have hG := X.2.2.2.2.2.2.1
      simp only [stepI] at hs
      split at hs
      · rename_i hf
        subst hf
        cases hs
        have kk := k H locs ls hH hL hq h0
        refine so_gets X hH hG.2.2.2.1 hw hd ?_
        rw [← adr_T]
        exact kk
      · split at hs
        · rename_i hf
          subst hf
          cases hs
          exact so_gets X hH hG.2.1 hw hd (k H locs ls hH hL hq h0)
        · split at hs
          · rename_i hf
            subst hf
            cases hs
            exact so_gets X hH hG.2.2.1 hw hd (k H locs ls hH hL hq h0)
          · cases hs
    · cases hn
  case new n =>
    have hl := beq_iff_eq.mp hl
    subst hl
    split at hn
    · rename_i t pw hr
      split at hn
      · rename_i ht
        cases hn
        simp only [stepI] at hs
        split at hs
        · rename_i hc
          cases hs
          have hlo : nxt h < 100000 := kd_lo (by rw [hc.1]; simp)
          refine so_new X hH h0 ht hc.1 hc.2 hcap hr hd (fun H' hH' => ?_)
          rw [← adr_lo hlo]
          exact k H' locs ls hH' hL hq (by show n0 ≤ nxt h + 1; omega)
        · cases hs
      · cases hn
    · cases hn
  case newarray t =>
    have hl := beq_iff_eq.mp hl
    subst hl
    cases t <;> simp only [nrm] at hn <;> first | (cases hn; done) | skip
    case int =>
      cases hn
      obtain ⟨n, S', rfl, h1, h2, h3, rfl⟩ := newA_use hs
      have hlo : nxt h < 100000 := kd_lo (by rw [h2]; simp)
      refine so_newA0 X hH h0 h1 h2 h3 hcap hd (fun H' hH' => ?_)
      rw [← adr_lo hlo]
      exact k H' locs ls hH' hL hq (by show n0 ≤ nxt h + 1; omega)
    case long =>
      cases hn
      obtain ⟨n, S', rfl, h1, h2, h3, rfl⟩ := newA_use hs
      have hlo : nxt h < 100000 := kd_lo (by rw [h2]; simp)
      refine so_newA1 X hH h0 h1 h2 h3 hcap hd (fun H' hH' => ?_)
      rw [← adr_lo hlo]
      exact k H' locs ls hH' hL hq (by show n0 ≤ nxt h + 1; omega)
  case anewarray n =>
    have hl := beq_iff_eq.mp hl
    subst hl
    split at hn
    · rename_i t pw hr
      cases hn
      simp only [stepI] at hs
      split at hs
      · rename_i h7
        subst h7
        obtain ⟨n, S', rfl, h1, h2, h3, rfl⟩ := newA_use hs
        have hlo : nxt h < 100000 := kd_lo (by rw [h2]; simp)
        refine so_newA2 X hH h0 h1 h2 h3 hcap hr hd (fun H' hH' => ?_)
        rw [← adr_lo hlo]
        exact k H' locs ls hH' hL hq (by show n0 ≤ nxt h + 1; omega)
      · cases hs
    · cases hn
  case multianewarray n z =>
    have hl := beq_iff_eq.mp hl
    subst hl
    split at hn
    · rename_i t pw hr
      split at hn
      · rename_i h2
        subst h2
        cases hn
        obtain ⟨S', rfl, h1, h2, h3, rfl⟩ := newM_use hs
        have hlo : nxt h < 100000 := kd_lo (by rw [h1]; simp)
        refine so_newM X hH h0 h1 h2 h3 hcap hr hd (fun H' hH' => ?_)
        rw [← adr_lo hlo]
        exact k H' locs ls hH' hL hq (by show n0 ≤ nxt h + 9; omega)
      · cases hn
    · cases hn
  all_goals (first | (cases hn; cases hi; done) | (split at hn <;> first | (cases hn; done) | (cases hn; cases hi; done) | (split at hn <;> first | (cases hn; done) | (cases hn; cases hi; done))))
end SD
