/-! arrays -/
section SA
variable {p : Program} {l : Launch} {e : Env} {R : Room} {s : State} {m : MethodId} {args : Array Value} {below : List Frame} {meth : Method} {c : Code} {Q : State → Prop} {G : GT} {y n0 : Nat}
theorem kd_ck : kdL.all (fun q => decide (q.1 < 5)) = true := by decide +kernel
theorem kd_small {a : Nat} (h : a < 100000) : (kd a).1 < 5 ∨ (kd a).1 = 9 := by
  unfold kd
  rw [if_pos h, List.getD_eq_getElem?_getD]
  cases hq : kdL[a]? with
  | none => exact Or.inr rfl
  | some q =>
    have := List.all_eq_true.mp kd_ck q (List.mem_of_getElem? hq)
    exact Or.inl (decide_eq_true_eq.mp this)
theorem kd_big {a : Nat} (h : 100000 ≤ a) : (a < 200000 ∧ kd a = (6, a - 100000)) ∨ (200000 ≤ a ∧ a < 300000 ∧ kd a = (5, a - 200000)) ∨ (a = 300000 ∧ kd a = (7, 4)) ∨ (a = 300001 ∧ kd a = (8, 0)) ∨ kd a = (9, 0) := by
  unfold kd
  rw [if_neg (by omega)]
  by_cases h1 : a < 200000
  · exact Or.inl ⟨h1, if_pos h1⟩
  · rw [if_neg h1]
    by_cases h2 : a < 300000
    · exact Or.inr (Or.inl ⟨by omega, h2, if_pos h2⟩)
    · rw [if_neg h2]
      by_cases h3 : a = 300000
      · exact Or.inr (Or.inr (Or.inl ⟨h3, if_pos h3⟩))
      · rw [if_neg h3]
        by_cases h4 : a = 300001
        · exact Or.inr (Or.inr (Or.inr (Or.inl ⟨h4, if_pos h4⟩)))
        · exact Or.inr (Or.inr (Or.inr (Or.inr (if_neg h4))))
theorem kd_lo {a : Nat} (h : (kd a).1 < 5) : a < 100000 := by
  rcases Nat.lt_or_ge a 100000 with q | q
  · exact q
  · rcases kd_big q with ⟨-, z⟩ | ⟨-, -, z⟩ | ⟨-, z⟩ | ⟨-, z⟩ | z <;> (rw [z] at h; exact absurd h (by simp))
theorem kd_5 {a : Nat} (h : (kd a).1 = 5) : 200000 ≤ a ∧ a < 300000 ∧ (kd a).2 = a - 200000 := by
  rcases Nat.lt_or_ge a 100000 with q | q
  · rcases kd_small q with z | z <;> omega
  · rcases kd_big q with ⟨-, z⟩ | ⟨z1, z2, z⟩ | ⟨-, z⟩ | ⟨-, z⟩ | z <;> rw [z] at h ⊢ <;> first | exact ⟨z1, z2, rfl⟩ | (simp at h; done)
theorem kd_6 {a : Nat} (h : (kd a).1 = 6) : 100000 ≤ a ∧ a < 200000 ∧ (kd a).2 = a - 100000 := by
  rcases Nat.lt_or_ge a 100000 with q | q
  · rcases kd_small q with z | z <;> omega
  · rcases kd_big q with ⟨z1, z⟩ | ⟨-, -, z⟩ | ⟨-, z⟩ | ⟨-, z⟩ | z <;> rw [z] at h ⊢ <;> first | exact ⟨q, z1, rfl⟩ | (simp at h; done)
theorem kd_7 {a : Nat} (h : (kd a).1 = 7) : a = 300000 := by
  rcases Nat.lt_or_ge a 100000 with q | q
  · rcases kd_small q with z | z <;> omega
  · rcases kd_big q with ⟨-, z⟩ | ⟨-, -, z⟩ | ⟨z1, z⟩ | ⟨-, z⟩ | z <;> rw [z] at h <;> first | exact z1 | (simp at h; done)
theorem kd_8 {a : Nat} (h : (kd a).1 = 8) : a = 300001 := by
  rcases Nat.lt_or_ge a 100000 with q | q
  · rcases kd_small q with z | z <;> omega
  · rcases kd_big q with ⟨-, z⟩ | ⟨-, -, z⟩ | ⟨-, z⟩ | ⟨z1, z⟩ | z <;> rw [z] at h <;> first | exact z1 | (simp at h; done)
theorem adr_T {G : GT} : adr G 300000 = gT G := by
  unfold adr
  rw [if_neg (by decide), if_neg (by decide), if_neg (by decide), if_pos rfl]
theorem adr_S {G : GT} : adr G 300001 = gS G := by
  unfold adr
  rw [if_neg (by decide), if_neg (by decide), if_neg (by decide), if_neg (by decide)]
theorem adr_V {G : GT} {a : Nat} (h1 : 200000 ≤ a) (h2 : a < 300000) : adr G a = gV G (a - 200000) := by
  unfold adr
  rw [if_neg (by omega), if_neg (by omega), if_pos h2]
theorem adr_K {G : GT} {a : Nat} (h1 : 100000 ≤ a) (h2 : a < 200000) : adr G a = gK G (a - 100000) := by
  unfold adr
  rw [if_neg (by omega), if_pos h2]
theorem al_low {h : Hp} {a n : Nat} (hk : (kd a).1 < 4) (H : aln h a = some n) : a < nxt h ∧ n = (kd a).2 := by
  unfold aln at H
  rw [if_pos hk] at H
  split at H
  · rename_i q
    cases H
    exact ⟨q, rfl⟩
  · cases H
theorem al_7 {h : Hp} {a n : Nat} (hk : (kd a).1 = 7) (H : aln h a = some n) : n = 4 := by
  unfold aln at H
  rw [hk, if_neg (by decide), if_neg (by decide), if_pos rfl] at H
  exact (Option.some.inj H).symm
theorem al_8 {h : Hp} {a n : Nat} (hk : (kd a).1 = 8) (H : aln h a = some n) : n = (gi h 300002 0).toNatClampNeg := by
  unfold aln at H
  rw [hk, if_neg (by decide), if_neg (by decide), if_neg (by decide), if_pos rfl] at H
  exact (Option.some.inj H).symm
theorem al_5 {h : Hp} {a n : Nat} (hk : (kd a).1 = 5) (H : aln h a = some n) : (kd a).2 < 25 ∧ n = lenL.getD (kd a).2 0 := by
  unfold aln at H
  rw [hk, if_neg (by decide), if_pos rfl] at H
  split at H
  · rename_i q
    exact ⟨q, (Option.some.inj H).symm⟩
  · cases H
theorem arr_lt {cA : ClassId} {N : Nat} {f : Nat → Value} {i : Int32} (h1 : 0 ≤ i.toInt) (h2 : i.toInt < N) : ¬ (i < 0 ∨ (arrV cA N f).slots.size ≤ i.toNatClampNeg) := by
  rw [arrV_size]
  exact (vpin h1 h2).1
theorem CX.L (X : CX G y p s m args meth c) : gL G ≤ 3072 := X.2.2.2.2.2.2.1.2.2.2.2.2.2.2.2.1
theorem HR.L {h : Hp} {H : Heap} (x : HR G h s H) (hL : gL G ≤ 3072) : (gi h 300002 0).toNatClampNeg = gL G := by
  rw [x.2.2.2.2.2.2.2]
  exact nI_clamp (by omega)
theorem so_iald (X : CX G y p s m args meth c) {h : Hp} {H : Heap} {locs : List Loc} {cells slots : Nat} {ls : Array Slot} {rest : List Value} {pc a : Nat} {i : Int32} {v : Value} (hH : HR G h s H) (hs : ild h a i = some v) (hdg : decode (mB y) pc = .ok (.iaload, 1))
    (kk : W p l e R s m args below meth c H locs cells slots Q (F0 m (pc + 1) ls (re G v :: rest))) : W p l e R s m args below meth c H locs cells slots Q (F0 m pc ls (.int i :: .ref (adr G a) :: rest)) := by
  unfold ild at hs
  split at hs
  · rename_i hc
    cases hs
    obtain ⟨n, hn, h1, h2⟩ := inb_use hc.2
    rcases hc.1 with hk | hk | hk
    · obtain ⟨ha, rfl⟩ := al_low (by rw [hk]; decide) hn
      obtain ⟨cA, b1, b2⟩ := (hH.2.2.2.1 a ha).1 hk
      rw [adr_lo (kd_lo (by rw [hk]; decide))]
      exact W.iald X.1 X.2.1 b2 (b1 _ _) (fun z => by cases z) (arr_lt h1 h2) (arrV_read _ _ (vpin h1 h2).2) rfl rfl hdg kk
    · have ea := kd_7 hk
      have e4 := al_7 hk hn
      subst ea e4
      obtain ⟨cell, t1, t2, t3, t4, t5, t6, t7⟩ := X.2.2.2.2.2.2.1.2.2.2.2.1
      rw [adr_T]
      have hlt := (vpin h1 h2).2
      have hv : cell.slots[i.toNatClampNeg]? = some (re G (.int (gi h 300000 i.toNatClampNeg))) := by
        rw [hH.2.2.2.2.2.1 _ hlt]
        exact t6 _ hlt
      refine W.iald X.1 X.2.1 (by rw [hH.2.2.1 _ (Nat.not_le.mp t7)]; exact t1) t2 t3 (fun z => ?_) hv rfl rfl hdg kk
      rcases z with z | z
      · exact (vpin h1 h2).1 (Or.inl z)
      · omega
    · have ea := kd_8 hk
      have e4 := al_8 hk hn
      rw [hH.L X.L] at e4
      subst ea e4
      obtain ⟨scr, t1, t2, t3, t4, t5⟩ := X.2.2.2.2.2.2.1.2.2.2.2.2.2.1
      have hb := X.2.2.2.2.2.2.1.2.2.2.2.2.2.2.1
      rw [adr_S]
      have hlt := (vpin h1 h2).2
      have hv : scr.slots[i.toNatClampNeg]? = some (re G (.int (gi h 300001 i.toNatClampNeg))) := by
        rw [hH.2.2.2.2.2.2.1 _ hlt]
        exact t5 _ hlt
      refine W.iald X.1 X.2.1 (by rw [hH.2.2.1 _ hb]; exact t1) t2 t3 (fun z => ?_) hv rfl rfl hdg kk
      rw [t4] at z
      exact (vpin h1 h2).1 z
  · cases hs
theorem so_lald (X : CX G y p s m args meth c) {h : Hp} {H : Heap} {locs : List Loc} {cells slots : Nat} {ls : Array Slot} {rest : List Value} {pc a : Nat} {i : Int32} {v : Value} (hH : HR G h s H) (hs : lld h a i = some v) (hdg : decode (mB y) pc = .ok (.laload, 1))
    (kk : W p l e R s m args below meth c H locs cells slots Q (F0 m (pc + 1) ls (re G v :: rest))) : W p l e R s m args below meth c H locs cells slots Q (F0 m pc ls (.int i :: .ref (adr G a) :: rest)) := by
  unfold lld at hs
  split at hs
  · rename_i hc
    cases hs
    obtain ⟨n, hn, h1, h2⟩ := inb_use hc.2
    have hk := hc.1
    obtain ⟨ha, rfl⟩ := al_low (by rw [hk]; decide) hn
    obtain ⟨cA, b1, b2⟩ := (hH.2.2.2.1 a ha).2.1 hk
    rw [adr_lo (kd_lo (by rw [hk]; decide))]
    exact W.lald X.1 X.2.1 b2 (b1 _ _) (fun z => by cases z) (arr_lt h1 h2) (arrV_read _ _ (vpin h1 h2).2) rfl rfl hdg kk
  · cases hs
theorem so_rld (X : CX G y p s m args meth c) {h : Hp} {H : Heap} {locs : List Loc} {cells slots : Nat} {ls : Array Slot} {rest : List Value} {pc a : Nat} {i : Int32} {v : Value} (hH : HR G h s H) (hs : rld h a i = some v) (hdg : decode (mB y) pc = .ok (.aaload, 1))
    (kk : W p l e R s m args below meth c H locs cells slots Q (F0 m (pc + 1) ls (re G v :: rest))) : W p l e R s m args below meth c H locs cells slots Q (F0 m pc ls (.int i :: .ref (adr G a) :: rest)) := by
  unfold rld at hs
  split at hs
  · rename_i hc
    obtain ⟨n, hn, h1, h2⟩ := inb_use hc.2
    cases hg : gr h a i.toNatClampNeg with
    | none => rw [hg] at hs; cases hs
    | some b =>
      rw [hg] at hs
      cases hs
      rcases hc.1 with hk | hk
      · obtain ⟨ha, rfl⟩ := al_low (by rw [hk]; decide) hn
        obtain ⟨cA, b1, b2⟩ := (hH.2.2.2.1 a ha).2.2.1 hk
        rw [adr_lo (kd_lo (by rw [hk]; decide))]
        exact W.aald X.1 X.2.1 b2 (b1.1 _ _) rfl (fun z => by cases z) (arr_lt h1 h2) ((arrV_read _ _ (vpin h1 h2).2).trans (by rw [hg]; rfl)) rfl rfl hdg kk
      · obtain ⟨ha, rfl⟩ := al_low (by rw [hk]; decide) hn
        obtain ⟨cA, b1, b2⟩ := (hH.2.2.2.1 a ha).2.2.2.1 hk
        rw [adr_lo (kd_lo (by rw [hk]; decide))]
        exact W.aald X.1 X.2.1 b2 (b1 _ _) rfl (fun z => by cases z) (arr_lt h1 h2) ((arrV_read _ _ (vpin h1 h2).2).trans (by rw [hg]; rfl)) rfl rfl hdg kk
  · cases hs
theorem so_bld (X : CX G y p s m args meth c) {h : Hp} {H : Heap} {locs : List Loc} {cells slots : Nat} {ls : Array Slot} {rest : List Value} {pc a : Nat} {i : Int32} {v : Value} (hH : HR G h s H) (hs : bld h a i = some v) (hdg : decode (mB y) pc = .ok (.baload, 1))
    (kk : W p l e R s m args below meth c H locs cells slots Q (F0 m (pc + 1) ls (re G v :: rest))) : W p l e R s m args below meth c H locs cells slots Q (F0 m pc ls (.int i :: .ref (adr G a) :: rest)) := by
  unfold bld at hs
  split at hs
  · rename_i hc
    cases hs
    obtain ⟨n, hn, h1, h2⟩ := inb_use hc.2
    obtain ⟨k1, k2, k3⟩ := kd_5 hc.1
    obtain ⟨h25, rfl⟩ := al_5 hc.1 hn
    obtain ⟨-, -, -, cell, t1, t2, t3, t4, t5, t6, t7⟩ := X.2.2.2.2.2.2.1.2.2.2.2.2.1.1 _ h25
    rw [adr_V k1 k2, ← k3]
    have hlt := (vpin h1 h2).2
    have hv : cell.slots[i.toNatClampNeg]? = some (re G (.int ((bytL.getD (kd a).2 []).getD i.toNatClampNeg 0))) := t6 _ hlt
    refine W.bald X.1 X.2.1 (by rw [hH.2.2.1 _ (Nat.not_le.mp t7)]; exact t1) t2 t3 (fun z => ?_) hv rfl rfl hdg kk
    rcases z with z | z
    · exact (vpin h1 h2).1 (Or.inl z)
    · omega
  · cases hs
theorem so_alen (X : CX G y p s m args meth c) {h : Hp} {H : Heap} {locs : List Loc} {cells slots : Nat} {ls : Array Slot} {rest : List Value} {pc a n : Nat} (hH : HR G h s H) (hn : aln h a = some n) (hdg : decode (mB y) pc = .ok (.arraylength, 1))
    (kk : W p l e R s m args below meth c H locs cells slots Q (F0 m (pc + 1) ls (.int (nI n) :: rest))) : W p l e R s m args below meth c H locs cells slots Q (F0 m pc ls (.ref (adr G a) :: rest)) := by
  have sz : ∀ {cA : ClassId} {N : Nat} {f : Nat → Value}, (arrV cA N f).slots.size.toInt32 = nI N := fun {cA N f} => by rw [arrV_size]; rfl
  by_cases hk4 : (kd a).1 < 4
  · obtain ⟨ha, rfl⟩ := al_low hk4 hn
    rw [adr_lo (kd_lo (by omega))]
    have hc := hH.2.2.2.1 a ha
    rcases (show (kd a).1 = 0 ∨ (kd a).1 = 1 ∨ (kd a).1 = 2 ∨ (kd a).1 = 3 by omega) with hk | hk | hk | hk
    · obtain ⟨cA, b1, b2⟩ := hc.1 hk
      exact W.alen X.1 X.2.1 b2 (b1 _ _) sz rfl rfl hdg kk
    · obtain ⟨cA, b1, b2⟩ := hc.2.1 hk
      exact W.alen X.1 X.2.1 b2 (b1 _ _) sz rfl rfl hdg kk
    · obtain ⟨cA, b1, b2⟩ := hc.2.2.1 hk
      exact W.alen X.1 X.2.1 b2 (b1.1 _ _) sz rfl rfl hdg kk
    · obtain ⟨cA, b1, b2⟩ := hc.2.2.2.1 hk
      exact W.alen X.1 X.2.1 b2 (b1 _ _) sz rfl rfl hdg kk
  · by_cases k5 : (kd a).1 = 5
    · obtain ⟨k1, k2, k3⟩ := kd_5 k5
      obtain ⟨h25, rfl⟩ := al_5 k5 hn
      obtain ⟨-, -, -, cell, t1, t2, t3, t4, t5, t6, t7⟩ := X.2.2.2.2.2.2.1.2.2.2.2.2.1.1 _ h25
      rw [adr_V k1 k2, ← k3]
      exact W.alen X.1 X.2.1 (by rw [hH.2.2.1 _ (Nat.not_le.mp t7)]; exact t1) t2 t5 rfl rfl hdg kk
    · by_cases k7 : (kd a).1 = 7
      · have e4 := al_7 k7 hn
        have ea := kd_7 k7
        subst ea e4
        obtain ⟨cell, t1, t2, t3, t4, t5, t6, t7⟩ := X.2.2.2.2.2.2.1.2.2.2.2.1
        rw [adr_T]
        exact W.alen X.1 X.2.1 (by rw [hH.2.2.1 _ (Nat.not_le.mp t7)]; exact t1) t2 t5 rfl rfl hdg kk
      · by_cases k8 : (kd a).1 = 8
        · have e4 := al_8 k8 hn
          rw [hH.L X.L] at e4
          have ea := kd_8 k8
          subst ea e4
          obtain ⟨cell, t1, t2, t3, t4, t5⟩ := X.2.2.2.2.2.2.1.2.2.2.2.2.2.1
          have hb := X.2.2.2.2.2.2.1.2.2.2.2.2.2.2.1
          rw [adr_S]
          exact W.alen X.1 X.2.1 (by rw [hH.2.2.1 _ hb]; exact t1) t2 (by rw [t4]; rfl) rfl rfl hdg kk
        · unfold aln at hn
          rw [if_neg hk4, if_neg k5, if_neg k7, if_neg k8] at hn
          cases hn
theorem cOK_arr {h h' : Hp} {H' : Heap} {a k : Nat} (hk : (kd a).1 = k) (h0 : k = 0 → ∃ cA, ArrOfT s cA .int ∧ H'[gB G + a]? = some (arrV cA (kd a).2 (fun j => .int (gi h' a j)))) (h1 : k = 1 → ∃ cA, ArrOfT s cA .long ∧ H'[gB G + a]? = some (arrV cA (kd a).2 (fun j => .long (gl h' a j)))) (h2 : k = 2 → ∃ cA, (ArrOfT s cA TyS ∧ va_RA s cA TyS) ∧ H'[gB G + a]? = some (arrV cA (kd a).2 (fun j => mvv G (gr h' a j))))
    (h3 : k = 3 → ∃ cA, ArrOfT s cA (.array .int) ∧ H'[gB G + a]? = some (arrV cA (kd a).2 (fun j => mvv G (gr h' a j)))) (h4 : k < 4) : cOK G h' s H' a :=
  ⟨fun z => h0 (hk.symm.trans z), fun z => h1 (hk.symm.trans z), fun z => h2 (hk.symm.trans z), fun z => h3 (hk.symm.trans z), fun z => by omega⟩
theorem so_iast (X : CX G y p s m args meth c) {h h' : Hp} {H : Heap} {locs : List Loc} {cells slots : Nat} {ls : Array Slot} {rest : List Value} {pc a : Nat} {i x : Int32} (hH : HR G h s H) (hs : ist h a i x = some h') (hdg : decode (mB y) pc = .ok (.iastore, 1))
    (kk : ∀ (H' : Heap) (j : Nat), HR G h' s H' → W p l e R s m args below meth c H' (locs ++ [⟨gB G + a, j⟩]) cells slots Q (F0 m (pc + 1) ls rest)) : W p l e R s m args below meth c H locs cells slots Q (F0 m pc ls (.int x :: .int i :: .ref (adr G a) :: rest)) := by
  unfold ist at hs
  split at hs
  · rename_i hc
    cases hs
    obtain ⟨n, hn, h1, h2⟩ := inb_use hc.2
    have hk := hc.1
    obtain ⟨ha, rfl⟩ := al_low (by rw [hk]; decide) hn
    obtain ⟨cA, b1, b2⟩ := (hH.2.2.2.1 a ha).1 hk
    rw [adr_lo (kd_lo (by rw [hk]; decide))]
    refine W.iast X.1 X.2.1 b2 (b1 _ _) (fun z => by cases z) (arr_lt h1 h2) rfl rfl hdg fun H' e1 e2 e3 => kk H' _ (hH.one ha rfl e2 e3 (fun id k hid => by rw [gi_si, if_neg (fun z => hid z.1)]) (fun _ _ _ => rfl) (fun _ _ _ => rfl) (cOK_arr (h := h) hk (fun _ => ⟨cA, b1, ?_⟩) (fun z => by cases z) (fun z => by cases z) (fun z => by cases z) (by decide)))
    rw [e1, arrV_store]
    congr 2
    funext j
    unfold updV
    rw [gi_si]
    by_cases ej : j = i.toNatClampNeg
    · rw [if_pos ej, if_pos ⟨rfl, ej⟩]
    · rw [if_neg ej, if_neg (fun z => ej z.2)]
  · cases hs
theorem so_last (X : CX G y p s m args meth c) {h h' : Hp} {H : Heap} {locs : List Loc} {cells slots : Nat} {ls : Array Slot} {rest : List Value} {pc a : Nat} {i : Int32} {x : Int64} (hH : HR G h s H) (hs : lst h a i x = some h') (hdg : decode (mB y) pc = .ok (.lastore, 1))
    (kk : ∀ (H' : Heap) (j : Nat), HR G h' s H' → W p l e R s m args below meth c H' (locs ++ [⟨gB G + a, j⟩]) cells slots Q (F0 m (pc + 1) ls rest)) : W p l e R s m args below meth c H locs cells slots Q (F0 m pc ls (.long x :: .int i :: .ref (adr G a) :: rest)) := by
  unfold lst at hs
  split at hs
  · rename_i hc
    cases hs
    obtain ⟨n, hn, h1, h2⟩ := inb_use hc.2
    have hk := hc.1
    obtain ⟨ha, rfl⟩ := al_low (by rw [hk]; decide) hn
    obtain ⟨cA, b1, b2⟩ := (hH.2.2.2.1 a ha).2.1 hk
    rw [adr_lo (kd_lo (by rw [hk]; decide))]
    refine W.last X.1 X.2.1 b2 (b1 _ _) (fun z => by cases z) (arr_lt h1 h2) rfl rfl hdg fun H' e1 e2 e3 => kk H' _ (hH.one ha rfl e2 e3 (fun _ _ _ => rfl) (fun id k hid => by rw [gl_sl, if_neg (fun z => hid z.1)]) (fun _ _ _ => rfl) (cOK_arr (h := h) hk (fun z => by cases z) (fun _ => ⟨cA, b1, ?_⟩) (fun z => by cases z) (fun z => by cases z) (by decide)))
    rw [e1, arrV_store]
    congr 2
    funext j
    unfold updV
    rw [gl_sl]
    by_cases ej : j = i.toNatClampNeg
    · rw [if_pos ej, if_pos ⟨rfl, ej⟩]
    · rw [if_neg ej, if_neg (fun z => ej z.2)]
  · cases hs
theorem so_rst (X : CX G y p s m args meth c) {h h' : Hp} {H : Heap} {locs : List Loc} {cells slots : Nat} {ls : Array Slot} {rest : List Value} {pc a b : Nat} {i : Int32} (hH : HR G h s H) (hs : rst h a i b = some h') (hdg : decode (mB y) pc = .ok (.aastore, 1))
    (kk : ∀ (H' : Heap) (j : Nat), HR G h' s H' → W p l e R s m args below meth c H' (locs ++ [⟨gB G + a, j⟩]) cells slots Q (F0 m (pc + 1) ls rest)) : W p l e R s m args below meth c H locs cells slots Q (F0 m pc ls (.ref (adr G b) :: .int i :: .ref (adr G a) :: rest)) := by
  unfold rst at hs
  split at hs
  · rename_i hc
    cases hs
    obtain ⟨hk, hib, hkb, hb⟩ := hc
    obtain ⟨n, hn, h1, h2⟩ := inb_use hib
    obtain ⟨ha, rfl⟩ := al_low (by rw [hk]; decide) hn
    obtain ⟨cA, ⟨b1, b3⟩, b2⟩ := (hH.2.2.2.1 a ha).2.2.1 hk
    obtain ⟨cellV, g1, g2, g3, -⟩ := (hH.2.2.2.1 b hb).2.2.2.2 (by rw [hkb])
    rw [hkb] at g2
    obtain ⟨kA, comp, k1, k2, k3, k4⟩ := b3
    have hcls := (X.kn (k := 7) (by decide)).2
    have hcomp : comp = gC G 7 := Option.some.inj (k3.symm.trans hcls.1)
    subst hcomp
    obtain ⟨kC, hkC, -⟩ := hcls.2
    rw [adr_lo (a := a) (kd_lo (by rw [hk]; decide)), adr_lo (a := b) (kd_lo (by rw [hkb]; decide))]
    have h0 := vpin h1 h2
    refine W.aast X.1 X.2.1 b2 (fun q h => by cases h) (fun h => by cases h) k1 k2 rfl hkC ⟨fun z => h0.1 (Or.inl z), by rw [arrV_size]; exact h0.2⟩ g1 (fun q h => by rw [g3] at h; cases h) (by rw [g2]; exact hkC) (by rw [g2]; exact va_asg _ _) rfl rfl hdg fun H' e1 e2 e3 => kk H' _ (hH.one ha rfl e2 e3 (fun _ _ _ => rfl) (fun _ _ _ => rfl) (fun id k hid => by rw [gr_sr, if_neg (fun z => hid z.1)]) (cOK_arr (h := h) hk (fun z => by cases z) (fun z => by cases z) (fun _ => ⟨cA, ⟨b1, ⟨kA, _, k1, k2, k3, k4⟩⟩, ?_⟩) (fun z => by cases z) (by decide)))
    rw [e1, arrV_store]
    congr 2
    funext j
    unfold updV
    rw [gr_sr]
    by_cases ej : j = i.toNatClampNeg
    · rw [if_pos ej, if_pos ⟨rfl, ej⟩, ← adr_lo (G := G) (kd_lo (a := b) (by rw [hkb]; decide))]
      rfl
    · rw [if_neg ej, if_neg (fun z => ej z.2)]
  · cases hs
end SA
