/-! sets of nodes as numbers; ways -/
theorem nI_bv (a : Nat) : (nI a).toBitVec = BitVec.ofNat 32 a := rfl
theorem nI_or (a b : Nat) : nI a ||| nI b = nI (a ||| b) := by
  apply Int32.toBitVec_inj.mp
  rw [Int32.toBitVec_or, nI_bv, nI_bv, nI_bv]
  exact BitVec.ofNat_or.symm
theorem nI_and (a b : Nat) : nI a &&& nI b = nI (a &&& b) := by
  apply Int32.toBitVec_inj.mp
  rw [Int32.toBitVec_and, nI_bv, nI_bv, nI_bv]
  exact BitVec.ofNat_and.symm
theorem nI_xor (a b : Nat) : nI a ^^^ nI b = nI (a ^^^ b) := by
  apply Int32.toBitVec_inj.mp
  rw [Int32.toBitVec_xor, nI_bv, nI_bv, nI_bv]
  exact BitVec.ofNat_xor.symm
theorem sh_31 {k : Nat} (h : k < 32) : nI k &&& 31 = nI k := by
  rw [show (31 : Int32) = nI 31 from rfl, nI_and, show (31 : Nat) = 2 ^ 5 - 1 from rfl, Nat.and_two_pow_sub_one_eq_mod, Nat.mod_eq_of_lt (by omega)]
theorem nI_sm {k : Nat} (h : k < 32) : ((nI k).toBitVec.smod 32).toNat = k := by
  have e : ∀ i : Fin 32, ((nI i.1).toBitVec.smod 32).toNat = i.1 := by decide
  exact e ⟨k, h⟩
theorem nI_shl {n k : Nat} (hk : k < 32) (h : n * 2 ^ k < 4294967296) : nI n <<< (nI k &&& 31) = nI (n * 2 ^ k) := by
  rw [sh_31 hk]
  exact pk_shlN _ k (nI_sm hk) (by omega)
theorem nI_shl1 {k : Nat} (hk : k < 31) : nI 1 <<< (nI k &&& 31) = nI (2 ^ k) := by
  have : 2 ^ k < 2 ^ 31 := Nat.pow_lt_pow_right (by decide) hk
  rw [nI_shl (by omega) (by omega), Nat.one_mul]
theorem nI_shr {n k : Nat} (hk : k < 32) (h : n < 2147483648) : nI n >>> (nI k &&& 31) = nI (n >>> k) := by
  rw [sh_31 hk, eqE, pk_shr _ _ k (nI_sm hk), nI_I h, nI_I (Nat.lt_of_le_of_lt (Nat.shiftRight_le n k) h)]
  rfl
/-- whether m is in the set -/
def bt (B m : Nat) : Nat := B >>> m &&& 1
theorem bt_t (B m : Nat) : bt B m = if B.testBit m then 1 else 0 := by
  unfold bt
  rw [Nat.testBit, Nat.and_comm]
  by_cases h : 1 &&& B >>> m = 0
  · rw [h]
    rfl
  · have h1 : 1 &&& B >>> m = 1 := by
      have : 1 &&& B >>> m ≤ 1 := Nat.and_le_left
      omega
    rw [h1]
    rfl
theorem nI_bt {B m : Nat} (hm : m < 32) (hB : B < 2147483648) : nI B >>> (nI m &&& 31) &&& nI 1 = nI (bt B m) := by
  rw [nI_shr hm hB, nI_and]
  rfl
theorem bt_or {B m k : Nat} : (B ||| 2 ^ k).testBit m = (B.testBit m || decide (k = m)) := by
  rw [Nat.testBit_or, Nat.testBit_two_pow]
theorem or_lt {B k : Nat} (hB : B < 65536) (hk : k < 16) : B ||| 2 ^ k < 65536 := by
  have : 2 ^ k < 2 ^ 16 := Nat.pow_lt_pow_right (by decide) hk
  exact Nat.or_lt_two_pow (n := 16) hB this
/-! ways: k arms from s to m -/
def am (w : Nat → Int32) (n : Nat) : Nat := fd w n 1
def tg (w : Nat → Int32) (n a : Nat) : Nat := fd w n (2 + a)
def pth (w : Nat → Int32) : Nat → Nat → Nat → Prop
  | 0, s, m => s = m
  | k + 1, s, m => ∃ a, a < am w s ∧ pth w k (tg w s a) m
theorem pth_snoc {w : Nat → Int32} : ∀ (k s m : Nat), pth w (k + 1) s m → ∃ n b, pth w k s n ∧ b < am w n ∧ tg w n b = m
  | 0, s, m, ⟨a, ha, e⟩ => ⟨s, a, rfl, ha, e⟩
  | k + 1, s, m, ⟨a, ha, e⟩ => by
    obtain ⟨n, b, h1, h2, h3⟩ := pth_snoc k _ _ e
    exact ⟨n, b, ⟨a, ha, h1⟩, h2, h3⟩
theorem pth_add {w : Nat → Int32} {n b : Nat} (hb : b < am w n) : ∀ (k s : Nat), pth w k s n → pth w (k + 1) s (tg w n b)
  | 0, s, h => by
    cases h
    exact ⟨b, hb, rfl⟩
  | k + 1, s, ⟨a, ha, h⟩ => ⟨a, ha, pth_add hb k _ h⟩
theorem am_le {w : Nat → Int32} (h : WI w) {n : Nat} (hn : n < 16) : am w n ≤ 3 := (wi_1 h hn).2
theorem am_0 {w : Nat → Int32} (h : WI w) {n : Nat} (hn : n < 16) (h2 : nn w ≤ n) : am w n = 0 := ((wi_f h hn).2.2.2.2.1 h2).2.1
theorem tg_lt {w : Nat → Int32} (h : WI w) {n a : Nat} (hn : n < 16) (ha : a < am w n) : n < tg w n a ∧ tg w n a < nn w := wi_to h hn ha
theorem pth_le {w : Nat → Int32} (h : WI w) : ∀ (k s m : Nat), s < 16 → pth w k s m → s + k ≤ m ∧ m < 16
  | 0, s, m, hs, e => by
    cases e
    exact ⟨Nat.le_refl _, hs⟩
  | k + 1, s, m, hs, ⟨a, ha, e⟩ => by
    have h1 := tg_lt h hs ha
    have h2 := wi_n h
    have := pth_le h k _ m (by omega) e
    omega
/-- the least of f below n, 99 at most -/
def minA (f : Nat → Nat) : Nat → Nat
  | 0 => 99
  | n + 1 => if f n < minA f n then f n else minA f n
def dst (w : Nat → Int32) : Nat → Nat → Nat → Nat
  | 0, s, m => if s = m then 0 else 99
  | f + 1, s, m => if s = m then 0 else minA (fun a => dst w f (tg w s a) m + 1) (am w s)
theorem minA_c {f f' : Nat → Nat} : ∀ n, (∀ a, a < n → f a = f' a) → minA f n = minA f' n
  | 0, _ => rfl
  | n + 1, h => by
    unfold minA
    rw [minA_c n fun a ha => h a (by omega), h n (by omega)]
theorem minA_le {f : Nat → Nat} : ∀ {n a : Nat}, a < n → minA f n ≤ f a
  | n + 1, a, ha => by
    unfold minA
    by_cases e : a = n
    · rw [e]
      split <;> omega
    · have := minA_le (f := f) (show a < n by omega)
      split <;> omega
theorem minA_99 {f : Nat → Nat} : ∀ n, minA f n ≤ 99
  | 0 => Nat.le_refl _
  | n + 1 => by
    have := minA_99 (f := f) n
    unfold minA
    split <;> omega
theorem minA_ex {f : Nat → Nat} : ∀ n, minA f n = 99 ∨ ∃ a, a < n ∧ minA f n = f a
  | 0 => Or.inl rfl
  | n + 1 => by
    unfold minA
    split
    · exact Or.inr ⟨n, by omega, rfl⟩
    · rcases minA_ex (f := f) n with h | ⟨a, h, e⟩
      · exact Or.inl h
      · exact Or.inr ⟨a, by omega, e⟩
theorem dst_st {w : Nat → Int32} (h : WI w) : ∀ (f s m : Nat), s < 16 → 15 ≤ s + f → dst w f s m = dst w (f + 1) s m
  | 0, s, m, hs, hf => by
    have : am w s = 0 := by
      rcases Nat.eq_zero_or_pos (am w s) with e | e
      · exact e
      · have := tg_lt h hs e
        have := wi_n h
        omega
    unfold dst
    rw [this]
    rfl
  | f + 1, s, m, hs, hf => by
    rw [dst, dst]
    split
    · rfl
    · refine minA_c _ fun a ha => ?_
      have := tg_lt h hs ha
      have := wi_n h
      show dst w f _ m + 1 = _
      rw [dst_st h f _ m (by omega) (by omega)]
/-- the fewest arms from s to m; 99 without a way -/
def far (w : Nat → Int32) (s m : Nat) : Nat := dst w 16 s m
theorem far_rec {w : Nat → Int32} (h : WI w) {s m : Nat} (hs : s < 16) : far w s m = if s = m then 0 else minA (fun a => far w (tg w s a) m + 1) (am w s) := by
  show dst w 16 s m = _
  rw [dst]
  split
  · rfl
  · refine minA_c _ fun a ha => ?_
    have := tg_lt h hs ha
    have := wi_n h
    show _ = dst w 16 _ m + 1
    rw [dst_st h 15 _ m (by omega) (by omega)]
theorem far_le {w : Nat → Int32} (h : WI w) : ∀ (k s m : Nat), s < 16 → pth w k s m → far w s m ≤ k
  | 0, s, m, hs, e => by
    rw [far_rec h hs, if_pos (show s = m from e)]
    exact Nat.le_refl _
  | k + 1, s, m, hs, ⟨a, ha, e⟩ => by
    have h1 := tg_lt h hs ha
    have h2 := wi_n h
    have h3 := far_le h k _ m (by omega) e
    rw [far_rec h hs]
    split
    · omega
    · have := minA_le (f := fun a => far w (tg w s a) m + 1) ha
      have : minA (fun a => far w (tg w s a) m + 1) (am w s) ≤ far w (tg w s a) m + 1 := this
      omega
theorem far_pth {w : Nat → Int32} (h : WI w) : ∀ (f s m : Nat), s < 16 → 15 ≤ s + f → far w s m = 99 ∨ (pth w (far w s m) s m ∧ far w s m ≤ 15)
  | f, s, m, hs, hf => by
    rw [far_rec h hs]
    split
    next e => exact Or.inr ⟨e, by omega⟩
    next e =>
      rcases minA_ex (f := fun a => far w (tg w s a) m + 1) (am w s) with e1 | ⟨a, ha, e1⟩
      · exact Or.inl e1
      · have h1 := tg_lt h hs ha
        have h2 := wi_n h
        match f, hf with
        | 0, hf => omega
        | f + 1, hf =>
          have e1 : minA (fun a => far w (tg w s a) m + 1) (am w s) = far w (tg w s a) m + 1 := e1
          have e9 := minA_99 (f := fun a => far w (tg w s a) m + 1) (am w s)
          rcases far_pth h f (tg w s a) m (by omega) (by omega) with e2 | e2
          · left
            omega
          · right
            have e3 : pth w (far w (tg w s a) m + 1) s m := ⟨a, ha, e2.1⟩
            have := pth_le h _ _ _ hs e3
            rw [e1]
            exact ⟨e3, by omega⟩
theorem far_99 {w : Nat → Int32} (h : WI w) {s m : Nat} (hs : s < 16) : far w s m = 99 ∨ far w s m ≤ 15 := by
  rcases far_pth h 16 s m hs (by omega) with e | e
  · exact Or.inl e
  · exact Or.inr e.2
theorem far_ok {w : Nat → Int32} (h : WI w) {s m : Nat} (hs : s < 16) (hf : far w s m ≠ 99) : pth w (far w s m) s m := by
  rcases far_pth h 16 s m hs (by omega) with e | e
  · exact absurd e hf
  · exact e.1
theorem far_iff {w : Nat → Int32} (h : WI w) {s m : Nat} (hs : s < 16) : far w s m ≠ 99 ↔ ∃ k, pth w k s m :=
  ⟨fun e => ⟨_, far_ok h hs e⟩, fun ⟨k, e⟩ => by
    have := far_le h k s m hs e
    have := pth_le h k s m hs e
    omega⟩
