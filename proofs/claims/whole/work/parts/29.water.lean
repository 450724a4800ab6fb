/-! where the water goes -/
/-- the sum of f below n -/
def sm (f : Nat → Nat) : Nat → Nat
  | 0 => 0
  | n + 1 => sm f n + f n
theorem sm_c {f f' : Nat → Nat} : ∀ n, (∀ a, a < n → f a = f' a) → sm f n = sm f' n
  | 0, _ => rfl
  | n + 1, h => by
    unfold sm
    rw [sm_c n fun a ha => h a (by omega), h n (by omega)]
theorem sm_le {f f' : Nat → Nat} : ∀ n, (∀ a, a < n → f a ≤ f' a) → sm f n ≤ sm f' n
  | 0, _ => Nat.le_refl _
  | n + 1, h => by
    have h1 := sm_le n fun a ha => h a (by omega)
    have h2 := h n (by omega)
    unfold sm
    omega
theorem sm_add {f f' : Nat → Nat} : ∀ n, sm (fun a => f a + f' a) n = sm f n + sm f' n
  | 0 => rfl
  | n + 1 => by
    have := sm_add (f := f) (f' := f') n
    show sm (fun a => f a + f' a) n + (f n + f' n) = sm f n + f n + (sm f' n + f' n)
    omega
theorem sm_0 : ∀ n, sm (fun _ => 0) n = 0
  | 0 => rfl
  | n + 1 => sm_0 n
theorem sm_mem {f : Nat → Nat} : ∀ {n a : Nat}, a < n → f a ≤ sm f n
  | n + 1, a, h => by
    show f a ≤ sm f n + f n
    by_cases e : a = n
    · rw [e]
      omega
    · have := sm_mem (f := f) (n := n) (a := a) (by omega)
      omega
/-- one place of n has x -/
theorem sm_one {t x : Nat} : ∀ n, sm (fun m => if t = m then x else 0) n = if t < n then x else 0
  | 0 => rfl
  | n + 1 => by
    show sm (fun m => if t = m then x else 0) n + (if t = n then x else 0) = _
    rw [sm_one n]
    by_cases e : t = n
    · rw [if_neg (by omega), if_pos e, if_pos (by omega), Nat.zero_add]
    · rw [if_neg e]
      by_cases e2 : t < n
      · rw [if_pos e2, if_pos (by omega)]
        rfl
      · rw [if_neg e2, if_neg (by omega)]
theorem sm_sw {f : Nat → Nat → Nat} {k : Nat} : ∀ n, sm (fun m => sm (fun a => f a m) k) n = sm (fun a => sm (fun m => f a m) n) k
  | 0 => by
    show 0 = sm (fun a => 0) k
    rw [sm_0]
  | n + 1 => by
    show sm (fun m => sm (fun a => f a m) k) n + sm (fun a => f a n) k = sm (fun a => sm (fun m => f a m) n + f a n) k
    rw [sm_sw n, sm_add]
/-- how many are so below n -/
def cnt (p : Nat → Bool) : Nat → Nat
  | 0 => 0
  | n + 1 => cnt p n + (if p n = true then 1 else 0)
theorem cnt_le {p : Nat → Bool} : ∀ n, cnt p n ≤ n
  | 0 => Nat.le_refl _
  | n + 1 => by
    have := cnt_le (p := p) n
    unfold cnt
    split <;> omega
theorem cnt_mono {p : Nat → Bool} : ∀ {n m : Nat}, n ≤ m → cnt p n ≤ cnt p m := by
  intro n m h
  induction m with
  | zero =>
    rw [Nat.le_zero.mp h]
    exact Nat.le_refl _
  | succ m ih =>
    by_cases e : n = m + 1
    · rw [e]
      exact Nat.le_refl _
    · have := ih (by omega)
      show cnt p n ≤ cnt p m + _
      omega
theorem cnt_pos {p : Nat → Bool} {n a : Nat} (ha : a < n) (hp : p a = true) : cnt p a + 1 ≤ cnt p n := by
  have h1 : cnt p (a + 1) = cnt p a + 1 := by
    show cnt p a + (if p a = true then 1 else 0) = _
    rw [if_pos hp]
  rw [← h1]
  exact cnt_mono ha
/-- a small number that isn't 0 has one of its places -/
theorem cnt_ex {o : Nat} : ∀ {n : Nat}, 1 ≤ o → o < 2 ^ n → 1 ≤ cnt o.testBit n := by
  intro n h1 h2
  by_cases e : ∃ a, a < n ∧ o.testBit a = true
  · obtain ⟨a, ha, hb⟩ := e
    have := cnt_pos ha hb
    omega
  · exfalso
    have : o = 0 := Nat.eq_of_testBit_eq fun m => by
      rw [Nat.zero_testBit]
      by_cases hm : m < n
      · cases hb : o.testBit m
        · rfl
        · exact absurd ⟨m, hm, hb⟩ e
      · exact Nat.testBit_lt_two_pow (Nat.lt_of_lt_of_le h2 (Nat.pow_le_pow_right (by decide) (by omega)))
    omega
/-- what a fork n, to which c comes, sends by arm a, when o is open -/
def rst0 (w : Nat → Int32) (o c n : Nat) : Nat := c - c * vN w 7 / 100 * (am w n - cnt o.testBit (am w n))
def snF (w : Nat → Int32) (o c n a : Nat) : Nat :=
  if o.testBit a = true then rst0 w o c n / cnt o.testBit (am w n) + (if cnt o.testBit a < rst0 w o c n % cnt o.testBit (am w n) then 1 else 0) else c * vN w 7 / 100
/-- a town: what its store takes, what it sends on -/
def tak (w : Nat → Int32) (c t : Nat) : Nat := if c - fd w t 11 < 50 * fd w t 15 - fd w t 16 then c - fd w t 11 else 50 * fd w t 15 - fd w t 16
def giv (w : Nat → Int32) (c t : Nat) : Nat := if fd w t 11 - c < fd w t 16 then fd w t 11 - c else fd w t 16
def snT (w : Nat → Int32) (c t : Nat) : Nat := if fd w t 11 < c then c - fd w t 11 - tak w c t else 0
def sto (w : Nat → Int32) (c t : Nat) : Nat := if fd w t 11 < c then fd w t 16 + tak w c t else fd w t 16 - giv w c t
def wetP (w : Nat → Int32) (c t : Nat) : Bool := decide (fd w t 11 ≤ c + fd w t 16)
def snt (w : Nat → Int32) (op : Nat → Nat) (c n a : Nat) : Nat := if fd w n 0 = 0 then snF w (op n) c n a else snT w c n
/-- what comes to m when the nodes below n are done -/
def cmN (w : Nat → Int32) (op : Nat → Nat) (fl : Nat) : Nat → Nat → Nat
  | 0, m => if m = 0 then fl else 0
  | n + 1, m => cmN w op fl n m + sm (fun a => if tg w n a = m then snt w op (cmN w op fl n n) n a else 0) (am w n)
/-- what comes to n in all -/
def cmA (w : Nat → Int32) (op : Nat → Nat) (fl n : Nat) : Nat := cmN w op fl n n
/-- what goes straight from i to j -/
def cmF (w : Nat → Int32) (op : Nat → Nat) (fl i j : Nat) : Nat := sm (fun a => if tg w i a = j then snt w op (cmA w op fl i) i a else 0) (am w i)
theorem cmN_s {w : Nat → Int32} {op : Nat → Nat} {fl n m : Nat} : cmN w op fl (n + 1) m = cmN w op fl n m + cmF w op fl n m := rfl
/-- the open arms of each fork are arms of it, and there are some -/
def opO (w : Nat → Int32) (op : Nat → Nat) : Prop := ∀ n, n < nn w → fd w n 0 = 0 → 1 ≤ op n ∧ op n < 2 ^ am w n
theorem opO_w {w : Nat → Int32} (h : WI w) : opO w (fun n => fd w n 5) := fun n hn h0 => by
  have := wi_n h
  exact ((wi_f h (n := n) (by omega)).2.2.2.1 hn).1 h0 |>.2
theorem wi_7 {w : Nat → Int32} (h : WI w) : w 7 = nI (vN w 7) ∧ vN w 7 ≤ 33 := h.2.2.1.2.1
theorem wi_6 {w : Nat → Int32} (h : WI w) : w 6 = nI (vN w 6) ∧ vN w 6 ≤ 999 := h.2.2.1.1
theorem wi_8 {w : Nat → Int32} (h : WI w) : w 8 = nI (vN w 8) ∧ vN w 8 ≤ 1000 := h.2.2.1.2.2.1
theorem wi_9 {w : Nat → Int32} (h : WI w) : w 9 = nI (vN w 9) ∧ vN w 9 ≤ 1000 := h.2.2.1.2.2.2
theorem trk {w : Nat → Int32} (h : WI w) {c k : Nat} (hk : k ≤ 3) : c * vN w 7 / 100 * k ≤ c := by
  have h1 := (wi_7 h).2
  have h2 : c * vN w 7 ≤ c * 33 := Nat.mul_le_mul_left c h1
  have h3 : c * vN w 7 / 100 * k ≤ c * vN w 7 / 100 * 3 := Nat.mul_le_mul_left _ hk
  omega
theorem snF_u {w : Nat → Int32} {o c n : Nat} : ∀ a, sm (snF w o c n) a = rst0 w o c n / cnt o.testBit (am w n) * cnt o.testBit a + (if cnt o.testBit a < rst0 w o c n % cnt o.testBit (am w n) then cnt o.testBit a else rst0 w o c n % cnt o.testBit (am w n)) + c * vN w 7 / 100 * (a - cnt o.testBit a)
  | 0 => by
    have e2 : cnt o.testBit 0 = 0 := rfl
    have e : ∀ y : Nat, (if 0 < y then 0 else y) = 0 := fun y => by split <;> omega
    rw [e2, Nat.mul_zero, Nat.sub_zero, Nat.mul_zero, e]
    rfl
  | a + 1 => by
    have h1 := snF_u (w := w) (o := o) (c := c) (n := n) a
    have h2 := cnt_le (p := o.testBit) a
    show sm (snF w o c n) a + snF w o c n a = _
    rw [h1]
    unfold snF
    by_cases e : o.testBit a = true
    · have e1 : cnt o.testBit (a + 1) = cnt o.testBit a + 1 := by
        show cnt o.testBit a + (if o.testBit a = true then 1 else 0) = _
        rw [if_pos e]
      rw [if_pos e, e1, Nat.mul_add, Nat.mul_one, show a + 1 - (cnt o.testBit a + 1) = a - cnt o.testBit a by omega]
      generalize rst0 w o c n / cnt o.testBit (am w n) * cnt o.testBit a = x1
      generalize rst0 w o c n / cnt o.testBit (am w n) = x2
      generalize rst0 w o c n % cnt o.testBit (am w n) = x3
      generalize c * vN w 7 / 100 * (a - cnt o.testBit a) = x4
      repeat' split
      all_goals omega
    · have e1 : cnt o.testBit (a + 1) = cnt o.testBit a := by
        show cnt o.testBit a + (if o.testBit a = true then 1 else 0) = _
        rw [if_neg e]
        rfl
      rw [if_neg e, e1, show a + 1 - cnt o.testBit a = a - cnt o.testBit a + 1 by omega, Nat.mul_add, Nat.mul_one]
      omega
theorem snF_t {w : Nat → Int32} (h : WI w) {o c n : Nat} (hn : n < 16) (h1 : 1 ≤ o) (h2 : o < 2 ^ am w n) : sm (snF w o c n) (am w n) = c := by
  have h3 := cnt_ex h1 h2
  have h4 := cnt_le (p := o.testBit) (am w n)
  have h5 := am_le h hn
  have h6 := trk h (c := c) (k := am w n - cnt o.testBit (am w n)) (by omega)
  have h7 : rst0 w o c n % cnt o.testBit (am w n) < cnt o.testBit (am w n) := Nat.mod_lt _ h3
  have h8 := Nat.div_add_mod (rst0 w o c n) (cnt o.testBit (am w n))
  rw [Nat.mul_comm] at h8
  rw [snF_u, if_neg (by omega), h8]
  unfold rst0
  omega
theorem snT_l {w : Nat → Int32} {c t : Nat} : snT w c t ≤ c := by
  unfold snT
  split <;> omega
theorem snt_l {w : Nat → Int32} (h : WI w) {op : Nat → Nat} (ho : opO w op) {c n : Nat} (hn : n < 16) : sm (snt w op c n) (am w n) ≤ c := by
  by_cases e : fd w n 0 = 0
  · by_cases hn2 : n < nn w
    · have h1 := ho n hn2 e
      rw [sm_c (f := snt w op c n) (f' := snF w (op n) c n) _ fun a _ => if_pos e, snF_t h hn h1.1 h1.2]
      exact Nat.le_refl _
    · rw [am_0 h hn (by omega)]
      exact Nat.zero_le _
  · rw [sm_c (f := snt w op c n) (f' := fun _ => snT w c n) _ fun a _ => if_neg e]
    have h0 := wi_0 h hn
    have : am w n ≤ 1 := by
      by_cases hn2 : n < nn w
      · have h3 := (wi_f h hn).2.2.2.1 hn2
        unfold am
        by_cases e1 : fd w n 0 = 1
        · have := (h3.2.1 e1).1
          omega
        · have := h3.2.2 (by omega)
          omega
      · rw [am_0 h hn (by omega)]
        omega
    have h4 := snT_l (w := w) (c := c) (t := n)
    match am w n, this with
    | 0, _ => exact Nat.zero_le _
    | 1, _ =>
      show 0 + snT w c n ≤ c
      omega
/-- no more comes than is sent off -/
theorem cm_all {w : Nat → Int32} (h : WI w) {op : Nat → Nat} (ho : opO w op) {fl : Nat} : ∀ n, n ≤ 16 → sm (fun m => if n ≤ m then cmN w op fl n m else 0) 16 ≤ fl
  | 0, _ => by
    rw [sm_c (f' := fun m => if 0 = m then fl else 0) 16 fun m _ => by
      rw [if_pos (Nat.zero_le _)]
      show (if m = 0 then fl else 0) = _
      by_cases e : m = 0
      · rw [if_pos e, if_pos e.symm]
      · rw [if_neg e, if_neg fun h => e h.symm], sm_one]
    exact Nat.le_refl _
  | n + 1, hn => by
    have h1 := cm_all h ho (fl := fl) n (by omega)
    have h2 := snt_l h ho (c := cmN w op fl n n) (n := n) (by omega)
    have e1 : sm (fun m => if n ≤ m then cmN w op fl n m else 0) 16 = sm (fun m => if n + 1 ≤ m then cmN w op fl n m else 0) 16 + cmN w op fl n n := by
      have : sm (fun m => if n ≤ m then cmN w op fl n m else 0) 16 = sm (fun m => (if n + 1 ≤ m then cmN w op fl n m else 0) + (if n = m then cmN w op fl n n else 0)) 16 := sm_c 16 fun m _ => by
        by_cases e : n = m
        · subst e
          rw [if_pos (Nat.le_refl _), if_neg (by omega), if_pos rfl, Nat.zero_add]
        · rw [if_neg e, Nat.add_zero]
          by_cases e2 : n + 1 ≤ m
          · rw [if_pos e2, if_pos (by omega)]
          · rw [if_neg e2, if_neg (by omega)]
      rw [this, sm_add, sm_one, if_pos (by omega)]
    have e2 : sm (fun m => if n + 1 ≤ m then cmN w op fl (n + 1) m else 0) 16 ≤ sm (fun m => if n + 1 ≤ m then cmN w op fl n m else 0) 16 + sm (fun m => cmF w op fl n m) 16 := by
      rw [← sm_add]
      refine sm_le 16 fun m _ => ?_
      split
      · rw [cmN_s]
        exact Nat.le_refl _
      · exact Nat.zero_le _
    have e3 : sm (fun m => cmF w op fl n m) 16 = sm (snt w op (cmN w op fl n n) n) (am w n) := by
      show sm (fun m => sm (fun a => if tg w n a = m then snt w op (cmN w op fl n n) n a else 0) (am w n)) 16 = _
      rw [sm_sw (f := fun a m => if tg w n a = m then snt w op (cmN w op fl n n) n a else 0)]
      refine sm_c _ fun a ha => ?_
      have := tg_lt h (n := n) (a := a) (by omega) ha
      have := wi_n h
      rw [sm_one, if_pos (by omega)]
    omega
theorem cm_le {w : Nat → Int32} (h : WI w) {op : Nat → Nat} (ho : opO w op) {fl n : Nat} (hn : n < 16) : cmA w op fl n ≤ fl := by
  have h1 := cm_all h ho (fl := fl) n (by omega)
  have h2 := sm_mem (f := fun m => if n ≤ m then cmN w op fl n m else 0) hn
  have h2 : (if n ≤ n then cmN w op fl n n else 0) ≤ sm (fun m => if n ≤ m then cmN w op fl n m else 0) 16 := h2
  rw [if_pos (Nat.le_refl _)] at h2
  exact Nat.le_trans h2 h1
/-- what comes to a node does not change when it is done -/
theorem cmN_d {w : Nat → Int32} (h : WI w) {op : Nat → Nat} {fl m : Nat} : ∀ n, m ≤ n → n ≤ 16 → cmN w op fl n m = cmA w op fl m
  | 0, hn, _ => by
    cases Nat.le_zero.mp hn
    rfl
  | n + 1, hn, h16 => by
    by_cases e : m = n + 1
    · rw [e]
      rfl
    · rw [cmN_s, cmN_d h n (by omega) (by omega)]
      have : cmF w op fl n m = 0 := by
        unfold cmF
        rw [sm_c (f' := fun _ => 0) _ fun a ha => if_neg (by have := tg_lt h (n := n) (by omega) ha; omega), sm_0]
      omega
/-- a row with one place anew -/
def pu (w : Nat → Int32) (k : Nat) (v : Int32) : Nat → Int32 := fun j => if j = k then v else w j
theorem pu_s {w : Nat → Int32} {k : Nat} {v : Int32} : pu w k v k = v := if_pos rfl
theorem pu_n {w : Nat → Int32} {k j : Nat} {v : Int32} (h : j ≠ k) : pu w k v j = w j := if_neg h
theorem pu_g {g : Nat → Nat → Int32} {a k : Nat} {v : Int32} : up2 g a k v = upw g a (pu (g a) k v) := up2_g
theorem pu_w {g : Nat → Nat → Int32} {a k : Nat} {r : Nat → Int32} {v : Int32} : up2 (upw g a r) a k v = upw g a (pu r k v) := up2_w
theorem upw_c {g : Nat → Nat → Int32} {a b : Nat} {r s : Nat → Int32} (h : a ≠ b) : upw (upw g a r) b s = upw (upw g b s) a r := by
  funext c
  unfold upw
  by_cases e : c = a
  · subst e
    rw [if_pos rfl, if_neg h, if_pos rfl]
  · rw [if_neg e, if_neg e]
/-- a row with what came straight -/
def cmw (w : Nat → Int32) (c : Nat → Nat → Nat) : Nat → Int32 := fun k => if 340 ≤ k ∧ k < 596 then nI (c ((k - 340) / 16) ((k - 340) % 16)) else w k
theorem cmw_o {w : Nat → Int32} {c : Nat → Nat → Nat} {k : Nat} (h : k < 340 ∨ 596 ≤ k) : cmw w c k = w k := if_neg (by omega)
theorem cmw_i {w : Nat → Int32} {c : Nat → Nat → Nat} {i j : Nat} (hi : i < 16) (hj : j < 16) : cmw w c (340 + 16 * i + j) = nI (c i j) := by
  unfold cmw
  rw [if_pos (by omega), show (340 + 16 * i + j - 340) / 16 = i by omega, show (340 + 16 * i + j - 340) % 16 = j by omega]
theorem cmw_p {w : Nat → Int32} {c : Nat → Nat → Nat} {k : Nat} {v : Int32} (h : k < 340 ∨ 596 ≤ k) : pu (cmw w c) k v = cmw (pu w k v) c := by
  funext j
  unfold pu cmw
  dsimp only
  by_cases e : j = k
  · rw [if_pos e, if_neg (by omega), if_pos e]
  · rw [if_neg e, if_neg e]
theorem cmw_u {w : Nat → Int32} {c : Nat → Nat → Nat} {i j v : Nat} (hi : i < 16) (hj : j < 16) : pu (cmw w c) (340 + 16 * i + j) (nI v) = cmw w (fun i' j' => if i' = i ∧ j' = j then v else c i' j') := by
  funext k
  unfold pu cmw
  dsimp only
  by_cases e : k = 340 + 16 * i + j
  · rw [if_pos e, if_pos (by omega), if_pos (by omega)]
  · rw [if_neg e]
    by_cases e2 : 340 ≤ k ∧ k < 596
    · rw [if_pos e2, if_pos e2, if_neg (by omega)]
    · rw [if_neg e2, if_neg e2]
theorem cmw_c {w : Nat → Int32} {c c' : Nat → Nat → Nat} (h : ∀ i j, i < 16 → j < 16 → c i j = c' i j) : cmw w c = cmw w c' := by
  funext k
  unfold cmw
  split
  · rw [h _ _ (by omega) (by omega)]
  · rfl
/-- a town's row behind its water -/
def drk (r w : Nat → Int32) (c t : Nat) : Nat → Int32 :=
  pu (pu (pu (pu r (10 + 20 * t + 12) (nI c)) (10 + 20 * t + 16) (nI (sto w c t))) (10 + 20 * t + 17) (nI (if wetP w c t = true then 1 else 0))) (10 + 20 * t + 13) (nI (if wetP w c t = true then 0 else if 99 < fd w t 13 + 1 then 99 else fd w t 13 + 1))
/-- the row when the nodes below n are done, but for what came straight -/
def flN (w : Nat → Int32) (fl : Nat) : Nat → Nat → Int32
  | 0 => w
  | n + 1 => if fd w n 0 = 0 then flN w fl n else if fd w n 0 = 1 then drk (flN w fl n) w (cmA w (fun n => fd w n 5) fl n) n else pu (flN w fl n) 3 (flN w fl n 3 + nI (cmA w (fun n => fd w n 5) fl n))
/-- the row behind a day's water -/
def flR (w : Nat → Int32) (fl : Nat) : Nat → Int32 := cmw (flN w fl (nn w)) (fun i j => if i < nn w then cmF w (fun n => fd w n 5) fl i j else 0)
theorem drk_o {r w : Nat → Int32} {c t k : Nat} (h : k ≠ 10 + 20 * t + 12) (h1 : k ≠ 10 + 20 * t + 13) (h2 : k ≠ 10 + 20 * t + 16) (h3 : k ≠ 10 + 20 * t + 17) : drk r w c t k = r k := by
  unfold drk
  rw [pu_n h1, pu_n h3, pu_n h2, pu_n h]
theorem flN_o {w : Nat → Int32} {fl k : Nat} (h3 : k ≠ 3) : ∀ n, (∀ t, t < n → k ≠ 10 + 20 * t + 12 ∧ k ≠ 10 + 20 * t + 13 ∧ k ≠ 10 + 20 * t + 16 ∧ k ≠ 10 + 20 * t + 17) → flN w fl n k = w k
  | 0, _ => rfl
  | n + 1, h => by
    have h1 := flN_o (w := w) (fl := fl) h3 n fun t ht => h t (by omega)
    have h2 := h n (by omega)
    unfold flN
    split
    · exact h1
    · split
      · rw [drk_o h2.1 h2.2.1 h2.2.2.1 h2.2.2.2, h1]
      · rw [pu_n h3, h1]
