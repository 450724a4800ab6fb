/-! tokens, told once -/
def scF (p : Nat → Bool) : Nat → Nat → Nat
  | 0, x => x
  | j + 1, x => if p x = true then scF p j (x + 1) else x
/-- the first place from x on, below n, where p fails -/
def scn (p : Nat → Bool) (n x : Nat) : Nat := scF p (n - x) x
theorem scn_e {p : Nat → Bool} {n x : Nat} (h : n ≤ x) : scn p n x = x := by
  unfold scn
  rw [Nat.sub_eq_zero_of_le h]
  rfl
theorem scn_s {p : Nat → Bool} {n x : Nat} (h : x < n) (hp : p x = true) : scn p n x = scn p n (x + 1) := by
  unfold scn
  rw [show n - x = n - (x + 1) + 1 by omega]
  exact if_pos hp
theorem scn_n {p : Nat → Bool} {n x : Nat} (h : x < n) (hp : p x = false) : scn p n x = x := by
  unfold scn
  rw [show n - x = n - (x + 1) + 1 by omega]
  exact if_neg (by rw [hp]; exact Bool.false_ne_true)
theorem scF_i {p : Nat → Bool} : ∀ (j x : Nat), x ≤ scF p j x ∧ scF p j x ≤ x + j ∧ ∀ i, x ≤ i → i < scF p j x → p i = true
  | 0, x => ⟨Nat.le_refl x, Nat.le_refl x, fun i h1 h2 => absurd h1 (Nat.not_le_of_lt h2)⟩
  | j + 1, x => by
    obtain ⟨h1, h2, h3⟩ := scF_i (p := p) j (x + 1)
    have e : scF p (j + 1) x = if p x = true then scF p j (x + 1) else x := rfl
    by_cases hp : p x = true
    · rw [e, if_pos hp]
      refine ⟨by omega, by omega, fun i hi1 hi2 => ?_⟩
      by_cases e2 : i = x
      · rw [e2]
        exact hp
      · exact h3 i (by omega) hi2
    · rw [e, if_neg hp]
      exact ⟨Nat.le_refl x, by omega, fun i hi1 hi2 => by omega⟩
theorem scn_i {p : Nat → Bool} {n x : Nat} : x ≤ scn p n x ∧ (x ≤ n → scn p n x ≤ n) ∧ ∀ i, x ≤ i → i < scn p n x → p i = true := by
  obtain ⟨h1, h2, h3⟩ := scF_i (p := p) (n - x) x
  have e : scn p n x = scF p (n - x) x := rfl
  rw [← e] at h1 h2 h3
  exact ⟨h1, fun h => by omega, h3⟩
theorem scn_f {p : Nat → Bool} {n : Nat} : ∀ (j x : Nat), x + j = n → scn p n x < n → p (scn p n x) = false
  | 0, x, hx, h => by
    rw [scn_e (by omega)] at h
    omega
  | j + 1, x, hx, h => by
    cases hp : p x
    · rw [scn_n (by omega) hp]
      exact hp
    · rw [scn_s (by omega) hp] at h ⊢
      exact scn_f j (x + 1) (by omega) h
def allb (p : Nat → Bool) : Nat → Bool
  | 0 => true
  | n + 1 => allb p n && p n
theorem allb_i {p : Nat → Bool} : ∀ {n : Nat}, allb p n = true ↔ ∀ i, i < n → p i = true
  | 0 => ⟨fun _ i hi => absurd hi (Nat.not_lt_zero i), fun _ => rfl⟩
  | n + 1 => by
    unfold allb
    rw [Bool.and_eq_true, allb_i (n := n)]
    constructor
    · rintro ⟨h1, h2⟩ i hi
      by_cases e : i = n
      · rw [e]
        exact h2
      · exact h1 i (by omega)
    · intro h
      exact ⟨fun i hi => h i (by omega), h n (by omega)⟩
/-- whether text k stands from b to e -/
def wmt (T : Nat → Nat) (k b e : Nat) : Bool := decide (e - b = sL k) && allb (fun i => decide (T (b + i) = sB k i)) (sL k)
/-- the words of each text, as the class numbers them, and the reference's codes -/
def WTL : List (List Nat) := [[4, 5, 6, 7, 8, 9], [17, 10, 11, 8, 12, 18, 19, 20, 21, 13, 14, 15, 16, 22, 4], [24, 10, 11, 8, 12, 18, 19, 20, 21, 23, 22, 5]]
def CTL : List (List Nat) := [[10, 11, 12, 13, 5, 14], [7, 3, 4, 5, 6, 41, 42, 43, 44, 45, 46, 47, 48, 49, 50], [7, 3, 4, 5, 6, 41, 42, 43, 44, 51, 49, 52]]
def WN (k : Nat) : Nat := (WTL.getD k []).length
def WT (k m : Nat) : Nat := (WTL.getD k []).getD m 0
def CT_ (k m : Nat) : Nat := (CTL.getD k []).getD m 0
theorem WT_ck : ((List.range 3).all fun k => (List.range (WN k)).all fun m => decide (WT k m < 25) && (decide (3 ≤ CT_ k m ∧ CT_ k m < 100) && (List.range (WN k)).all fun m' => decide (m = m') || (decide (CT_ k m ≠ CT_ k m') && !(decide (sL (WT k m) = sL (WT k m')) && allb (fun i => decide (sB (WT k m) i = sB (WT k m') i)) (sL (WT k m)))))) = true := by decide +kernel
theorem WT_ok {k m : Nat} (hk : k < 3) (hm : m < WN k) : WT k m < 25 ∧ (3 ≤ CT_ k m ∧ CT_ k m < 100) ∧ ∀ m', m' < WN k → m ≠ m' → CT_ k m ≠ CT_ k m' ∧ ¬ (sL (WT k m) = sL (WT k m') ∧ ∀ i, i < sL (WT k m) → sB (WT k m) i = sB (WT k m') i) := by
  have h := List.all_eq_true.mp (List.all_eq_true.mp WT_ck k (List.mem_range.mpr hk)) m (List.mem_range.mpr hm)
  rw [Bool.and_eq_true, Bool.and_eq_true] at h
  refine ⟨of_decide_eq_true h.1, of_decide_eq_true h.2.1, fun m' hm' hne => ?_⟩
  have h2 := List.all_eq_true.mp h.2.2 m' (List.mem_range.mpr hm')
  rw [decide_eq_false hne, Bool.false_or, Bool.and_eq_true] at h2
  refine ⟨of_decide_eq_true h2.1, fun h3 => ?_⟩
  rw [decide_eq_true h3.1, allb_i.mpr fun i hi => decide_eq_true (h3.2 i hi)] at h2
  exact absurd h2.2 (by decide)
theorem wmt_i {T : Nat → Nat} {k b e : Nat} : wmt T k b e = true ↔ e - b = sL k ∧ ∀ i, i < sL k → T (b + i) = sB k i := by
  unfold wmt
  rw [Bool.and_eq_true, decide_eq_true_eq, allb_i]
  exact ⟨fun h => ⟨h.1, fun i hi => of_decide_eq_true (h.2 i hi)⟩, fun h => ⟨h.1, fun i hi => decide_eq_true (h.2 i hi)⟩⟩
/-- the number of the word that stands so -/
def fwd (T : Nat → Nat) (k b e : Nat) : Nat → Option Nat
  | 0 => none
  | m + 1 => if wmt T (WT k m) b e = true then some m else fwd T k b e m
theorem wmt_u {T : Nat → Nat} {k b e m m' : Nat} (hk : k < 3) (hm : m < WN k) (hm' : m' < WN k) (h : wmt T (WT k m) b e = true) (h' : wmt T (WT k m') b e = true) : m = m' := by
  refine Classical.byContradiction fun hne => ?_
  obtain ⟨a1, a2⟩ := wmt_i.mp h
  obtain ⟨b1, b2⟩ := wmt_i.mp h'
  exact ((WT_ok hk hm).2.2 m' hm' hne).2 ⟨a1.symm.trans b1, fun i hi => (a2 i hi).symm.trans (b2 i (by omega))⟩
theorem fwd_n {T : Nat → Nat} {k b e : Nat} : ∀ N, (∀ m, m < N → wmt T (WT k m) b e = false) → fwd T k b e N = none
  | 0, _ => rfl
  | N + 1, h => by
    unfold fwd
    rw [if_neg (by rw [h N (by omega)]; exact Bool.false_ne_true), fwd_n N fun m hm => h m (by omega)]
theorem fwd_y {T : Nat → Nat} {k b e m : Nat} (hk : k < 3) (h : wmt T (WT k m) b e = true) : ∀ N, N ≤ WN k → m < N → fwd T k b e N = some m
  | 0, _, hm => absurd hm (Nat.not_lt_zero m)
  | N + 1, hN, hm => by
    unfold fwd
    by_cases e1 : wmt T (WT k N) b e = true
    · rw [if_pos e1, wmt_u hk (by omega) (by omega) h e1]
    · rw [if_neg e1]
      have : m ≠ N := fun e2 => e1 (by rw [← e2]; exact h)
      exact fwd_y hk h N (by omega) (by omega)
theorem fwd_i {T : Nat → Nat} {k b e m : Nat} : ∀ N, fwd T k b e N = some m → m < N ∧ wmt T (WT k m) b e = true
  | 0, h => by cases h
  | N + 1, h => by
    unfold fwd at h
    by_cases e1 : wmt T (WT k N) b e = true
    · rw [if_pos e1] at h
      cases h
      exact ⟨Nat.lt_succ_self _, e1⟩
    · rw [if_neg e1] at h
      have := fwd_i N h
      exact ⟨by omega, this.2⟩
def wcd (T : Nat → Nat) (k b e : Nat) : Nat := match fwd T k b e (WN k) with
  | some m => CT_ k m
  | none => 1
def ltr (x : Nat) : Bool := decide (97 ≤ x ∧ x ≤ 122 ∨ 65 ≤ x ∧ x ≤ 90)
def dgt (x : Nat) : Bool := decide (48 ≤ x ∧ x ≤ 57)
def wsp (x : Nat) : Bool := decide (x = 32 ∨ x = 10)
/-- the number of the first digits -/
def nmF (T : Nat → Nat) (b : Nat) : Nat → Nat
  | 0 => 0
  | j + 1 => if j < 4 then nmF T b j * 10 + T (b + j) - 48 else nmF T b j
theorem nmF_l {T : Nat → Nat} {b : Nat} : ∀ j, (∀ i, i < j → dgt (T (b + i)) = true) → nmF T b j < 10 ^ j ∧ nmF T b j < 10000
  | 0, _ => ⟨Nat.one_pos, (Nat.zero_lt_succ _ : 0 < 10000)⟩
  | j + 1, h => by
    obtain ⟨h1, h2⟩ := nmF_l (T := T) (b := b) j fun i hi => h i (by omega)
    have hd : 48 ≤ T (b + j) ∧ T (b + j) ≤ 57 := of_decide_eq_true (h j (by omega))
    have hp : (10 : Nat) ^ (j + 1) = 10 ^ j * 10 := Nat.pow_succ ..
    unfold nmF
    split
    next hj =>
      have h3 : (10 : Nat) ^ (j + 1) ≤ 10 ^ 4 := Nat.pow_le_pow_right (by decide) (by omega)
      have h4 : (10 : Nat) ^ 4 = 10000 := rfl
      omega
    next hj => omega
section TK
variable (T : Nat → Nat) (n : Nat)
/-- where the token begins that stands behind x -/
def tB (x : Nat) : Nat := scn (fun i => wsp (T i)) n x
def tE (x : Nat) : Nat := if n ≤ tB T n x then tB T n x else if ltr (T (tB T n x)) = true then scn (fun i => ltr (T i)) n (tB T n x) else if dgt (T (tB T n x)) = true then scn (fun i => dgt (T i)) n (tB T n x) else tB T n x + 1
def tC (k x : Nat) : Nat := if n ≤ tB T n x then 0 else if ltr (T (tB T n x)) = true then wcd T k (tB T n x) (scn (fun i => ltr (T i)) n (tB T n x)) else if dgt (T (tB T n x)) = true then (if scn (fun i => dgt (T i)) n (tB T n x) - tB T n x ≤ 4 then 2 else 1) else if sgS (T (tB T n x)) = true then 100 + T (tB T n x) else 1
def tN (x : Nat) : Nat := nmF T (tB T n x) (scn (fun i => dgt (T i)) n (tB T n x) - tB T n x)
/-- where the i-th token is looked for -/
def pz : Nat → Nat
  | 0 => 0
  | i + 1 => tE T n (pz i)
/-- the i-th token: its code, its number, its place -/
def kC (k i : Nat) : Nat := tC T n k (pz T n i)
def kN (i : Nat) : Nat := tN T n (pz T n i)
def kB (i : Nat) : Nat := tB T n (pz T n i)
end TK
section TK2
variable {T : Nat → Nat} {n : Nat}
theorem wcd_i {k b e : Nat} (hk : k < 3) : wcd T k b e = 1 ∨ ∃ m, m < WN k ∧ wcd T k b e = CT_ k m ∧ fwd T k b e (WN k) = some m := by
  unfold wcd
  split
  next m h => exact Or.inr ⟨m, (fwd_i _ h).1, rfl, h⟩
  next h => exact Or.inl rfl
theorem tB_i {x : Nat} : x ≤ tB T n x ∧ (x ≤ n → tB T n x ≤ n) := ⟨scn_i.1, scn_i.2.1⟩
theorem tC_0 {k x : Nat} (hk : k < 3) : tC T n k x = 0 ↔ n ≤ tB T n x := by
  constructor
  · intro h
    refine Classical.byContradiction fun h1 => ?_
    unfold tC at h
    rw [if_neg h1] at h
    split at h
    · rcases wcd_i (T := T) (b := tB T n x) (e := scn (fun i => ltr (T i)) n (tB T n x)) hk with e | ⟨m, hm, e, -⟩
      · omega
      · have := (WT_ok hk hm).2.1
        omega
    · split at h
      · split at h <;> omega
      · split at h <;> omega
  · intro h
    exact if_pos h
theorem tE_i {x : Nat} (hx : x ≤ n) : x ≤ tE T n x ∧ tE T n x ≤ n ∧ (tB T n x < n → tB T n x < tE T n x) := by
  obtain ⟨h1, h2⟩ := tB_i (T := T) (n := n) (x := x)
  have h2 := h2 hx
  unfold tE
  split
  next h => exact ⟨h1, h2, fun h3 => by omega⟩
  next h =>
    have hb : tB T n x < n := by omega
    split
    next hl =>
      have e := scn_s (p := fun i => ltr (T i)) hb hl
      have i1 := scn_i (p := fun i => ltr (T i)) (n := n) (x := tB T n x + 1)
      rw [e]
      have := i1.2.1 (by omega)
      exact ⟨by omega, this, fun _ => by omega⟩
    next hl =>
      split
      next hd =>
        have e := scn_s (p := fun i => dgt (T i)) hb hd
        have i1 := scn_i (p := fun i => dgt (T i)) (n := n) (x := tB T n x + 1)
        rw [e]
        have := i1.2.1 (by omega)
        exact ⟨by omega, this, fun _ => by omega⟩
      next hd => exact ⟨by omega, by omega, fun _ => by omega⟩
theorem pz_l : ∀ i, pz T n i ≤ n
  | 0 => Nat.zero_le _
  | i + 1 => (tE_i (pz_l i)).2.1
theorem kB_l (i : Nat) : kB T n i ≤ n := tB_i.2 (pz_l i)
theorem kC_0 {k i : Nat} (hk : k < 3) : kC T n k i = 0 ↔ kB T n i = n := by
  have := kB_l (T := T) (n := n) i
  unfold kC
  rw [tC_0 hk]
  show n ≤ kB T n i ↔ _
  omega
/-- behind the end stands the end -/
theorem kC_e {k i : Nat} (hk : k < 3) (h : kC T n k i = 0) : kC T n k (i + 1) = 0 ∧ kB T n (i + 1) = kB T n i := by
  have h1 := (kC_0 hk).mp h
  have e1 : pz T n (i + 1) = n := by
    show tE T n (pz T n i) = n
    unfold tE
    show (if n ≤ kB T n i then kB T n i else _) = n
    rw [if_pos (by omega), h1]
  have e2 : kB T n (i + 1) = n := by
    show tB T n (pz T n (i + 1)) = n
    rw [e1]
    exact scn_e (Nat.le_refl n)
  exact ⟨(kC_0 hk).mpr e2, e2.trans h1.symm⟩
theorem kC_m {k i : Nat} (hk : k < 3) (h : kC T n k i = 0) : ∀ j, kC T n k (i + j) = 0 ∧ kB T n (i + j) = kB T n i
  | 0 => ⟨h, rfl⟩
  | j + 1 => by
    have h1 := kC_m hk h j
    have h2 := kC_e hk h1.1
    exact ⟨h2.1, h2.2.trans h1.2⟩
theorem kC_b {k i : Nat} (hk : k < 3) : ∀ j, j ≤ i → kC T n k i ≠ 0 → kC T n k j ≠ 0 := fun j hj h e => by
  obtain ⟨a, rfl⟩ : ∃ a, i = j + a := ⟨i - j, by omega⟩
  exact h (kC_m hk e a).1
/-- each token takes a place at least -/
theorem pz_i {k : Nat} (hk : k < 3) : ∀ i, (∀ j, j < i → kC T n k j ≠ 0) → i ≤ pz T n i
  | 0, _ => Nat.le_refl 0
  | i + 1, h => by
    have h1 := pz_i hk i fun j hj => h j (by omega)
    have h2 : kB T n i < n := by
      have := kB_l (T := T) (n := n) i
      have : ¬ kB T n i = n := fun e => h i (by omega) ((kC_0 hk).mpr e)
      omega
    have h3 := (tE_i (T := T) (pz_l (T := T) (n := n) i)).2.2 h2
    have h4 := (tB_i (T := T) (n := n) (x := pz T n i)).1
    show i + 1 ≤ tE T n (pz T n i)
    have h3 : tB T n (pz T n i) < tE T n (pz T n i) := h3
    omega
theorem kC_l {k i : Nat} (hk : k < 3) (h : kC T n k i ≠ 0) : i < n := by
  have h1 := pz_i hk i fun j hj => kC_b hk j (by omega) h
  have h2 := (tB_i (T := T) (n := n) (x := pz T n i)).1
  have h3 := kB_l (T := T) (n := n) i
  have h4 : ¬ kB T n i = n := fun e => h ((kC_0 hk).mpr e)
  have h5 : kB T n i = tB T n (pz T n i) := rfl
  omega
end TK2
/-- a token as the class has it -/
def tkR (k c m : Nat) (kd vl : Int32) : Prop :=
  (c = 0 → kd = nI 0) ∧ (c = 1 → kd = nI 4) ∧ (c = 2 → kd = nI 2 ∧ vl = nI m ∧ m ≤ 9999) ∧ (100 ≤ c → kd = nI 3 ∧ vl = nI (c - 100) ∧ c < 356) ∧ (3 ≤ c → c < 100 → kd = nI 1 ∧ ∃ j, j < WN k ∧ c = CT_ k j ∧ vl = nI j)
