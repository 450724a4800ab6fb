/-- a method's own words -/
def mwB (y : Nat) : Bool := goodWord (.code (mN y) (mB y) (mL y) (mR y)) &&
  (match mK y with
    | 0 => decide (lw_tbl[(mw y).2.1]? = some (.instanceMethod (mN y))) && decide (lw_tbl[(mw y).2.2.1]? = some (.selects (cn (mC y)) (mN y) (mN y)))
    | 1 => decide (lw_tbl[(mw y).2.1]? = some (.static (mN y)))
    | _ => decide (lw_tbl[(mw y).2.1]? = some (.instanceMethod (mN y))) && decide ((mN y).name = "<init>") && decide (mR y = none)) &&
  decide ((mN y).cls = cn (mC y)) && decide (mC y < 20) && decide (mL y < 16) && decide ((parseMethodDescriptor (mN y).desc).map (fun d => d.parameters.length) = some (mA y - if mK y = 1 then 0 else 1)) && decide ((mK y = 1 ∨ 1 ≤ mA y) ∧ mA y ≤ mL y) && decide ((mN y).cls ≠ "java/lang/invoke/MethodHandle" ∧ (mN y).cls ≠ "java/lang/invoke/VarHandle") && plainName (mN y).cls &&
  (match mR y with
    | none => true
    | some .int => true
    | some .boolean => true
    | some .char => true
    | some .byte => true
    | some .long => true
    | _ => false) && decide (mK y = 2 → (mN y).name = "<init>")
theorem mw_ck0 : ((List.range 10).all fun j => mwB (0 + j)) = true := by decide +kernel
theorem mw_ck10 : ((List.range 10).all fun j => mwB (10 + j)) = true := by decide +kernel
theorem mw_ck20 : ((List.range 10).all fun j => mwB (20 + j)) = true := by decide +kernel
theorem mw_ck30 : ((List.range 10).all fun j => mwB (30 + j)) = true := by decide +kernel
theorem mw_ck40 : ((List.range 10).all fun j => mwB (40 + j)) = true := by decide +kernel
theorem mw_ck50 : ((List.range 10).all fun j => mwB (50 + j)) = true := by decide +kernel
theorem mw_ck60 : ((List.range 10).all fun j => mwB (60 + j)) = true := by decide +kernel
theorem mw_ck70 : ((List.range 10).all fun j => mwB (70 + j)) = true := by decide +kernel
theorem mw_ck80 : ((List.range 10).all fun j => mwB (80 + j)) = true := by decide +kernel
theorem mw_ck90 : ((List.range 10).all fun j => mwB (90 + j)) = true := by decide +kernel
theorem mw_ck100 : ((List.range 10).all fun j => mwB (100 + j)) = true := by decide +kernel
theorem mw_ck110 : ((List.range 10).all fun j => mwB (110 + j)) = true := by decide +kernel
theorem mw_ck120 : ((List.range 10).all fun j => mwB (120 + j)) = true := by decide +kernel
theorem mw_ck130 : ((List.range 10).all fun j => mwB (130 + j)) = true := by decide +kernel
theorem mw_ck140 : ((List.range 10).all fun j => mwB (140 + j)) = true := by decide +kernel
theorem mw_ck150 : ((List.range 10).all fun j => mwB (150 + j)) = true := by decide +kernel
theorem mw_ck160 : ((List.range 10).all fun j => mwB (160 + j)) = true := by decide +kernel
theorem mw_ck170 : ((List.range 10).all fun j => mwB (170 + j)) = true := by decide +kernel
theorem mw_ck180 : ((List.range 10).all fun j => mwB (180 + j)) = true := by decide +kernel
theorem mw_ck190 : ((List.range 10).all fun j => mwB (190 + j)) = true := by decide +kernel
theorem mw_ck200 : ((List.range 10).all fun j => mwB (200 + j)) = true := by decide +kernel
theorem mw_ck210 : ((List.range 10).all fun j => mwB (210 + j)) = true := by decide +kernel
theorem mw_ck220 : ((List.range 10).all fun j => mwB (220 + j)) = true := by decide +kernel
theorem mw_ck230 : ((List.range 10).all fun j => mwB (230 + j)) = true := by decide +kernel
theorem mw_ck240 : ((List.range 10).all fun j => mwB (240 + j)) = true := by decide +kernel
theorem mw_ck250 : ((List.range 10).all fun j => mwB (250 + j)) = true := by decide +kernel
theorem mw_ck260 : ((List.range 10).all fun j => mwB (260 + j)) = true := by decide +kernel
theorem mw_ck270 : ((List.range 10).all fun j => mwB (270 + j)) = true := by decide +kernel
theorem mw_ck280 : ((List.range 10).all fun j => mwB (280 + j)) = true := by decide +kernel
theorem mw_ck290 : ((List.range 1).all fun j => mwB (290 + j)) = true := by decide +kernel
theorem mw_use {b n : Nat} (h : ((List.range n).all fun j => mwB (b + j)) = true) {y : Nat} (h1 : b ≤ y) (h2 : y < b + n) : mwB y = true := by
  have := List.all_eq_true.mp h (y - b) (List.mem_range.mpr (by omega))
  rwa [show b + (y - b) = y by omega] at this
theorem mw_all {y : Nat} (hy : y < 291) : mwB y = true := by
  rcases Nat.lt_or_ge y 10 with h | h
  · exact mw_use mw_ck0 (by omega) (by omega)
  rcases Nat.lt_or_ge y 20 with h | h
  · exact mw_use mw_ck10 (by omega) (by omega)
  rcases Nat.lt_or_ge y 30 with h | h
  · exact mw_use mw_ck20 (by omega) (by omega)
  rcases Nat.lt_or_ge y 40 with h | h
  · exact mw_use mw_ck30 (by omega) (by omega)
  rcases Nat.lt_or_ge y 50 with h | h
  · exact mw_use mw_ck40 (by omega) (by omega)
  rcases Nat.lt_or_ge y 60 with h | h
  · exact mw_use mw_ck50 (by omega) (by omega)
  rcases Nat.lt_or_ge y 70 with h | h
  · exact mw_use mw_ck60 (by omega) (by omega)
  rcases Nat.lt_or_ge y 80 with h | h
  · exact mw_use mw_ck70 (by omega) (by omega)
  rcases Nat.lt_or_ge y 90 with h | h
  · exact mw_use mw_ck80 (by omega) (by omega)
  rcases Nat.lt_or_ge y 100 with h | h
  · exact mw_use mw_ck90 (by omega) (by omega)
  rcases Nat.lt_or_ge y 110 with h | h
  · exact mw_use mw_ck100 (by omega) (by omega)
  rcases Nat.lt_or_ge y 120 with h | h
  · exact mw_use mw_ck110 (by omega) (by omega)
  rcases Nat.lt_or_ge y 130 with h | h
  · exact mw_use mw_ck120 (by omega) (by omega)
  rcases Nat.lt_or_ge y 140 with h | h
  · exact mw_use mw_ck130 (by omega) (by omega)
  rcases Nat.lt_or_ge y 150 with h | h
  · exact mw_use mw_ck140 (by omega) (by omega)
  rcases Nat.lt_or_ge y 160 with h | h
  · exact mw_use mw_ck150 (by omega) (by omega)
  rcases Nat.lt_or_ge y 170 with h | h
  · exact mw_use mw_ck160 (by omega) (by omega)
  rcases Nat.lt_or_ge y 180 with h | h
  · exact mw_use mw_ck170 (by omega) (by omega)
  rcases Nat.lt_or_ge y 190 with h | h
  · exact mw_use mw_ck180 (by omega) (by omega)
  rcases Nat.lt_or_ge y 200 with h | h
  · exact mw_use mw_ck190 (by omega) (by omega)
  rcases Nat.lt_or_ge y 210 with h | h
  · exact mw_use mw_ck200 (by omega) (by omega)
  rcases Nat.lt_or_ge y 220 with h | h
  · exact mw_use mw_ck210 (by omega) (by omega)
  rcases Nat.lt_or_ge y 230 with h | h
  · exact mw_use mw_ck220 (by omega) (by omega)
  rcases Nat.lt_or_ge y 240 with h | h
  · exact mw_use mw_ck230 (by omega) (by omega)
  rcases Nat.lt_or_ge y 250 with h | h
  · exact mw_use mw_ck240 (by omega) (by omega)
  rcases Nat.lt_or_ge y 260 with h | h
  · exact mw_use mw_ck250 (by omega) (by omega)
  rcases Nat.lt_or_ge y 270 with h | h
  · exact mw_use mw_ck260 (by omega) (by omega)
  rcases Nat.lt_or_ge y 280 with h | h
  · exact mw_use mw_ck270 (by omega) (by omega)
  rcases Nat.lt_or_ge y 290 with h | h
  · exact mw_use mw_ck280 (by omega) (by omega)
  rcases Nat.lt_or_ge y 291 with h | h
  · exact mw_use mw_ck290 (by omega) (by omega)
  omega
theorem ci_ck : ((List.range 20).all fun c => (c == 13) || (decide (lw_tbl[ciL.getD c 0]? = some (.initialized (cn c))) && goodWord (.initialized (cn c)))) = true := by decide +kernel
theorem in_ck : ((List.range 13).all fun c => decide (lw_tbl[instL.getD c 0]? = some (.instantiable (cn c) (fn c)))) = true := by decide +kernel
theorem ly_ck : ((List.range 13).all fun c => (u_ws (cn c) (ftab c) (fn c)).all fun w => decide (w ∈ lw_tbl) && goodWord w) = true := by decide +kernel
