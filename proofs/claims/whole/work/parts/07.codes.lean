theorem cw_ck0 : ((List.range 5).all fun j => decide (lw_tbl[(mw (0 + j)).1]? = some (Jvm.Cond.code (mN (0 + j)) (mB (0 + j)) (mL (0 + j)) (mR (0 + j))))) = true := by decide +kernel
theorem cw_ck5 : ((List.range 5).all fun j => decide (lw_tbl[(mw (5 + j)).1]? = some (Jvm.Cond.code (mN (5 + j)) (mB (5 + j)) (mL (5 + j)) (mR (5 + j))))) = true := by decide +kernel
theorem cw_ck10 : ((List.range 5).all fun j => decide (lw_tbl[(mw (10 + j)).1]? = some (Jvm.Cond.code (mN (10 + j)) (mB (10 + j)) (mL (10 + j)) (mR (10 + j))))) = true := by decide +kernel
theorem cw_ck15 : ((List.range 5).all fun j => decide (lw_tbl[(mw (15 + j)).1]? = some (Jvm.Cond.code (mN (15 + j)) (mB (15 + j)) (mL (15 + j)) (mR (15 + j))))) = true := by decide +kernel
theorem cw_ck20 : ((List.range 5).all fun j => decide (lw_tbl[(mw (20 + j)).1]? = some (Jvm.Cond.code (mN (20 + j)) (mB (20 + j)) (mL (20 + j)) (mR (20 + j))))) = true := by decide +kernel
theorem cw_ck25 : ((List.range 5).all fun j => decide (lw_tbl[(mw (25 + j)).1]? = some (Jvm.Cond.code (mN (25 + j)) (mB (25 + j)) (mL (25 + j)) (mR (25 + j))))) = true := by decide +kernel
theorem cw_ck30 : ((List.range 5).all fun j => decide (lw_tbl[(mw (30 + j)).1]? = some (Jvm.Cond.code (mN (30 + j)) (mB (30 + j)) (mL (30 + j)) (mR (30 + j))))) = true := by decide +kernel
theorem cw_ck35 : ((List.range 5).all fun j => decide (lw_tbl[(mw (35 + j)).1]? = some (Jvm.Cond.code (mN (35 + j)) (mB (35 + j)) (mL (35 + j)) (mR (35 + j))))) = true := by decide +kernel
theorem cw_ck40 : ((List.range 5).all fun j => decide (lw_tbl[(mw (40 + j)).1]? = some (Jvm.Cond.code (mN (40 + j)) (mB (40 + j)) (mL (40 + j)) (mR (40 + j))))) = true := by decide +kernel
theorem cw_ck45 : ((List.range 5).all fun j => decide (lw_tbl[(mw (45 + j)).1]? = some (Jvm.Cond.code (mN (45 + j)) (mB (45 + j)) (mL (45 + j)) (mR (45 + j))))) = true := by decide +kernel
theorem cw_ck50 : ((List.range 5).all fun j => decide (lw_tbl[(mw (50 + j)).1]? = some (Jvm.Cond.code (mN (50 + j)) (mB (50 + j)) (mL (50 + j)) (mR (50 + j))))) = true := by decide +kernel
theorem cw_ck55 : ((List.range 5).all fun j => decide (lw_tbl[(mw (55 + j)).1]? = some (Jvm.Cond.code (mN (55 + j)) (mB (55 + j)) (mL (55 + j)) (mR (55 + j))))) = true := by decide +kernel
theorem cw_ck60 : ((List.range 5).all fun j => decide (lw_tbl[(mw (60 + j)).1]? = some (Jvm.Cond.code (mN (60 + j)) (mB (60 + j)) (mL (60 + j)) (mR (60 + j))))) = true := by decide +kernel
theorem cw_ck65 : ((List.range 5).all fun j => decide (lw_tbl[(mw (65 + j)).1]? = some (Jvm.Cond.code (mN (65 + j)) (mB (65 + j)) (mL (65 + j)) (mR (65 + j))))) = true := by decide +kernel
theorem cw_ck70 : ((List.range 5).all fun j => decide (lw_tbl[(mw (70 + j)).1]? = some (Jvm.Cond.code (mN (70 + j)) (mB (70 + j)) (mL (70 + j)) (mR (70 + j))))) = true := by decide +kernel
theorem cw_ck75 : ((List.range 5).all fun j => decide (lw_tbl[(mw (75 + j)).1]? = some (Jvm.Cond.code (mN (75 + j)) (mB (75 + j)) (mL (75 + j)) (mR (75 + j))))) = true := by decide +kernel
theorem cw_ck80 : ((List.range 5).all fun j => decide (lw_tbl[(mw (80 + j)).1]? = some (Jvm.Cond.code (mN (80 + j)) (mB (80 + j)) (mL (80 + j)) (mR (80 + j))))) = true := by decide +kernel
theorem cw_ck85 : ((List.range 5).all fun j => decide (lw_tbl[(mw (85 + j)).1]? = some (Jvm.Cond.code (mN (85 + j)) (mB (85 + j)) (mL (85 + j)) (mR (85 + j))))) = true := by decide +kernel
theorem cw_ck90 : ((List.range 5).all fun j => decide (lw_tbl[(mw (90 + j)).1]? = some (Jvm.Cond.code (mN (90 + j)) (mB (90 + j)) (mL (90 + j)) (mR (90 + j))))) = true := by decide +kernel
theorem cw_ck95 : ((List.range 5).all fun j => decide (lw_tbl[(mw (95 + j)).1]? = some (Jvm.Cond.code (mN (95 + j)) (mB (95 + j)) (mL (95 + j)) (mR (95 + j))))) = true := by decide +kernel
theorem cw_ck100 : ((List.range 5).all fun j => decide (lw_tbl[(mw (100 + j)).1]? = some (Jvm.Cond.code (mN (100 + j)) (mB (100 + j)) (mL (100 + j)) (mR (100 + j))))) = true := by decide +kernel
theorem cw_ck105 : ((List.range 5).all fun j => decide (lw_tbl[(mw (105 + j)).1]? = some (Jvm.Cond.code (mN (105 + j)) (mB (105 + j)) (mL (105 + j)) (mR (105 + j))))) = true := by decide +kernel
theorem cw_ck110 : ((List.range 5).all fun j => decide (lw_tbl[(mw (110 + j)).1]? = some (Jvm.Cond.code (mN (110 + j)) (mB (110 + j)) (mL (110 + j)) (mR (110 + j))))) = true := by decide +kernel
theorem cw_ck115 : ((List.range 5).all fun j => decide (lw_tbl[(mw (115 + j)).1]? = some (Jvm.Cond.code (mN (115 + j)) (mB (115 + j)) (mL (115 + j)) (mR (115 + j))))) = true := by decide +kernel
theorem cw_ck120 : ((List.range 5).all fun j => decide (lw_tbl[(mw (120 + j)).1]? = some (Jvm.Cond.code (mN (120 + j)) (mB (120 + j)) (mL (120 + j)) (mR (120 + j))))) = true := by decide +kernel
theorem cw_ck125 : ((List.range 5).all fun j => decide (lw_tbl[(mw (125 + j)).1]? = some (Jvm.Cond.code (mN (125 + j)) (mB (125 + j)) (mL (125 + j)) (mR (125 + j))))) = true := by decide +kernel
theorem cw_ck130 : ((List.range 5).all fun j => decide (lw_tbl[(mw (130 + j)).1]? = some (Jvm.Cond.code (mN (130 + j)) (mB (130 + j)) (mL (130 + j)) (mR (130 + j))))) = true := by decide +kernel
theorem cw_ck135 : ((List.range 5).all fun j => decide (lw_tbl[(mw (135 + j)).1]? = some (Jvm.Cond.code (mN (135 + j)) (mB (135 + j)) (mL (135 + j)) (mR (135 + j))))) = true := by decide +kernel
theorem cw_ck140 : ((List.range 5).all fun j => decide (lw_tbl[(mw (140 + j)).1]? = some (Jvm.Cond.code (mN (140 + j)) (mB (140 + j)) (mL (140 + j)) (mR (140 + j))))) = true := by decide +kernel
theorem cw_ck145 : ((List.range 5).all fun j => decide (lw_tbl[(mw (145 + j)).1]? = some (Jvm.Cond.code (mN (145 + j)) (mB (145 + j)) (mL (145 + j)) (mR (145 + j))))) = true := by decide +kernel
theorem cw_ck150 : ((List.range 5).all fun j => decide (lw_tbl[(mw (150 + j)).1]? = some (Jvm.Cond.code (mN (150 + j)) (mB (150 + j)) (mL (150 + j)) (mR (150 + j))))) = true := by decide +kernel
theorem cw_ck155 : ((List.range 5).all fun j => decide (lw_tbl[(mw (155 + j)).1]? = some (Jvm.Cond.code (mN (155 + j)) (mB (155 + j)) (mL (155 + j)) (mR (155 + j))))) = true := by decide +kernel
theorem cw_ck160 : ((List.range 5).all fun j => decide (lw_tbl[(mw (160 + j)).1]? = some (Jvm.Cond.code (mN (160 + j)) (mB (160 + j)) (mL (160 + j)) (mR (160 + j))))) = true := by decide +kernel
theorem cw_ck165 : ((List.range 5).all fun j => decide (lw_tbl[(mw (165 + j)).1]? = some (Jvm.Cond.code (mN (165 + j)) (mB (165 + j)) (mL (165 + j)) (mR (165 + j))))) = true := by decide +kernel
theorem cw_ck170 : ((List.range 5).all fun j => decide (lw_tbl[(mw (170 + j)).1]? = some (Jvm.Cond.code (mN (170 + j)) (mB (170 + j)) (mL (170 + j)) (mR (170 + j))))) = true := by decide +kernel
theorem cw_ck175 : ((List.range 5).all fun j => decide (lw_tbl[(mw (175 + j)).1]? = some (Jvm.Cond.code (mN (175 + j)) (mB (175 + j)) (mL (175 + j)) (mR (175 + j))))) = true := by decide +kernel
theorem cw_ck180 : ((List.range 5).all fun j => decide (lw_tbl[(mw (180 + j)).1]? = some (Jvm.Cond.code (mN (180 + j)) (mB (180 + j)) (mL (180 + j)) (mR (180 + j))))) = true := by decide +kernel
theorem cw_ck185 : ((List.range 5).all fun j => decide (lw_tbl[(mw (185 + j)).1]? = some (Jvm.Cond.code (mN (185 + j)) (mB (185 + j)) (mL (185 + j)) (mR (185 + j))))) = true := by decide +kernel
theorem cw_ck190 : ((List.range 5).all fun j => decide (lw_tbl[(mw (190 + j)).1]? = some (Jvm.Cond.code (mN (190 + j)) (mB (190 + j)) (mL (190 + j)) (mR (190 + j))))) = true := by decide +kernel
theorem cw_ck195 : ((List.range 5).all fun j => decide (lw_tbl[(mw (195 + j)).1]? = some (Jvm.Cond.code (mN (195 + j)) (mB (195 + j)) (mL (195 + j)) (mR (195 + j))))) = true := by decide +kernel
theorem cw_ck200 : ((List.range 5).all fun j => decide (lw_tbl[(mw (200 + j)).1]? = some (Jvm.Cond.code (mN (200 + j)) (mB (200 + j)) (mL (200 + j)) (mR (200 + j))))) = true := by decide +kernel
theorem cw_ck205 : ((List.range 5).all fun j => decide (lw_tbl[(mw (205 + j)).1]? = some (Jvm.Cond.code (mN (205 + j)) (mB (205 + j)) (mL (205 + j)) (mR (205 + j))))) = true := by decide +kernel
theorem cw_ck210 : ((List.range 5).all fun j => decide (lw_tbl[(mw (210 + j)).1]? = some (Jvm.Cond.code (mN (210 + j)) (mB (210 + j)) (mL (210 + j)) (mR (210 + j))))) = true := by decide +kernel
theorem cw_ck215 : ((List.range 5).all fun j => decide (lw_tbl[(mw (215 + j)).1]? = some (Jvm.Cond.code (mN (215 + j)) (mB (215 + j)) (mL (215 + j)) (mR (215 + j))))) = true := by decide +kernel
theorem cw_ck220 : ((List.range 5).all fun j => decide (lw_tbl[(mw (220 + j)).1]? = some (Jvm.Cond.code (mN (220 + j)) (mB (220 + j)) (mL (220 + j)) (mR (220 + j))))) = true := by decide +kernel
theorem cw_ck225 : ((List.range 5).all fun j => decide (lw_tbl[(mw (225 + j)).1]? = some (Jvm.Cond.code (mN (225 + j)) (mB (225 + j)) (mL (225 + j)) (mR (225 + j))))) = true := by decide +kernel
theorem cw_ck230 : ((List.range 5).all fun j => decide (lw_tbl[(mw (230 + j)).1]? = some (Jvm.Cond.code (mN (230 + j)) (mB (230 + j)) (mL (230 + j)) (mR (230 + j))))) = true := by decide +kernel
theorem cw_ck235 : ((List.range 5).all fun j => decide (lw_tbl[(mw (235 + j)).1]? = some (Jvm.Cond.code (mN (235 + j)) (mB (235 + j)) (mL (235 + j)) (mR (235 + j))))) = true := by decide +kernel
theorem cw_ck240 : ((List.range 5).all fun j => decide (lw_tbl[(mw (240 + j)).1]? = some (Jvm.Cond.code (mN (240 + j)) (mB (240 + j)) (mL (240 + j)) (mR (240 + j))))) = true := by decide +kernel
theorem cw_ck245 : ((List.range 5).all fun j => decide (lw_tbl[(mw (245 + j)).1]? = some (Jvm.Cond.code (mN (245 + j)) (mB (245 + j)) (mL (245 + j)) (mR (245 + j))))) = true := by decide +kernel
theorem cw_ck250 : ((List.range 5).all fun j => decide (lw_tbl[(mw (250 + j)).1]? = some (Jvm.Cond.code (mN (250 + j)) (mB (250 + j)) (mL (250 + j)) (mR (250 + j))))) = true := by decide +kernel
theorem cw_ck255 : ((List.range 5).all fun j => decide (lw_tbl[(mw (255 + j)).1]? = some (Jvm.Cond.code (mN (255 + j)) (mB (255 + j)) (mL (255 + j)) (mR (255 + j))))) = true := by decide +kernel
theorem cw_ck260 : ((List.range 5).all fun j => decide (lw_tbl[(mw (260 + j)).1]? = some (Jvm.Cond.code (mN (260 + j)) (mB (260 + j)) (mL (260 + j)) (mR (260 + j))))) = true := by decide +kernel
theorem cw_ck265 : ((List.range 5).all fun j => decide (lw_tbl[(mw (265 + j)).1]? = some (Jvm.Cond.code (mN (265 + j)) (mB (265 + j)) (mL (265 + j)) (mR (265 + j))))) = true := by decide +kernel
theorem cw_ck270 : ((List.range 5).all fun j => decide (lw_tbl[(mw (270 + j)).1]? = some (Jvm.Cond.code (mN (270 + j)) (mB (270 + j)) (mL (270 + j)) (mR (270 + j))))) = true := by decide +kernel
theorem cw_ck275 : ((List.range 5).all fun j => decide (lw_tbl[(mw (275 + j)).1]? = some (Jvm.Cond.code (mN (275 + j)) (mB (275 + j)) (mL (275 + j)) (mR (275 + j))))) = true := by decide +kernel
theorem cw_ck280 : ((List.range 5).all fun j => decide (lw_tbl[(mw (280 + j)).1]? = some (Jvm.Cond.code (mN (280 + j)) (mB (280 + j)) (mL (280 + j)) (mR (280 + j))))) = true := by decide +kernel
theorem cw_ck285 : ((List.range 5).all fun j => decide (lw_tbl[(mw (285 + j)).1]? = some (Jvm.Cond.code (mN (285 + j)) (mB (285 + j)) (mL (285 + j)) (mR (285 + j))))) = true := by decide +kernel
theorem cw_ck290 : ((List.range 1).all fun j => decide (lw_tbl[(mw (290 + j)).1]? = some (Jvm.Cond.code (mN (290 + j)) (mB (290 + j)) (mL (290 + j)) (mR (290 + j))))) = true := by decide +kernel
theorem cw_use {b n : Nat} (h : ((List.range n).all fun j => decide (lw_tbl[(mw (b + j)).1]? = some (Jvm.Cond.code (mN (b + j)) (mB (b + j)) (mL (b + j)) (mR (b + j))))) = true) {y : Nat} (h1 : b ≤ y) (h2 : y < b + n) : lw_tbl[(mw y).1]? = some (Jvm.Cond.code (mN y) (mB y) (mL y) (mR y)) := by
  have := List.all_eq_true.mp h (y - b) (List.mem_range.mpr (by omega))
  rw [show b + (y - b) = y by omega] at this
  exact decide_eq_true_eq.mp this
theorem cw_all {y : Nat} (hy : y < 291) : lw_tbl[(mw y).1]? = some (Jvm.Cond.code (mN y) (mB y) (mL y) (mR y)) := by
  rcases Nat.lt_or_ge y 5 with h | h
  · exact cw_use cw_ck0 (by omega) (by omega)
  rcases Nat.lt_or_ge y 10 with h | h
  · exact cw_use cw_ck5 (by omega) (by omega)
  rcases Nat.lt_or_ge y 15 with h | h
  · exact cw_use cw_ck10 (by omega) (by omega)
  rcases Nat.lt_or_ge y 20 with h | h
  · exact cw_use cw_ck15 (by omega) (by omega)
  rcases Nat.lt_or_ge y 25 with h | h
  · exact cw_use cw_ck20 (by omega) (by omega)
  rcases Nat.lt_or_ge y 30 with h | h
  · exact cw_use cw_ck25 (by omega) (by omega)
  rcases Nat.lt_or_ge y 35 with h | h
  · exact cw_use cw_ck30 (by omega) (by omega)
  rcases Nat.lt_or_ge y 40 with h | h
  · exact cw_use cw_ck35 (by omega) (by omega)
  rcases Nat.lt_or_ge y 45 with h | h
  · exact cw_use cw_ck40 (by omega) (by omega)
  rcases Nat.lt_or_ge y 50 with h | h
  · exact cw_use cw_ck45 (by omega) (by omega)
  rcases Nat.lt_or_ge y 55 with h | h
  · exact cw_use cw_ck50 (by omega) (by omega)
  rcases Nat.lt_or_ge y 60 with h | h
  · exact cw_use cw_ck55 (by omega) (by omega)
  rcases Nat.lt_or_ge y 65 with h | h
  · exact cw_use cw_ck60 (by omega) (by omega)
  rcases Nat.lt_or_ge y 70 with h | h
  · exact cw_use cw_ck65 (by omega) (by omega)
  rcases Nat.lt_or_ge y 75 with h | h
  · exact cw_use cw_ck70 (by omega) (by omega)
  rcases Nat.lt_or_ge y 80 with h | h
  · exact cw_use cw_ck75 (by omega) (by omega)
  rcases Nat.lt_or_ge y 85 with h | h
  · exact cw_use cw_ck80 (by omega) (by omega)
  rcases Nat.lt_or_ge y 90 with h | h
  · exact cw_use cw_ck85 (by omega) (by omega)
  rcases Nat.lt_or_ge y 95 with h | h
  · exact cw_use cw_ck90 (by omega) (by omega)
  rcases Nat.lt_or_ge y 100 with h | h
  · exact cw_use cw_ck95 (by omega) (by omega)
  rcases Nat.lt_or_ge y 105 with h | h
  · exact cw_use cw_ck100 (by omega) (by omega)
  rcases Nat.lt_or_ge y 110 with h | h
  · exact cw_use cw_ck105 (by omega) (by omega)
  rcases Nat.lt_or_ge y 115 with h | h
  · exact cw_use cw_ck110 (by omega) (by omega)
  rcases Nat.lt_or_ge y 120 with h | h
  · exact cw_use cw_ck115 (by omega) (by omega)
  rcases Nat.lt_or_ge y 125 with h | h
  · exact cw_use cw_ck120 (by omega) (by omega)
  rcases Nat.lt_or_ge y 130 with h | h
  · exact cw_use cw_ck125 (by omega) (by omega)
  rcases Nat.lt_or_ge y 135 with h | h
  · exact cw_use cw_ck130 (by omega) (by omega)
  rcases Nat.lt_or_ge y 140 with h | h
  · exact cw_use cw_ck135 (by omega) (by omega)
  rcases Nat.lt_or_ge y 145 with h | h
  · exact cw_use cw_ck140 (by omega) (by omega)
  rcases Nat.lt_or_ge y 150 with h | h
  · exact cw_use cw_ck145 (by omega) (by omega)
  rcases Nat.lt_or_ge y 155 with h | h
  · exact cw_use cw_ck150 (by omega) (by omega)
  rcases Nat.lt_or_ge y 160 with h | h
  · exact cw_use cw_ck155 (by omega) (by omega)
  rcases Nat.lt_or_ge y 165 with h | h
  · exact cw_use cw_ck160 (by omega) (by omega)
  rcases Nat.lt_or_ge y 170 with h | h
  · exact cw_use cw_ck165 (by omega) (by omega)
  rcases Nat.lt_or_ge y 175 with h | h
  · exact cw_use cw_ck170 (by omega) (by omega)
  rcases Nat.lt_or_ge y 180 with h | h
  · exact cw_use cw_ck175 (by omega) (by omega)
  rcases Nat.lt_or_ge y 185 with h | h
  · exact cw_use cw_ck180 (by omega) (by omega)
  rcases Nat.lt_or_ge y 190 with h | h
  · exact cw_use cw_ck185 (by omega) (by omega)
  rcases Nat.lt_or_ge y 195 with h | h
  · exact cw_use cw_ck190 (by omega) (by omega)
  rcases Nat.lt_or_ge y 200 with h | h
  · exact cw_use cw_ck195 (by omega) (by omega)
  rcases Nat.lt_or_ge y 205 with h | h
  · exact cw_use cw_ck200 (by omega) (by omega)
  rcases Nat.lt_or_ge y 210 with h | h
  · exact cw_use cw_ck205 (by omega) (by omega)
  rcases Nat.lt_or_ge y 215 with h | h
  · exact cw_use cw_ck210 (by omega) (by omega)
  rcases Nat.lt_or_ge y 220 with h | h
  · exact cw_use cw_ck215 (by omega) (by omega)
  rcases Nat.lt_or_ge y 225 with h | h
  · exact cw_use cw_ck220 (by omega) (by omega)
  rcases Nat.lt_or_ge y 230 with h | h
  · exact cw_use cw_ck225 (by omega) (by omega)
  rcases Nat.lt_or_ge y 235 with h | h
  · exact cw_use cw_ck230 (by omega) (by omega)
  rcases Nat.lt_or_ge y 240 with h | h
  · exact cw_use cw_ck235 (by omega) (by omega)
  rcases Nat.lt_or_ge y 245 with h | h
  · exact cw_use cw_ck240 (by omega) (by omega)
  rcases Nat.lt_or_ge y 250 with h | h
  · exact cw_use cw_ck245 (by omega) (by omega)
  rcases Nat.lt_or_ge y 255 with h | h
  · exact cw_use cw_ck250 (by omega) (by omega)
  rcases Nat.lt_or_ge y 260 with h | h
  · exact cw_use cw_ck255 (by omega) (by omega)
  rcases Nat.lt_or_ge y 265 with h | h
  · exact cw_use cw_ck260 (by omega) (by omega)
  rcases Nat.lt_or_ge y 270 with h | h
  · exact cw_use cw_ck265 (by omega) (by omega)
  rcases Nat.lt_or_ge y 275 with h | h
  · exact cw_use cw_ck270 (by omega) (by omega)
  rcases Nat.lt_or_ge y 280 with h | h
  · exact cw_use cw_ck275 (by omega) (by omega)
  rcases Nat.lt_or_ge y 285 with h | h
  · exact cw_use cw_ck280 (by omega) (by omega)
  rcases Nat.lt_or_ge y 290 with h | h
  · exact cw_use cw_ck285 (by omega) (by omega)
  rcases Nat.lt_or_ge y 291 with h | h
  · exact cw_use cw_ck290 (by omega) (by omega)
  omega
