theorem cl_0 : (((kc 293).drop 0).take 60).all (chI 293) = true := by decide +kernel
theorem cl_60 : (((kc 293).drop 60).take 60).all (chI 293) = true := by decide +kernel
theorem cl_120 : (((kc 293).drop 120).take 60).all (chI 293) = true := by decide +kernel
theorem cl_180 : (((kc 293).drop 180).take 60).all (chI 293) = true := by decide +kernel
theorem cl_240 : (((kc 293).drop 240).take 60).all (chI 293) = true := by decide +kernel
theorem cl_300 : (((kc 293).drop 300).take 60).all (chI 293) = true := by decide +kernel
theorem cl_360 : (((kc 293).drop 360).take 60).all (chI 293) = true := by decide +kernel
theorem cl_420 : (((kc 293).drop 420).take 60).all (chI 293) = true := by decide +kernel
theorem cl_480 : (((kc 293).drop 480).take 60).all (chI 293) = true := by decide +kernel
theorem cl_540 : (((kc 293).drop 540).take 60).all (chI 293) = true := by decide +kernel
theorem cl_600 : (((kc 293).drop 600).take 60).all (chI 293) = true := by decide +kernel
theorem cl_660 : (((kc 293).drop 660).take 60).all (chI 293) = true := by decide +kernel
theorem cl_720 : (((kc 293).drop 720).take 60).all (chI 293) = true := by decide +kernel
theorem cl_780 : (((kc 293).drop 780).take 60).all (chI 293) = true := by decide +kernel
theorem cl_step {α : Type} {p : α → Bool} {l : List α} (n : Nat) (h1 : (l.take n).all p = true) (h2 : (l.drop n).all p = true) : l.all p = true := by
  have h : (l.take n ++ l.drop n).all p = true := by rw [List.all_append, h1, h2]; rfl
  rwa [List.take_append_drop] at h
theorem ck_293 : chM 293 = true := by
  show (kc 293).all (chI 293) = true
  refine cl_step 60 cl_0 ?_
  try rw [List.drop_drop]
  refine cl_step 60 cl_60 ?_
  try rw [List.drop_drop]
  refine cl_step 60 cl_120 ?_
  try rw [List.drop_drop]
  refine cl_step 60 cl_180 ?_
  try rw [List.drop_drop]
  refine cl_step 60 cl_240 ?_
  try rw [List.drop_drop]
  refine cl_step 60 cl_300 ?_
  try rw [List.drop_drop]
  refine cl_step 60 cl_360 ?_
  try rw [List.drop_drop]
  refine cl_step 60 cl_420 ?_
  try rw [List.drop_drop]
  refine cl_step 60 cl_480 ?_
  try rw [List.drop_drop]
  refine cl_step 60 cl_540 ?_
  try rw [List.drop_drop]
  refine cl_step 60 cl_600 ?_
  try rw [List.drop_drop]
  refine cl_step 60 cl_660 ?_
  try rw [List.drop_drop]
  refine cl_step 60 cl_720 ?_
  try rw [List.drop_drop]
  refine cl_step 60 cl_780 ?_
  try rw [List.drop_drop]
  decide +kernel
theorem ck_use {b n : Nat} (h : ((List.range n).all fun j => chM (b + j)) = true) {y : Nat} (h1 : b ≤ y) (h2 : y < b + n) : chM y = true := by
  have := List.all_eq_true.mp h (y - b) (List.mem_range.mpr (by omega))
  rwa [show b + (y - b) = y by omega] at this
theorem ck_all {y : Nat} (hy : y < 294) : chM y = true := by
  rcases Nat.lt_or_ge y 12 with h | h
  · exact ck_use ck_0 (by omega) (by omega)
  rcases Nat.lt_or_ge y 24 with h | h
  · exact ck_use ck_12 (by omega) (by omega)
  rcases Nat.lt_or_ge y 36 with h | h
  · exact ck_use ck_24 (by omega) (by omega)
  rcases Nat.lt_or_ge y 48 with h | h
  · exact ck_use ck_36 (by omega) (by omega)
  rcases Nat.lt_or_ge y 60 with h | h
  · exact ck_use ck_48 (by omega) (by omega)
  rcases Nat.lt_or_ge y 72 with h | h
  · exact ck_use ck_60 (by omega) (by omega)
  rcases Nat.lt_or_ge y 84 with h | h
  · exact ck_use ck_72 (by omega) (by omega)
  rcases Nat.lt_or_ge y 96 with h | h
  · exact ck_use ck_84 (by omega) (by omega)
  rcases Nat.lt_or_ge y 108 with h | h
  · exact ck_use ck_96 (by omega) (by omega)
  rcases Nat.lt_or_ge y 120 with h | h
  · exact ck_use ck_108 (by omega) (by omega)
  rcases Nat.lt_or_ge y 132 with h | h
  · exact ck_use ck_120 (by omega) (by omega)
  rcases Nat.lt_or_ge y 144 with h | h
  · exact ck_use ck_132 (by omega) (by omega)
  rcases Nat.lt_or_ge y 156 with h | h
  · exact ck_use ck_144 (by omega) (by omega)
  rcases Nat.lt_or_ge y 168 with h | h
  · exact ck_use ck_156 (by omega) (by omega)
  rcases Nat.lt_or_ge y 180 with h | h
  · exact ck_use ck_168 (by omega) (by omega)
  rcases Nat.lt_or_ge y 192 with h | h
  · exact ck_use ck_180 (by omega) (by omega)
  rcases Nat.lt_or_ge y 204 with h | h
  · exact ck_use ck_192 (by omega) (by omega)
  rcases Nat.lt_or_ge y 216 with h | h
  · exact ck_use ck_204 (by omega) (by omega)
  rcases Nat.lt_or_ge y 228 with h | h
  · exact ck_use ck_216 (by omega) (by omega)
  rcases Nat.lt_or_ge y 240 with h | h
  · exact ck_use ck_228 (by omega) (by omega)
  rcases Nat.lt_or_ge y 252 with h | h
  · exact ck_use ck_240 (by omega) (by omega)
  rcases Nat.lt_or_ge y 264 with h | h
  · exact ck_use ck_252 (by omega) (by omega)
  rcases Nat.lt_or_ge y 276 with h | h
  · exact ck_use ck_264 (by omega) (by omega)
  rcases Nat.lt_or_ge y 288 with h | h
  · exact ck_use ck_276 (by omega) (by omega)
  rcases Nat.lt_or_ge y 293 with h | h
  · exact ck_use ck_288 (by omega) (by omega)
  rw [show y = 293 by omega]
  exact ck_293
