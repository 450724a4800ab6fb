/-! rows over the class's objects, whichever they are: made by wip/whole/tools/p42.py -/
section TR
variable {g : Nat → Nat → Int32} {q : Nat → Nat → Int64} {x : Int32} {k y t : Nat}
theorem tf_0_0 (hT : t = 1 ∨ t = 31 ∨ t = 61) : fld (E g q) (t) 900 = some (.ref (t + 1)) := by
  rcases hT with rfl | rfl | rfl
  · exact fd_1_0
  · exact fd_31_0
  · exact fd_61_0
theorem tf_0_1 (hT : t = 1 ∨ t = 31 ∨ t = 61) : fld (E g q) (t) 901 = some (.ref (t + 6)) := by
  rcases hT with rfl | rfl | rfl
  · exact fd_1_1
  · exact fd_31_1
  · exact fd_61_1
theorem tf_0_2 (hT : t = 1 ∨ t = 31 ∨ t = 61) : fld (E g q) (t) 902 = some (.ref (t + 21)) := by
  rcases hT with rfl | rfl | rfl
  · exact fd_1_2
  · exact fd_31_2
  · exact fd_61_2
theorem tf_0_3 (hT : t = 1 ∨ t = 31 ∨ t = 61) : fld (E g q) (t) 903 = some (.ref (t + 25)) := by
  rcases hT with rfl | rfl | rfl
  · exact fd_1_3
  · exact fd_31_3
  · exact fd_61_3
theorem tf_0_4 (hT : t = 1 ∨ t = 31 ∨ t = 61) : fld (E g q) (t) 904 = some (.ref (t + 29)) := by
  rcases hT with rfl | rfl | rfl
  · exact fd_1_4
  · exact fd_31_4
  · exact fd_61_4
theorem tf_1_0 (hT : t = 1 ∨ t = 31 ∨ t = 61) : fld (E g q) (t + 1) 100 = some (.int (g (t + 1) 0)) := by
  rcases hT with rfl | rfl | rfl
  · exact fd_2_0
  · exact fd_32_0
  · exact fd_62_0
theorem ts_1_0 (hT : t = 1 ∨ t = 31 ∨ t = 61) : sfd y (E g q) (t + 1) 100 (.int x) = some (E (up2 g (t + 1) 0 x) q) := by
  rcases hT with rfl | rfl | rfl
  · exact sf_2_0
  · exact sf_32_0
  · exact sf_62_0
theorem tf_1_1 (hT : t = 1 ∨ t = 31 ∨ t = 61) : fld (E g q) (t + 1) 101 = some (.ref (t + 2)) := by
  rcases hT with rfl | rfl | rfl
  · exact fd_2_1
  · exact fd_32_1
  · exact fd_62_1
theorem tf_1_2 (hT : t = 1 ∨ t = 31 ∨ t = 61) : fld (E g q) (t + 1) 102 = some (.ref (t + 3)) := by
  rcases hT with rfl | rfl | rfl
  · exact fd_2_2
  · exact fd_32_2
  · exact fd_62_2
theorem tf_1_3 (hT : t = 1 ∨ t = 31 ∨ t = 61) : fld (E g q) (t + 1) 103 = some (.ref (t + 4)) := by
  rcases hT with rfl | rfl | rfl
  · exact fd_2_3
  · exact fd_32_3
  · exact fd_62_3
theorem tf_1_4 (hT : t = 1 ∨ t = 31 ∨ t = 61) : fld (E g q) (t + 1) 104 = some (.ref (t + 5)) := by
  rcases hT with rfl | rfl | rfl
  · exact fd_2_4
  · exact fd_32_4
  · exact fd_62_4
theorem tf_6_0 (hT : t = 1 ∨ t = 31 ∨ t = 61) : fld (E g q) (t + 6) 700 = some (.int (g (t + 6) 0)) := by
  rcases hT with rfl | rfl | rfl
  · exact fd_7_0
  · exact fd_37_0
  · exact fd_67_0
theorem ts_6_0 (hT : t = 1 ∨ t = 31 ∨ t = 61) : sfd y (E g q) (t + 6) 700 (.int x) = some (E (up2 g (t + 6) 0 x) q) := by
  rcases hT with rfl | rfl | rfl
  · exact sf_7_0
  · exact sf_37_0
  · exact sf_67_0
theorem tf_6_1 (hT : t = 1 ∨ t = 31 ∨ t = 61) : fld (E g q) (t + 6) 701 = some (.int (g (t + 6) 1)) := by
  rcases hT with rfl | rfl | rfl
  · exact fd_7_1
  · exact fd_37_1
  · exact fd_67_1
theorem ts_6_1 (hT : t = 1 ∨ t = 31 ∨ t = 61) : sfd y (E g q) (t + 6) 701 (.int x) = some (E (up2 g (t + 6) 1 x) q) := by
  rcases hT with rfl | rfl | rfl
  · exact sf_7_1
  · exact sf_37_1
  · exact sf_67_1
theorem tf_6_2 (hT : t = 1 ∨ t = 31 ∨ t = 61) : fld (E g q) (t + 6) 702 = some (.int (g (t + 6) 2)) := by
  rcases hT with rfl | rfl | rfl
  · exact fd_7_2
  · exact fd_37_2
  · exact fd_67_2
theorem ts_6_2 (hT : t = 1 ∨ t = 31 ∨ t = 61) : sfd y (E g q) (t + 6) 702 (.int x) = some (E (up2 g (t + 6) 2 x) q) := by
  rcases hT with rfl | rfl | rfl
  · exact sf_7_2
  · exact sf_37_2
  · exact sf_67_2
theorem tf_6_3 (hT : t = 1 ∨ t = 31 ∨ t = 61) : fld (E g q) (t + 6) 703 = some (.int (g (t + 6) 3)) := by
  rcases hT with rfl | rfl | rfl
  · exact fd_7_3
  · exact fd_37_3
  · exact fd_67_3
theorem ts_6_3 (hT : t = 1 ∨ t = 31 ∨ t = 61) : sfd y (E g q) (t + 6) 703 (.int x) = some (E (up2 g (t + 6) 3 x) q) := by
  rcases hT with rfl | rfl | rfl
  · exact sf_7_3
  · exact sf_37_3
  · exact sf_67_3
theorem tf_6_4 (hT : t = 1 ∨ t = 31 ∨ t = 61) : fld (E g q) (t + 6) 704 = some (.int (g (t + 6) 4)) := by
  rcases hT with rfl | rfl | rfl
  · exact fd_7_4
  · exact fd_37_4
  · exact fd_67_4
theorem ts_6_4 (hT : t = 1 ∨ t = 31 ∨ t = 61) : sfd y (E g q) (t + 6) 704 (.int x) = some (E (up2 g (t + 6) 4 x) q) := by
  rcases hT with rfl | rfl | rfl
  · exact sf_7_4
  · exact sf_37_4
  · exact sf_67_4
theorem tf_6_5 (hT : t = 1 ∨ t = 31 ∨ t = 61) : fld (E g q) (t + 6) 705 = some (.ref (t + 7)) := by
  rcases hT with rfl | rfl | rfl
  · exact fd_7_5
  · exact fd_37_5
  · exact fd_67_5
theorem tf_6_6 (hT : t = 1 ∨ t = 31 ∨ t = 61) : fld (E g q) (t + 6) 706 = some (.ref (t + 8)) := by
  rcases hT with rfl | rfl | rfl
  · exact fd_7_6
  · exact fd_37_6
  · exact fd_67_6
theorem tf_6_7 (hT : t = 1 ∨ t = 31 ∨ t = 61) : fld (E g q) (t + 6) 707 = some (.ref (t + 17)) := by
  rcases hT with rfl | rfl | rfl
  · exact fd_7_7
  · exact fd_37_7
  · exact fd_67_7
theorem tf_6_8 (hT : t = 1 ∨ t = 31 ∨ t = 61) : fld (E g q) (t + 6) 708 = some (.ref (t + 18)) := by
  rcases hT with rfl | rfl | rfl
  · exact fd_7_8
  · exact fd_37_8
  · exact fd_67_8
theorem tf_6_9 (hT : t = 1 ∨ t = 31 ∨ t = 61) : fld (E g q) (t + 6) 709 = some (.ref (t + 19)) := by
  rcases hT with rfl | rfl | rfl
  · exact fd_7_9
  · exact fd_37_9
  · exact fd_67_9
theorem tf_6_10 (hT : t = 1 ∨ t = 31 ∨ t = 61) : fld (E g q) (t + 6) 710 = some (.ref (t + 20)) := by
  rcases hT with rfl | rfl | rfl
  · exact fd_7_10
  · exact fd_37_10
  · exact fd_67_10
theorem tf_21_0 (hT : t = 1 ∨ t = 31 ∨ t = 61) : fld (E g q) (t + 21) 200 = some (.int (g (t + 21) 0)) := by
  rcases hT with rfl | rfl | rfl
  · exact fd_22_0
  · exact fd_52_0
  · exact fd_82_0
theorem ts_21_0 (hT : t = 1 ∨ t = 31 ∨ t = 61) : sfd y (E g q) (t + 21) 200 (.int x) = some (E (up2 g (t + 21) 0 x) q) := by
  rcases hT with rfl | rfl | rfl
  · exact sf_22_0
  · exact sf_52_0
  · exact sf_82_0
theorem tf_21_1 (hT : t = 1 ∨ t = 31 ∨ t = 61) : fld (E g q) (t + 21) 201 = some (.int (g (t + 21) 1)) := by
  rcases hT with rfl | rfl | rfl
  · exact fd_22_1
  · exact fd_52_1
  · exact fd_82_1
theorem ts_21_1 (hT : t = 1 ∨ t = 31 ∨ t = 61) : sfd y (E g q) (t + 21) 201 (.int x) = some (E (up2 g (t + 21) 1 x) q) := by
  rcases hT with rfl | rfl | rfl
  · exact sf_22_1
  · exact sf_52_1
  · exact sf_82_1
theorem tf_21_2 (hT : t = 1 ∨ t = 31 ∨ t = 61) : fld (E g q) (t + 21) 202 = some (.ref (t + 22)) := by
  rcases hT with rfl | rfl | rfl
  · exact fd_22_2
  · exact fd_52_2
  · exact fd_82_2
theorem tf_21_3 (hT : t = 1 ∨ t = 31 ∨ t = 61) : fld (E g q) (t + 21) 203 = some (.ref (t + 23)) := by
  rcases hT with rfl | rfl | rfl
  · exact fd_22_3
  · exact fd_52_3
  · exact fd_82_3
theorem tf_21_4 (hT : t = 1 ∨ t = 31 ∨ t = 61) : fld (E g q) (t + 21) 204 = some (.ref (t + 24)) := by
  rcases hT with rfl | rfl | rfl
  · exact fd_22_4
  · exact fd_52_4
  · exact fd_82_4
theorem tf_25_0 (hT : t = 1 ∨ t = 31 ∨ t = 61) : fld (E g q) (t + 25) 200 = some (.int (g (t + 25) 0)) := by
  rcases hT with rfl | rfl | rfl
  · exact fd_26_0
  · exact fd_56_0
  · exact fd_86_0
theorem ts_25_0 (hT : t = 1 ∨ t = 31 ∨ t = 61) : sfd y (E g q) (t + 25) 200 (.int x) = some (E (up2 g (t + 25) 0 x) q) := by
  rcases hT with rfl | rfl | rfl
  · exact sf_26_0
  · exact sf_56_0
  · exact sf_86_0
theorem tf_25_1 (hT : t = 1 ∨ t = 31 ∨ t = 61) : fld (E g q) (t + 25) 201 = some (.int (g (t + 25) 1)) := by
  rcases hT with rfl | rfl | rfl
  · exact fd_26_1
  · exact fd_56_1
  · exact fd_86_1
theorem ts_25_1 (hT : t = 1 ∨ t = 31 ∨ t = 61) : sfd y (E g q) (t + 25) 201 (.int x) = some (E (up2 g (t + 25) 1 x) q) := by
  rcases hT with rfl | rfl | rfl
  · exact sf_26_1
  · exact sf_56_1
  · exact sf_86_1
theorem tf_25_2 (hT : t = 1 ∨ t = 31 ∨ t = 61) : fld (E g q) (t + 25) 202 = some (.ref (t + 26)) := by
  rcases hT with rfl | rfl | rfl
  · exact fd_26_2
  · exact fd_56_2
  · exact fd_86_2
theorem tf_25_3 (hT : t = 1 ∨ t = 31 ∨ t = 61) : fld (E g q) (t + 25) 203 = some (.ref (t + 27)) := by
  rcases hT with rfl | rfl | rfl
  · exact fd_26_3
  · exact fd_56_3
  · exact fd_86_3
theorem tf_25_4 (hT : t = 1 ∨ t = 31 ∨ t = 61) : fld (E g q) (t + 25) 204 = some (.ref (t + 28)) := by
  rcases hT with rfl | rfl | rfl
  · exact fd_26_4
  · exact fd_56_4
  · exact fd_86_4
theorem tl_2 (hT : t = 1 ∨ t = 31 ∨ t = 61) (h : k < 16) : ild (E g q) (t + 2) (nI k) = some (.int (g (t + 2) k)) := by
  rcases hT with rfl | rfl | rfl <;> exact ldA rfl (by decide) h (by decide)
theorem td_2 (hT : t = 1 ∨ t = 31 ∨ t = 61) (h : k < 16) : ist (E g q) (t + 2) (nI k) x = some (E (up2 g (t + 2) k x) q) := by
  rcases hT with rfl | rfl | rfl <;> exact stA rfl (by decide) h (by decide)
theorem tk_2 (hT : t = 1 ∨ t = 31 ∨ t = 61) : kd (t + 2) = (0, 16) := by
  rcases hT with rfl | rfl | rfl <;> rfl
theorem tn_2 (hT : t = 1 ∨ t = 31 ∨ t = 61) : aln (E g q) (t + 2) = some 16 := by
  rcases hT with rfl | rfl | rfl <;> exact alA rfl (by decide)
theorem tl_3 (hT : t = 1 ∨ t = 31 ∨ t = 61) (h : k < 16) : ild (E g q) (t + 3) (nI k) = some (.int (g (t + 3) k)) := by
  rcases hT with rfl | rfl | rfl <;> exact ldA rfl (by decide) h (by decide)
theorem td_3 (hT : t = 1 ∨ t = 31 ∨ t = 61) (h : k < 16) : ist (E g q) (t + 3) (nI k) x = some (E (up2 g (t + 3) k x) q) := by
  rcases hT with rfl | rfl | rfl <;> exact stA rfl (by decide) h (by decide)
theorem tk_3 (hT : t = 1 ∨ t = 31 ∨ t = 61) : kd (t + 3) = (0, 16) := by
  rcases hT with rfl | rfl | rfl <;> rfl
theorem tn_3 (hT : t = 1 ∨ t = 31 ∨ t = 61) : aln (E g q) (t + 3) = some 16 := by
  rcases hT with rfl | rfl | rfl <;> exact alA rfl (by decide)
theorem tl_4 (hT : t = 1 ∨ t = 31 ∨ t = 61) (h : k < 48) : ild (E g q) (t + 4) (nI k) = some (.int (g (t + 4) k)) := by
  rcases hT with rfl | rfl | rfl <;> exact ldA rfl (by decide) h (by decide)
theorem td_4 (hT : t = 1 ∨ t = 31 ∨ t = 61) (h : k < 48) : ist (E g q) (t + 4) (nI k) x = some (E (up2 g (t + 4) k x) q) := by
  rcases hT with rfl | rfl | rfl <;> exact stA rfl (by decide) h (by decide)
theorem tk_4 (hT : t = 1 ∨ t = 31 ∨ t = 61) : kd (t + 4) = (0, 48) := by
  rcases hT with rfl | rfl | rfl <;> rfl
theorem tn_4 (hT : t = 1 ∨ t = 31 ∨ t = 61) : aln (E g q) (t + 4) = some 48 := by
  rcases hT with rfl | rfl | rfl <;> exact alA rfl (by decide)
theorem tl_5 (hT : t = 1 ∨ t = 31 ∨ t = 61) (h : k < 256) : ild (E g q) (t + 5) (nI k) = some (.int (g (t + 5) k)) := by
  rcases hT with rfl | rfl | rfl <;> exact ldA rfl (by decide) h (by decide)
theorem td_5 (hT : t = 1 ∨ t = 31 ∨ t = 61) (h : k < 256) : ist (E g q) (t + 5) (nI k) x = some (E (up2 g (t + 5) k x) q) := by
  rcases hT with rfl | rfl | rfl <;> exact stA rfl (by decide) h (by decide)
theorem tk_5 (hT : t = 1 ∨ t = 31 ∨ t = 61) : kd (t + 5) = (0, 256) := by
  rcases hT with rfl | rfl | rfl <;> rfl
theorem tn_5 (hT : t = 1 ∨ t = 31 ∨ t = 61) : aln (E g q) (t + 5) = some 256 := by
  rcases hT with rfl | rfl | rfl <;> exact alA rfl (by decide)
theorem tl_7 (hT : t = 1 ∨ t = 31 ∨ t = 61) (h : k < 4) : ild (E g q) (t + 7) (nI k) = some (.int (g (t + 7) k)) := by
  rcases hT with rfl | rfl | rfl <;> exact ldA rfl (by decide) h (by decide)
theorem td_7 (hT : t = 1 ∨ t = 31 ∨ t = 61) (h : k < 4) : ist (E g q) (t + 7) (nI k) x = some (E (up2 g (t + 7) k x) q) := by
  rcases hT with rfl | rfl | rfl <;> exact stA rfl (by decide) h (by decide)
theorem tk_7 (hT : t = 1 ∨ t = 31 ∨ t = 61) : kd (t + 7) = (0, 4) := by
  rcases hT with rfl | rfl | rfl <;> rfl
theorem tn_7 (hT : t = 1 ∨ t = 31 ∨ t = 61) : aln (E g q) (t + 7) = some 4 := by
  rcases hT with rfl | rfl | rfl <;> exact alA rfl (by decide)
theorem tl_9 (hT : t = 1 ∨ t = 31 ∨ t = 61) (h : k < 16) : ild (E g q) (t + 9) (nI k) = some (.int (g (t + 9) k)) := by
  rcases hT with rfl | rfl | rfl <;> exact ldA rfl (by decide) h (by decide)
theorem td_9 (hT : t = 1 ∨ t = 31 ∨ t = 61) (h : k < 16) : ist (E g q) (t + 9) (nI k) x = some (E (up2 g (t + 9) k x) q) := by
  rcases hT with rfl | rfl | rfl <;> exact stA rfl (by decide) h (by decide)
theorem tk_9 (hT : t = 1 ∨ t = 31 ∨ t = 61) : kd (t + 9) = (0, 16) := by
  rcases hT with rfl | rfl | rfl <;> rfl
theorem tn_9 (hT : t = 1 ∨ t = 31 ∨ t = 61) : aln (E g q) (t + 9) = some 16 := by
  rcases hT with rfl | rfl | rfl <;> exact alA rfl (by decide)
theorem tl_10 (hT : t = 1 ∨ t = 31 ∨ t = 61) (h : k < 16) : ild (E g q) (t + 10) (nI k) = some (.int (g (t + 10) k)) := by
  rcases hT with rfl | rfl | rfl <;> exact ldA rfl (by decide) h (by decide)
theorem td_10 (hT : t = 1 ∨ t = 31 ∨ t = 61) (h : k < 16) : ist (E g q) (t + 10) (nI k) x = some (E (up2 g (t + 10) k x) q) := by
  rcases hT with rfl | rfl | rfl <;> exact stA rfl (by decide) h (by decide)
theorem tk_10 (hT : t = 1 ∨ t = 31 ∨ t = 61) : kd (t + 10) = (0, 16) := by
  rcases hT with rfl | rfl | rfl <;> rfl
theorem tn_10 (hT : t = 1 ∨ t = 31 ∨ t = 61) : aln (E g q) (t + 10) = some 16 := by
  rcases hT with rfl | rfl | rfl <;> exact alA rfl (by decide)
theorem tl_11 (hT : t = 1 ∨ t = 31 ∨ t = 61) (h : k < 16) : ild (E g q) (t + 11) (nI k) = some (.int (g (t + 11) k)) := by
  rcases hT with rfl | rfl | rfl <;> exact ldA rfl (by decide) h (by decide)
theorem td_11 (hT : t = 1 ∨ t = 31 ∨ t = 61) (h : k < 16) : ist (E g q) (t + 11) (nI k) x = some (E (up2 g (t + 11) k x) q) := by
  rcases hT with rfl | rfl | rfl <;> exact stA rfl (by decide) h (by decide)
theorem tk_11 (hT : t = 1 ∨ t = 31 ∨ t = 61) : kd (t + 11) = (0, 16) := by
  rcases hT with rfl | rfl | rfl <;> rfl
theorem tn_11 (hT : t = 1 ∨ t = 31 ∨ t = 61) : aln (E g q) (t + 11) = some 16 := by
  rcases hT with rfl | rfl | rfl <;> exact alA rfl (by decide)
theorem tl_12 (hT : t = 1 ∨ t = 31 ∨ t = 61) (h : k < 16) : ild (E g q) (t + 12) (nI k) = some (.int (g (t + 12) k)) := by
  rcases hT with rfl | rfl | rfl <;> exact ldA rfl (by decide) h (by decide)
theorem td_12 (hT : t = 1 ∨ t = 31 ∨ t = 61) (h : k < 16) : ist (E g q) (t + 12) (nI k) x = some (E (up2 g (t + 12) k x) q) := by
  rcases hT with rfl | rfl | rfl <;> exact stA rfl (by decide) h (by decide)
theorem tk_12 (hT : t = 1 ∨ t = 31 ∨ t = 61) : kd (t + 12) = (0, 16) := by
  rcases hT with rfl | rfl | rfl <;> rfl
theorem tn_12 (hT : t = 1 ∨ t = 31 ∨ t = 61) : aln (E g q) (t + 12) = some 16 := by
  rcases hT with rfl | rfl | rfl <;> exact alA rfl (by decide)
theorem tl_13 (hT : t = 1 ∨ t = 31 ∨ t = 61) (h : k < 16) : ild (E g q) (t + 13) (nI k) = some (.int (g (t + 13) k)) := by
  rcases hT with rfl | rfl | rfl <;> exact ldA rfl (by decide) h (by decide)
theorem td_13 (hT : t = 1 ∨ t = 31 ∨ t = 61) (h : k < 16) : ist (E g q) (t + 13) (nI k) x = some (E (up2 g (t + 13) k x) q) := by
  rcases hT with rfl | rfl | rfl <;> exact stA rfl (by decide) h (by decide)
theorem tk_13 (hT : t = 1 ∨ t = 31 ∨ t = 61) : kd (t + 13) = (0, 16) := by
  rcases hT with rfl | rfl | rfl <;> rfl
theorem tn_13 (hT : t = 1 ∨ t = 31 ∨ t = 61) : aln (E g q) (t + 13) = some 16 := by
  rcases hT with rfl | rfl | rfl <;> exact alA rfl (by decide)
theorem tl_14 (hT : t = 1 ∨ t = 31 ∨ t = 61) (h : k < 16) : ild (E g q) (t + 14) (nI k) = some (.int (g (t + 14) k)) := by
  rcases hT with rfl | rfl | rfl <;> exact ldA rfl (by decide) h (by decide)
theorem td_14 (hT : t = 1 ∨ t = 31 ∨ t = 61) (h : k < 16) : ist (E g q) (t + 14) (nI k) x = some (E (up2 g (t + 14) k x) q) := by
  rcases hT with rfl | rfl | rfl <;> exact stA rfl (by decide) h (by decide)
theorem tk_14 (hT : t = 1 ∨ t = 31 ∨ t = 61) : kd (t + 14) = (0, 16) := by
  rcases hT with rfl | rfl | rfl <;> rfl
theorem tn_14 (hT : t = 1 ∨ t = 31 ∨ t = 61) : aln (E g q) (t + 14) = some 16 := by
  rcases hT with rfl | rfl | rfl <;> exact alA rfl (by decide)
theorem tl_15 (hT : t = 1 ∨ t = 31 ∨ t = 61) (h : k < 16) : ild (E g q) (t + 15) (nI k) = some (.int (g (t + 15) k)) := by
  rcases hT with rfl | rfl | rfl <;> exact ldA rfl (by decide) h (by decide)
theorem td_15 (hT : t = 1 ∨ t = 31 ∨ t = 61) (h : k < 16) : ist (E g q) (t + 15) (nI k) x = some (E (up2 g (t + 15) k x) q) := by
  rcases hT with rfl | rfl | rfl <;> exact stA rfl (by decide) h (by decide)
theorem tk_15 (hT : t = 1 ∨ t = 31 ∨ t = 61) : kd (t + 15) = (0, 16) := by
  rcases hT with rfl | rfl | rfl <;> rfl
theorem tn_15 (hT : t = 1 ∨ t = 31 ∨ t = 61) : aln (E g q) (t + 15) = some 16 := by
  rcases hT with rfl | rfl | rfl <;> exact alA rfl (by decide)
theorem tl_16 (hT : t = 1 ∨ t = 31 ∨ t = 61) (h : k < 16) : ild (E g q) (t + 16) (nI k) = some (.int (g (t + 16) k)) := by
  rcases hT with rfl | rfl | rfl <;> exact ldA rfl (by decide) h (by decide)
theorem td_16 (hT : t = 1 ∨ t = 31 ∨ t = 61) (h : k < 16) : ist (E g q) (t + 16) (nI k) x = some (E (up2 g (t + 16) k x) q) := by
  rcases hT with rfl | rfl | rfl <;> exact stA rfl (by decide) h (by decide)
theorem tk_16 (hT : t = 1 ∨ t = 31 ∨ t = 61) : kd (t + 16) = (0, 16) := by
  rcases hT with rfl | rfl | rfl <;> rfl
theorem tn_16 (hT : t = 1 ∨ t = 31 ∨ t = 61) : aln (E g q) (t + 16) = some 16 := by
  rcases hT with rfl | rfl | rfl <;> exact alA rfl (by decide)
theorem tl_17 (hT : t = 1 ∨ t = 31 ∨ t = 61) (h : k < 16) : ild (E g q) (t + 17) (nI k) = some (.int (g (t + 17) k)) := by
  rcases hT with rfl | rfl | rfl <;> exact ldA rfl (by decide) h (by decide)
theorem td_17 (hT : t = 1 ∨ t = 31 ∨ t = 61) (h : k < 16) : ist (E g q) (t + 17) (nI k) x = some (E (up2 g (t + 17) k x) q) := by
  rcases hT with rfl | rfl | rfl <;> exact stA rfl (by decide) h (by decide)
theorem tk_17 (hT : t = 1 ∨ t = 31 ∨ t = 61) : kd (t + 17) = (0, 16) := by
  rcases hT with rfl | rfl | rfl <;> rfl
theorem tn_17 (hT : t = 1 ∨ t = 31 ∨ t = 61) : aln (E g q) (t + 17) = some 16 := by
  rcases hT with rfl | rfl | rfl <;> exact alA rfl (by decide)
theorem tl_18 (hT : t = 1 ∨ t = 31 ∨ t = 61) (h : k < 16) : ild (E g q) (t + 18) (nI k) = some (.int (g (t + 18) k)) := by
  rcases hT with rfl | rfl | rfl <;> exact ldA rfl (by decide) h (by decide)
theorem td_18 (hT : t = 1 ∨ t = 31 ∨ t = 61) (h : k < 16) : ist (E g q) (t + 18) (nI k) x = some (E (up2 g (t + 18) k x) q) := by
  rcases hT with rfl | rfl | rfl <;> exact stA rfl (by decide) h (by decide)
theorem tk_18 (hT : t = 1 ∨ t = 31 ∨ t = 61) : kd (t + 18) = (0, 16) := by
  rcases hT with rfl | rfl | rfl <;> rfl
theorem tn_18 (hT : t = 1 ∨ t = 31 ∨ t = 61) : aln (E g q) (t + 18) = some 16 := by
  rcases hT with rfl | rfl | rfl <;> exact alA rfl (by decide)
theorem tl_19 (hT : t = 1 ∨ t = 31 ∨ t = 61) (h : k < 48) : ild (E g q) (t + 19) (nI k) = some (.int (g (t + 19) k)) := by
  rcases hT with rfl | rfl | rfl <;> exact ldA rfl (by decide) h (by decide)
theorem td_19 (hT : t = 1 ∨ t = 31 ∨ t = 61) (h : k < 48) : ist (E g q) (t + 19) (nI k) x = some (E (up2 g (t + 19) k x) q) := by
  rcases hT with rfl | rfl | rfl <;> exact stA rfl (by decide) h (by decide)
theorem tk_19 (hT : t = 1 ∨ t = 31 ∨ t = 61) : kd (t + 19) = (0, 48) := by
  rcases hT with rfl | rfl | rfl <;> rfl
theorem tn_19 (hT : t = 1 ∨ t = 31 ∨ t = 61) : aln (E g q) (t + 19) = some 48 := by
  rcases hT with rfl | rfl | rfl <;> exact alA rfl (by decide)
theorem tl_20 (hT : t = 1 ∨ t = 31 ∨ t = 61) (h : k < 256) : ild (E g q) (t + 20) (nI k) = some (.int (g (t + 20) k)) := by
  rcases hT with rfl | rfl | rfl <;> exact ldA rfl (by decide) h (by decide)
theorem td_20 (hT : t = 1 ∨ t = 31 ∨ t = 61) (h : k < 256) : ist (E g q) (t + 20) (nI k) x = some (E (up2 g (t + 20) k x) q) := by
  rcases hT with rfl | rfl | rfl <;> exact stA rfl (by decide) h (by decide)
theorem tk_20 (hT : t = 1 ∨ t = 31 ∨ t = 61) : kd (t + 20) = (0, 256) := by
  rcases hT with rfl | rfl | rfl <;> rfl
theorem tn_20 (hT : t = 1 ∨ t = 31 ∨ t = 61) : aln (E g q) (t + 20) = some 256 := by
  rcases hT with rfl | rfl | rfl <;> exact alA rfl (by decide)
theorem tl_22 (hT : t = 1 ∨ t = 31 ∨ t = 61) (h : k < 400) : ild (E g q) (t + 22) (nI k) = some (.int (g (t + 22) k)) := by
  rcases hT with rfl | rfl | rfl <;> exact ldA rfl (by decide) h (by decide)
theorem td_22 (hT : t = 1 ∨ t = 31 ∨ t = 61) (h : k < 400) : ist (E g q) (t + 22) (nI k) x = some (E (up2 g (t + 22) k x) q) := by
  rcases hT with rfl | rfl | rfl <;> exact stA rfl (by decide) h (by decide)
theorem tk_22 (hT : t = 1 ∨ t = 31 ∨ t = 61) : kd (t + 22) = (0, 400) := by
  rcases hT with rfl | rfl | rfl <;> rfl
theorem tn_22 (hT : t = 1 ∨ t = 31 ∨ t = 61) : aln (E g q) (t + 22) = some 400 := by
  rcases hT with rfl | rfl | rfl <;> exact alA rfl (by decide)
theorem tl_23 (hT : t = 1 ∨ t = 31 ∨ t = 61) (h : k < 33) : ild (E g q) (t + 23) (nI k) = some (.int (g (t + 23) k)) := by
  rcases hT with rfl | rfl | rfl <;> exact ldA rfl (by decide) h (by decide)
theorem td_23 (hT : t = 1 ∨ t = 31 ∨ t = 61) (h : k < 33) : ist (E g q) (t + 23) (nI k) x = some (E (up2 g (t + 23) k x) q) := by
  rcases hT with rfl | rfl | rfl <;> exact stA rfl (by decide) h (by decide)
theorem tk_23 (hT : t = 1 ∨ t = 31 ∨ t = 61) : kd (t + 23) = (0, 33) := by
  rcases hT with rfl | rfl | rfl <;> rfl
theorem tn_23 (hT : t = 1 ∨ t = 31 ∨ t = 61) : aln (E g q) (t + 23) = some 33 := by
  rcases hT with rfl | rfl | rfl <;> exact alA rfl (by decide)
theorem tl_24 (hT : t = 1 ∨ t = 31 ∨ t = 61) (h : k < 64) : ild (E g q) (t + 24) (nI k) = some (.int (g (t + 24) k)) := by
  rcases hT with rfl | rfl | rfl <;> exact ldA rfl (by decide) h (by decide)
theorem td_24 (hT : t = 1 ∨ t = 31 ∨ t = 61) (h : k < 64) : ist (E g q) (t + 24) (nI k) x = some (E (up2 g (t + 24) k x) q) := by
  rcases hT with rfl | rfl | rfl <;> exact stA rfl (by decide) h (by decide)
theorem tk_24 (hT : t = 1 ∨ t = 31 ∨ t = 61) : kd (t + 24) = (0, 64) := by
  rcases hT with rfl | rfl | rfl <;> rfl
theorem tn_24 (hT : t = 1 ∨ t = 31 ∨ t = 61) : aln (E g q) (t + 24) = some 64 := by
  rcases hT with rfl | rfl | rfl <;> exact alA rfl (by decide)
theorem tl_26 (hT : t = 1 ∨ t = 31 ∨ t = 61) (h : k < 400) : ild (E g q) (t + 26) (nI k) = some (.int (g (t + 26) k)) := by
  rcases hT with rfl | rfl | rfl <;> exact ldA rfl (by decide) h (by decide)
theorem td_26 (hT : t = 1 ∨ t = 31 ∨ t = 61) (h : k < 400) : ist (E g q) (t + 26) (nI k) x = some (E (up2 g (t + 26) k x) q) := by
  rcases hT with rfl | rfl | rfl <;> exact stA rfl (by decide) h (by decide)
theorem tk_26 (hT : t = 1 ∨ t = 31 ∨ t = 61) : kd (t + 26) = (0, 400) := by
  rcases hT with rfl | rfl | rfl <;> rfl
theorem tn_26 (hT : t = 1 ∨ t = 31 ∨ t = 61) : aln (E g q) (t + 26) = some 400 := by
  rcases hT with rfl | rfl | rfl <;> exact alA rfl (by decide)
theorem tl_27 (hT : t = 1 ∨ t = 31 ∨ t = 61) (h : k < 33) : ild (E g q) (t + 27) (nI k) = some (.int (g (t + 27) k)) := by
  rcases hT with rfl | rfl | rfl <;> exact ldA rfl (by decide) h (by decide)
theorem td_27 (hT : t = 1 ∨ t = 31 ∨ t = 61) (h : k < 33) : ist (E g q) (t + 27) (nI k) x = some (E (up2 g (t + 27) k x) q) := by
  rcases hT with rfl | rfl | rfl <;> exact stA rfl (by decide) h (by decide)
theorem tk_27 (hT : t = 1 ∨ t = 31 ∨ t = 61) : kd (t + 27) = (0, 33) := by
  rcases hT with rfl | rfl | rfl <;> rfl
theorem tn_27 (hT : t = 1 ∨ t = 31 ∨ t = 61) : aln (E g q) (t + 27) = some 33 := by
  rcases hT with rfl | rfl | rfl <;> exact alA rfl (by decide)
theorem tl_28 (hT : t = 1 ∨ t = 31 ∨ t = 61) (h : k < 64) : ild (E g q) (t + 28) (nI k) = some (.int (g (t + 28) k)) := by
  rcases hT with rfl | rfl | rfl <;> exact ldA rfl (by decide) h (by decide)
theorem td_28 (hT : t = 1 ∨ t = 31 ∨ t = 61) (h : k < 64) : ist (E g q) (t + 28) (nI k) x = some (E (up2 g (t + 28) k x) q) := by
  rcases hT with rfl | rfl | rfl <;> exact stA rfl (by decide) h (by decide)
theorem tk_28 (hT : t = 1 ∨ t = 31 ∨ t = 61) : kd (t + 28) = (0, 64) := by
  rcases hT with rfl | rfl | rfl <;> rfl
theorem tn_28 (hT : t = 1 ∨ t = 31 ∨ t = 61) : aln (E g q) (t + 28) = some 64 := by
  rcases hT with rfl | rfl | rfl <;> exact alA rfl (by decide)
theorem tl_29 (hT : t = 1 ∨ t = 31 ∨ t = 61) (h : k < 600) : ild (E g q) (t + 29) (nI k) = some (.int (g (t + 29) k)) := by
  rcases hT with rfl | rfl | rfl <;> exact ldA rfl (by decide) h (by decide)
theorem td_29 (hT : t = 1 ∨ t = 31 ∨ t = 61) (h : k < 600) : ist (E g q) (t + 29) (nI k) x = some (E (up2 g (t + 29) k x) q) := by
  rcases hT with rfl | rfl | rfl <;> exact stA rfl (by decide) h (by decide)
theorem tk_29 (hT : t = 1 ∨ t = 31 ∨ t = 61) : kd (t + 29) = (0, 600) := by
  rcases hT with rfl | rfl | rfl <;> rfl
theorem tn_29 (hT : t = 1 ∨ t = 31 ∨ t = 61) : aln (E g q) (t + 29) = some 600 := by
  rcases hT with rfl | rfl | rfl <;> exact alA rfl (by decide)
theorem tr_0 (hT : t = 1 ∨ t = 31 ∨ t = 61) : rld (E g q) (t + 8) (nI 0) = some (.ref (t + 9)) := by
  rcases hT with rfl | rfl | rfl
  · exact ld_9_0
  · exact ld_39_0
  · exact ld_69_0
theorem tr_1 (hT : t = 1 ∨ t = 31 ∨ t = 61) : rld (E g q) (t + 8) (nI 1) = some (.ref (t + 10)) := by
  rcases hT with rfl | rfl | rfl
  · exact ld_9_1
  · exact ld_39_1
  · exact ld_69_1
theorem tr_2 (hT : t = 1 ∨ t = 31 ∨ t = 61) : rld (E g q) (t + 8) (nI 2) = some (.ref (t + 11)) := by
  rcases hT with rfl | rfl | rfl
  · exact ld_9_2
  · exact ld_39_2
  · exact ld_69_2
theorem tr_3 (hT : t = 1 ∨ t = 31 ∨ t = 61) : rld (E g q) (t + 8) (nI 3) = some (.ref (t + 12)) := by
  rcases hT with rfl | rfl | rfl
  · exact ld_9_3
  · exact ld_39_3
  · exact ld_69_3
theorem tr_4 (hT : t = 1 ∨ t = 31 ∨ t = 61) : rld (E g q) (t + 8) (nI 4) = some (.ref (t + 13)) := by
  rcases hT with rfl | rfl | rfl
  · exact ld_9_4
  · exact ld_39_4
  · exact ld_69_4
theorem tr_5 (hT : t = 1 ∨ t = 31 ∨ t = 61) : rld (E g q) (t + 8) (nI 5) = some (.ref (t + 14)) := by
  rcases hT with rfl | rfl | rfl
  · exact ld_9_5
  · exact ld_39_5
  · exact ld_69_5
theorem tr_6 (hT : t = 1 ∨ t = 31 ∨ t = 61) : rld (E g q) (t + 8) (nI 6) = some (.ref (t + 15)) := by
  rcases hT with rfl | rfl | rfl
  · exact ld_9_6
  · exact ld_39_6
  · exact ld_69_6
theorem tr_7 (hT : t = 1 ∨ t = 31 ∨ t = 61) : rld (E g q) (t + 8) (nI 7) = some (.ref (t + 16)) := by
  rcases hT with rfl | rfl | rfl
  · exact ld_9_7
  · exact ld_39_7
  · exact ld_69_7
theorem xf_0 (hX : t = 175 ∨ t = 185) : fld (E g q) t 1000 = some (.ref (t + 1)) := by
  rcases hX with rfl | rfl
  · exact fd_175_0
  · exact fd_185_0
theorem xf_1 (hX : t = 175 ∨ t = 185) : fld (E g q) t 1001 = some (.ref (t + 2)) := by
  rcases hX with rfl | rfl
  · exact fd_175_1
  · exact fd_185_1
theorem xf_2 (hX : t = 175 ∨ t = 185) : fld (E g q) t 1002 = some (.ref (t + 3)) := by
  rcases hX with rfl | rfl
  · exact fd_175_2
  · exact fd_185_2
theorem xf_3 (hX : t = 175 ∨ t = 185) : fld (E g q) t 1003 = some (.int (g t 3)) := by
  rcases hX with rfl | rfl
  · exact fd_175_3
  · exact fd_185_3
theorem xs_3 (hX : t = 175 ∨ t = 185) : sfd y (E g q) t 1003 (.int x) = some (E (up2 g t 3 x) q) := by
  rcases hX with rfl | rfl
  · exact sf_175_3
  · exact sf_185_3
theorem xf_4 (hX : t = 175 ∨ t = 185) : fld (E g q) t 1004 = some (.int (g t 4)) := by
  rcases hX with rfl | rfl
  · exact fd_175_4
  · exact fd_185_4
theorem xs_4 (hX : t = 175 ∨ t = 185) : sfd y (E g q) t 1004 (.int x) = some (E (up2 g t 4 x) q) := by
  rcases hX with rfl | rfl
  · exact sf_175_4
  · exact sf_185_4
theorem xl_1 (hX : t = 175 ∨ t = 185) (h : k < 16) : ild (E g q) (t + 1) (nI k) = some (.int (g (t + 1) k)) := by
  rcases hX with rfl | rfl <;> exact ldA rfl (by decide) h (by decide)
theorem xd_1 (hX : t = 175 ∨ t = 185) (h : k < 16) : ist (E g q) (t + 1) (nI k) x = some (E (up2 g (t + 1) k x) q) := by
  rcases hX with rfl | rfl <;> exact stA rfl (by decide) h (by decide)
theorem xk_1 (hX : t = 175 ∨ t = 185) : kd (t + 1) = (0, 16) := by
  rcases hX with rfl | rfl <;> rfl
theorem xl_2 (hX : t = 175 ∨ t = 185) (h : k < 16) : ild (E g q) (t + 2) (nI k) = some (.int (g (t + 2) k)) := by
  rcases hX with rfl | rfl <;> exact ldA rfl (by decide) h (by decide)
theorem xd_2 (hX : t = 175 ∨ t = 185) (h : k < 16) : ist (E g q) (t + 2) (nI k) x = some (E (up2 g (t + 2) k x) q) := by
  rcases hX with rfl | rfl <;> exact stA rfl (by decide) h (by decide)
theorem xk_2 (hX : t = 175 ∨ t = 185) : kd (t + 2) = (0, 16) := by
  rcases hX with rfl | rfl <;> rfl
theorem xl_3 (hX : t = 175 ∨ t = 185) (h : k < 48) : ild (E g q) (t + 3) (nI k) = some (.int (g (t + 3) k)) := by
  rcases hX with rfl | rfl <;> exact ldA rfl (by decide) h (by decide)
theorem xd_3 (hX : t = 175 ∨ t = 185) (h : k < 48) : ist (E g q) (t + 3) (nI k) x = some (E (up2 g (t + 3) k x) q) := by
  rcases hX with rfl | rfl <;> exact stA rfl (by decide) h (by decide)
theorem xk_3 (hX : t = 175 ∨ t = 185) : kd (t + 3) = (0, 48) := by
  rcases hX with rfl | rfl <;> rfl
end TR
section JD
variable {d : Nat} {g : Nat → Nat → Int32} {q : Nat → Nat → Int64} {P : QT} {h : Hp}
theorem s_jmax {a b : Int32} : callC (ev (d + 1)) jm_max [.int a, .int b] h P = P (some (.int (if a < b then b else a))) h := by
  refine call_eq ⟨_, _, ?_, rfl, rfl⟩
  have n1 : jm_max ≠ jy_cp := by decide
  have n2 : jm_max ≠ jy_oi := by decide
  simp only [ev, if_neg n1, if_neg n2]
  rw [if_pos trivial]
  refine ⟨a, b, rfl, ?_, ?_⟩ <;> first | rfl | trivial
theorem s_jmin {a b : Int32} : callC (ev (d + 1)) jm_min [.int a, .int b] h P = P (some (.int (if b < a then b else a))) h := by
  refine call_eq ⟨_, _, ?_, rfl, rfl⟩
  have n1 : jm_min ≠ jy_cp := by decide
  have n2 : jm_min ≠ jy_oi := by decide
  have n3 : jm_min ≠ jm_max := by decide
  simp only [ev, if_neg n1, if_neg n2, if_neg n3]
  rw [if_pos trivial]
  refine ⟨a, b, rfl, ?_, ?_⟩ <;> first | rfl | trivial
/-- arraycopy from the first place to the first -/
theorem s_cp {a b n na nb : Nat} (ha : kd a = (0, na)) (hb : kd b = (0, nb)) (ha2 : a < 220) (hb2 : b < 220) (h1 : n ≤ na) (h2 : n ≤ nb) (hn : n < 2147483648) (H : ∀ r, (∀ k, r k = if k < n then g a k else g b k) → P none (E (upw g b r) q)) :
    callC (ev (d + 1)) 294 [.ref a, .int (nI 0), .ref b, .int (nI 0), .int (nI n)] (E g q) P := by
  refine ⟨none, E (upw g b (va_cpy (g a) (g b) 0 0 n)) q, ?_, H _ fun k => ?_⟩
  · have n1 : (294 : Nat) = jy_cp := rfl
    simp only [ev, if_pos n1]
    exact ⟨a, b, 0, 0, n, by decide, by decide, hn, rfl, by rw [ha], by rw [hb], ha2, hb2, by rw [ha]; omega, by rw [hb]; omega, rfl, rfl⟩
  · unfold va_cpy
    simp only [Nat.zero_le, true_and, Nat.zero_add, Nat.sub_zero]
theorem fi_lp {a n : Nat} {v : Int32} (hk : kd a = (0, n)) (ha : a < 220) (hn : n < 2147483648) (H : ∀ r, (∀ k, k < n → r k = v) → P none (E (upw g a r) q)) : ∀ (j i : Nat) (r : Nat → Int32), i + j = n → (∀ k, k < i → r k = v) →
    wp (ev d) P ja_fill 5 [some (.ref a), some (.int v), some (.int (nI i)), some (.int (nI n))] [] (E (upw g a r) q) := by
  intro j
  induction j with
  | zero =>
    intro i r hi hr
    have hi : i = n := hi
    subst hi
    rw [b_ja_fill_5]
    simp -implicitDefEqProofs (disch := first | assumption | omega) only [szS_0, szS_i, szS_r, szS_l, x_cons, x_goto, ob_some, kl_i, kl_r, kl_l, kl_n, push_n, push_s, pop_0, pop_i, pop_r, Int.reduceToNat, List.length_cons, List.length_nil, Nat.reduceAdd, Nat.reduceLeDiff, Nat.zero_add, true_and, nI_n0, nat_le, Nat.add_zero, i_1, rt_ja_fill, x_al0, x_alen, x_goto, x_iastore, x_icge, x_il1, x_il2, x_il3, x_inc2, x_is2, x_is3, x_ldc, x_vret, nI_ltE, Nat.lt_irrefl, ↓reduceIte, b_ja_fill_20]
    exact H r hr
  | succ j ih =>
    intro i r hi hr
    have hi' : i < n := by omega
    have es : ∀ G : Nat → Nat → Int32, ist (E G q) a (nI i) v = some (E (up2 G a i v) q) := fun G => stA hk ha hi' hn
    rw [b_ja_fill_5]
    simp -implicitDefEqProofs (disch := first | assumption | omega) only [szS_0, szS_i, szS_r, szS_l, x_cons, x_goto, ob_some, kl_i, kl_r, kl_l, kl_n, push_n, push_s, pop_0, pop_i, pop_r, Int.reduceToNat, List.length_cons, List.length_nil, Nat.reduceAdd, Nat.reduceLeDiff, Nat.zero_add, true_and, nI_n0, nat_le, Nat.add_zero, i_1, rt_ja_fill, x_al0, x_alen, x_goto, x_iastore, x_icge, x_il1, x_il2, x_il3, x_inc2, x_is2, x_is3, x_ldc, x_vret, nI_ltE, hi', ↓reduceIte, es, nI_add, pu_w]
    refine ih (i + 1) _ (by omega) fun k hk => ?_
    unfold pu
    split
    · rfl
    · exact hr k (by omega)
theorem s_fill {a n : Nat} {v : Int32} (hk : kd a = (0, n)) (ha : a < 220) (hn : n < 2147483648) (H : ∀ r, (∀ k, k < n → r k = v) → P none (E (upw g a r) q)) : callC (ev (d + 1)) ja_fill [.ref a, .int v] (E g q) P := by
  refine in_ja_fill rfl ?_
  have el : aln (E g q) a = some n := alA hk ha
  rw [b_ja_fill_0]
  simp -implicitDefEqProofs (disch := first | assumption | omega) only [szS_0, szS_i, szS_r, szS_l, x_cons, x_goto, ob_some, kl_i, kl_r, kl_l, kl_n, push_n, push_s, pop_0, pop_i, pop_r, Int.reduceToNat, List.length_cons, List.length_nil, Nat.reduceAdd, Nat.reduceLeDiff, Nat.zero_add, true_and, nI_n0, nat_le, Nat.add_zero, i_1, rt_ja_fill, x_al0, x_alen, x_goto, x_iastore, x_icge, x_il1, x_il2, x_il3, x_inc2, x_is2, x_is3, x_ldc, x_vret, el]
  rw [show E g q = E (upw g a (g a)) q by rw [upw_g]]
  exact fi_lp hk ha hn H n 0 _ (Nat.zero_add _) fun k hk => absurd hk (Nat.not_lt_zero k)
theorem c_rc_0 : wp (ev d) P ja_rangeCheck 0 = exL (ev d) P ja_rangeCheck (wp (ev d) P ja_rangeCheck) [.iload 1, .iload 2, .if_icmp .le 46, .goto 5] := sg_ok _ _ (by decide +kernel)
theorem c_rc_46 : wp (ev d) P ja_rangeCheck 46 = exL (ev d) P ja_rangeCheck (wp (ev d) P ja_rangeCheck) [.iload 1, .ifCond .ge 59, .goto 50] := sg_ok _ _ (by decide +kernel)
theorem c_rc_59 : wp (ev d) P ja_rangeCheck 59 = exL (ev d) P ja_rangeCheck (wp (ev d) P ja_rangeCheck) [.iload 2, .iload 0, .if_icmp .le 73, .goto 64] := sg_ok _ _ (by decide +kernel)
theorem s_rangeCheck {n a b : Nat} (h1 : a ≤ b) (h2 : b ≤ n) (hn : n < 2147483648) : callC (ev (d + 1)) ja_rangeCheck [.int (nI n), .int (nI a), .int (nI b)] h P = P none h := by
  refine call_eq (in_ja_rangeCheck rfl ?_)
  have l1 : ¬ b < a := by omega
  have l2 : ¬ n < b := by omega
  have l3 : ¬ a < 0 := by omega
  rw [c_rc_0]
  simp -implicitDefEqProofs (disch := first | assumption | omega) only [szS_0, szS_i, szS_r, szS_l, x_cons, x_goto, ob_some, kl_i, kl_r, kl_l, kl_n, push_n, push_s, pop_0, pop_i, pop_r, Int.reduceToNat, List.length_cons, List.length_nil, Nat.reduceAdd, Nat.reduceLeDiff, Nat.zero_add, true_and, nI_n0, nat_le, Nat.add_zero, rt_ja_rangeCheck, x_dupi, x_dupr, x_icle, x_ifge, x_il0, x_il1, x_il2, x_vret, nI_ltE, l1, ↓reduceIte]
  rw [c_rc_46]
  simp -implicitDefEqProofs (disch := first | assumption | omega) only [szS_0, szS_i, szS_r, szS_l, x_cons, x_goto, ob_some, kl_i, kl_r, kl_l, kl_n, push_n, push_s, pop_0, pop_i, pop_r, Int.reduceToNat, List.length_cons, List.length_nil, Nat.reduceAdd, Nat.reduceLeDiff, Nat.zero_add, true_and, nI_n0, nat_le, Nat.add_zero, rt_ja_rangeCheck, x_dupi, x_dupr, x_icle, x_ifge, x_il0, x_il1, x_il2, x_vret, nI_ltE, l3, ↓reduceIte]
  rw [c_rc_59]
  simp -implicitDefEqProofs (disch := first | assumption | omega) only [szS_0, szS_i, szS_r, szS_l, x_cons, x_goto, ob_some, kl_i, kl_r, kl_l, kl_n, push_n, push_s, pop_0, pop_i, pop_r, Int.reduceToNat, List.length_cons, List.length_nil, Nat.reduceAdd, Nat.reduceLeDiff, Nat.zero_add, true_and, nI_n0, nat_le, Nat.add_zero, rt_ja_rangeCheck, x_dupi, x_dupr, x_icle, x_ifge, x_il0, x_il1, x_il2, x_vret, nI_ltE, l2, ↓reduceIte, b_ja_rangeCheck_73]
  all_goals first | rfl | exact ⟨rfl, rfl⟩ | exact ⟨rfl, trivial⟩ | exact ⟨trivial, rfl⟩ | trivial
theorem f4_lp {a n e s : Nat} {v l : Int32} (hk : kd a = (0, n)) (ha : a < 220) (hn : n < 2147483648) (he : e ≤ n) (H : ∀ r, (∀ k, r k = if s ≤ k ∧ k < e then v else g a k) → P none (E (upw g a r) q)) : ∀ (j i : Nat) (r : Nat → Int32), i + j = e → s ≤ i → (∀ k, r k = if s ≤ k ∧ k < i then v else g a k) →
    wp (ev d) P ja_fill4 10 [some (.ref a), some (.int (nI s)), some (.int (nI e)), some (.int v), some (.int (nI i))] [] (E (upw g a r) q) := by
  intro j
  induction j with
  | zero =>
    intro i r hi hs hr
    have hi : i = e := hi
    subst hi
    rw [b_ja_fill4_10]
    simp -implicitDefEqProofs (disch := first | assumption | omega) only [szS_0, szS_i, szS_r, szS_l, x_cons, x_goto, ob_some, kl_i, kl_r, kl_l, kl_n, push_n, push_s, pop_0, pop_i, pop_r, Int.reduceToNat, List.length_cons, List.length_nil, Nat.reduceAdd, Nat.reduceLeDiff, Nat.zero_add, true_and, nI_n0, nat_le, Nat.add_zero, i_1, rt_ja_fill4, x_al0, x_alen, x_call, x_goto, x_iastore, x_icge, x_il1, x_il2, x_il3, x_il4, x_inc4, x_is4, x_vret, nI_ltE, Nat.lt_irrefl, ↓reduceIte, b_ja_fill4_27]
    exact H r hr
  | succ j ih =>
    intro i r hi hs hr
    have hi' : i < e := by omega
    have es : ∀ G : Nat → Nat → Int32, ist (E G q) a (nI i) v = some (E (up2 G a i v) q) := fun G => stA hk ha (by omega) hn
    rw [b_ja_fill4_10]
    simp -implicitDefEqProofs (disch := first | assumption | omega) only [szS_0, szS_i, szS_r, szS_l, x_cons, x_goto, ob_some, kl_i, kl_r, kl_l, kl_n, push_n, push_s, pop_0, pop_i, pop_r, Int.reduceToNat, List.length_cons, List.length_nil, Nat.reduceAdd, Nat.reduceLeDiff, Nat.zero_add, true_and, nI_n0, nat_le, Nat.add_zero, i_1, rt_ja_fill4, x_al0, x_alen, x_call, x_goto, x_iastore, x_icge, x_il1, x_il2, x_il3, x_il4, x_inc4, x_is4, x_vret, nI_ltE, hi', ↓reduceIte, es, nI_add, pu_w]
    refine ih (i + 1) _ (by omega) (by omega) fun k => ?_
    unfold pu
    by_cases e1 : k = i
    · rw [if_pos e1, if_pos (by omega)]
    · rw [if_neg e1, hr]
      by_cases e2 : s ≤ k ∧ k < i
      · rw [if_pos e2, if_pos (by omega)]
      · rw [if_neg e2, if_neg (by omega)]
theorem s_fill4 {a n e s : Nat} {v : Int32} (hk : kd a = (0, n)) (ha : a < 220) (hn : n < 2147483648) (hs : s ≤ e) (he : e ≤ n) (H : ∀ r, (∀ k, r k = if s ≤ k ∧ k < e then v else g a k) → P none (E (upw g a r) q)) : callC (ev (d + 2)) ja_fill4 [.ref a, .int (nI s), .int (nI e), .int v] (E g q) P := by
  refine in_ja_fill4 rfl ?_
  have el : aln (E g q) a = some n := alA hk ha
  rw [b_ja_fill4_0]
  simp -implicitDefEqProofs (disch := first | assumption | omega) only [szS_0, szS_i, szS_r, szS_l, x_cons, x_goto, ob_some, kl_i, kl_r, kl_l, kl_n, push_n, push_s, pop_0, pop_i, pop_r, Int.reduceToNat, List.length_cons, List.length_nil, Nat.reduceAdd, Nat.reduceLeDiff, Nat.zero_add, true_and, nI_n0, nat_le, Nat.add_zero, i_1, rt_ja_fill4, x_al0, x_alen, x_call, x_goto, x_iastore, x_icge, x_il1, x_il2, x_il3, x_il4, x_inc4, x_is4, x_vret, el, s_rangeCheck]
  rw [show E g q = E (upw g a (g a)) q by rw [upw_g]]
  exact f4_lp (l := 0) hk ha hn he H (e - s) s _ (by omega) (Nat.le_refl _) fun k => by rw [if_neg (by omega)]
theorem s_holds {B n : Nat} (hn : n < 32) (hB : B < 2147483648) : callC (ev (d + 1)) vr_holds [.int (nI B), .int (nI n)] h P = P (some (.int (bI (B.testBit n)))) h := by
  refine call_eq (in_vr_holds rfl ?_)
  rw [b_vr_holds_0]
  simp -implicitDefEqProofs (disch := first | assumption | omega) only [szS_0, szS_i, szS_r, szS_l, x_cons, x_goto, ob_some, kl_i, kl_r, kl_l, kl_n, push_n, push_s, pop_0, pop_i, pop_r, Int.reduceToNat, List.length_cons, List.length_nil, Nat.reduceAdd, Nat.reduceLeDiff, Nat.zero_add, true_and, nI_n0, nat_le, Nat.add_zero, rt_vr_holds_0, rt_vr_holds_1, rt_vr_holds_b, x_goto, x_iand, x_ifeq, x_il0, x_il1, x_iret, x_ishr, x_ldc, nI_bt, tbI_0]
  cases hb : B.testBit n
  · simp -implicitDefEqProofs (disch := first | assumption | omega) only [↓reduceIte, b_vr_holds_12, b_vr_holds_13, szS_0, szS_i, szS_r, szS_l, x_cons, x_goto, ob_some, kl_i, kl_r, kl_l, kl_n, push_n, push_s, pop_0, pop_i, pop_r, Int.reduceToNat, List.length_cons, List.length_nil, Nat.reduceAdd, Nat.reduceLeDiff, Nat.zero_add, true_and, nI_n0, nat_le, Nat.add_zero, rt_vr_holds_0, rt_vr_holds_1, rt_vr_holds_b, x_goto, x_iand, x_ifeq, x_il0, x_il1, x_iret, x_ishr, x_ldc, bI, Bool.false_eq_true, rt_vr_holds_0]
    all_goals first | rfl | exact ⟨rfl, rfl⟩ | exact ⟨rfl, trivial⟩ | exact ⟨trivial, rfl⟩ | trivial
  · simp -implicitDefEqProofs (disch := first | assumption | omega) only [↓reduceIte, szS_0, szS_i, szS_r, szS_l, x_cons, x_goto, ob_some, kl_i, kl_r, kl_l, kl_n, push_n, push_s, pop_0, pop_i, pop_r, Int.reduceToNat, List.length_cons, List.length_nil, Nat.reduceAdd, Nat.reduceLeDiff, Nat.zero_add, true_and, nI_n0, nat_le, Nat.add_zero, rt_vr_holds_0, rt_vr_holds_1, rt_vr_holds_b, x_goto, x_iand, x_ifeq, x_il0, x_il1, x_iret, x_ishr, x_ldc, bI, Bool.true_eq_false, rt_vr_holds_1, b_vr_holds_13]
    all_goals first | rfl | exact ⟨rfl, rfl⟩ | exact ⟨rfl, trivial⟩ | exact ⟨trivial, rfl⟩ | trivial
theorem s_within {v a b : Int32} : callC (ev (d + 1)) vr_within [.int v, .int a, .int b] h P = P (some (.int (bI (decide (a ≤ v ∧ v ≤ b))))) h := by
  refine call_eq (in_vr_within rfl ?_)
  rw [b_vr_within_0]
  simp -implicitDefEqProofs (disch := first | assumption | omega) only [szS_0, szS_i, szS_r, szS_l, x_cons, x_goto, ob_some, kl_i, kl_r, kl_l, kl_n, push_n, push_s, pop_0, pop_i, pop_r, Int.reduceToNat, List.length_cons, List.length_nil, Nat.reduceAdd, Nat.reduceLeDiff, Nat.zero_add, true_and, nI_n0, nat_le, Nat.add_zero, rt_vr_within_0, rt_vr_within_1, rt_vr_within_b, x_goto, x_icgt, x_iclt, x_il0, x_il1, x_il2, x_iret, x_ldc]
  by_cases h1 : v < a
  · have e : ¬ (a ≤ v ∧ v ≤ b) := fun e => by
      rw [← lt_le] at e
      exact e.1 h1
    simp -implicitDefEqProofs (disch := first | assumption | omega) only [h1, decide_eq_false e, ↓reduceIte, b_vr_within_14, b_vr_within_15, szS_0, szS_i, szS_r, szS_l, x_cons, x_goto, ob_some, kl_i, kl_r, kl_l, kl_n, push_n, push_s, pop_0, pop_i, pop_r, Int.reduceToNat, List.length_cons, List.length_nil, Nat.reduceAdd, Nat.reduceLeDiff, Nat.zero_add, true_and, nI_n0, nat_le, Nat.add_zero, rt_vr_within_0, rt_vr_within_1, rt_vr_within_b, x_goto, x_icgt, x_iclt, x_il0, x_il1, x_il2, x_iret, x_ldc, bI, Bool.false_eq_true, rt_vr_within_0]
    all_goals first | rfl | exact ⟨rfl, rfl⟩ | exact ⟨rfl, trivial⟩ | exact ⟨trivial, rfl⟩ | trivial
  · by_cases h2 : b < v
    · have e : ¬ (a ≤ v ∧ v ≤ b) := fun e => by
        rw [← lt_le (x := b)] at e
        exact e.2 h2
      simp -implicitDefEqProofs (disch := first | assumption | omega) only [h1, h2, decide_eq_false e, ↓reduceIte, b_vr_within_14, b_vr_within_15, szS_0, szS_i, szS_r, szS_l, x_cons, x_goto, ob_some, kl_i, kl_r, kl_l, kl_n, push_n, push_s, pop_0, pop_i, pop_r, Int.reduceToNat, List.length_cons, List.length_nil, Nat.reduceAdd, Nat.reduceLeDiff, Nat.zero_add, true_and, nI_n0, nat_le, Nat.add_zero, rt_vr_within_0, rt_vr_within_1, rt_vr_within_b, x_goto, x_icgt, x_iclt, x_il0, x_il1, x_il2, x_iret, x_ldc, bI, Bool.false_eq_true, rt_vr_within_0]
      all_goals first | rfl | exact ⟨rfl, rfl⟩ | exact ⟨rfl, trivial⟩ | exact ⟨trivial, rfl⟩ | trivial
    · have e : a ≤ v ∧ v ≤ b := ⟨by rw [← lt_le]; exact h1, by rw [← lt_le]; exact h2⟩
      simp -implicitDefEqProofs (disch := first | assumption | omega) only [h1, h2, decide_eq_true e, ↓reduceIte, b_vr_within_15, szS_0, szS_i, szS_r, szS_l, x_cons, x_goto, ob_some, kl_i, kl_r, kl_l, kl_n, push_n, push_s, pop_0, pop_i, pop_r, Int.reduceToNat, List.length_cons, List.length_nil, Nat.reduceAdd, Nat.reduceLeDiff, Nat.zero_add, true_and, nI_n0, nat_le, Nat.add_zero, rt_vr_within_0, rt_vr_within_1, rt_vr_within_b, x_goto, x_icgt, x_iclt, x_il0, x_il1, x_il2, x_iret, x_ldc, bI, rt_vr_within_1]
      all_goals first | rfl | exact ⟨rfl, rfl⟩ | exact ⟨rfl, trivial⟩ | exact ⟨trivial, rfl⟩ | trivial
def bcE (x : Int32) : Int32 :=
  let sh (y : Int32) (n : Nat) : Int32 := (y.toUInt32 >>> ((nI n).toUInt32 &&& Int32.toUInt32 31)).toInt32
  let x1 := x - (sh x 1 &&& nI 1431655765)
  let x2 := (x1 &&& nI 858993459) + (sh x1 2 &&& nI 858993459)
  let x3 := (x2 + sh x2 4) &&& nI 252645135
  let x4 := x3 + sh x3 8
  let x5 := x4 + sh x4 16
  x5 &&& nI 63
theorem bcE_8 : ∀ s : Fin 8, bcE (nI s.1) = nI (cnt s.1.testBit 3) := by decide +kernel
theorem s_bitCount {s : Nat} (hs : s < 8) : callC (ev (d + 1)) ji_bitCount [.int (nI s)] h P = P (some (.int (nI (cnt s.testBit 3)))) h := by
  refine call_eq (in_ji_bitCount rfl ?_)
  have e := bcE_8 ⟨s, hs⟩
  rw [b_ji_bitCount_0]
  simp -implicitDefEqProofs (disch := first | assumption | omega) only [szS_0, szS_i, szS_r, szS_l, x_cons, x_goto, ob_some, kl_i, kl_r, kl_l, kl_n, push_n, push_s, pop_0, pop_i, pop_r, Int.reduceToNat, List.length_cons, List.length_nil, Nat.reduceAdd, Nat.reduceLeDiff, Nat.zero_add, true_and, nI_n0, nat_le, Nat.add_zero, rt_ji_bitCount, x_iadd, x_iand, x_il0, x_iret, x_is0, x_isub, x_iushr, x_ldc]
  refine ⟨?_, trivial⟩
  rw [← e]
  rfl
theorem cnt_hi {o : Nat} : ∀ {n m : Nat}, n ≤ m → o < 2 ^ n → cnt o.testBit m = cnt o.testBit n := by
  intro n m h ho
  induction m with
  | zero =>
    rw [Nat.le_zero.mp h]
  | succ m ih =>
    by_cases e : n = m + 1
    · rw [e]
    · have hb : o.testBit m = false := Nat.testBit_lt_two_pow (Nat.lt_of_lt_of_le ho (Nat.pow_le_pow_right (by decide) (by omega)))
      rw [cnt_s, hb, ih (by omega)]
      rfl
end JD
