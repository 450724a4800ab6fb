/-- the word that a place of a class file stands for -/
def wdO (c k kind t : Nat) : Jvm.Cond := match kind with
  | 0 => .fieldLink (cn c) k (cn (t / 100)) (ftab (t / 100) (t % 100)).2.1 (ftab (t / 100) (t % 100)).2.2.1
  | 1 => .methodLink (cn c) k (mN t)
  | 2 => .methodLinkNest (cn c) k (mN t) "VotedRiver"
  | 3 => .constant (cn c) k (nI t)
  | 4 => .constantLong (cn c) k (lN t)
  | 5 => .stringRef (cn c) k (stL.getD t ("", 0, "")).2.2
  | 6 => .classLink (cn c) k (cn t)
  | 7 => .methodLink (cn c) k objectInit
  | 8 => .methodLink (cn c) k arraycopyName
  | 9 => if t = 0 then .fieldLink (cn c) k "VotedRiver" "SETTING_MOST" "[I" else if t = 1 then .fieldLink (cn c) k "java/lang/String" "COMPACT_STRINGS" "Z" else .fieldLink (cn c) k "jdk/internal/util/Preconditions" "SIOOBE_FORMATTER" "Ljava/util/function/BiFunction;"
  | 10 => if t = 0 then .fieldLink (cn c) k "java/lang/String" "value" "[B" else .fieldLink (cn c) k "java/lang/String" "coder" "B"
  | _ => .classLink (cn c) k "[[I"
def wdB (c : Nat) (e : Nat × Nat × Nat × Nat) : Bool := decide (lw_tbl[e.2.2.2]? = some (wdO c e.1 e.2.1 e.2.2.1)) && (e.2.1 == 2 || e.2.1 == 5 || goodWord (wdO c e.1 e.2.1 e.2.2.1)) && (decide (e.2.1 = 5 → (stL.getD e.2.2.1 ("", 0, "")).1 = cn c ∧ (stL.getD e.2.2.1 ("", 0, "")).2.1 = e.1 ∧ e.2.2.1 < 25)) && decide ((e.2.1 = 1 ∨ e.2.1 = 2) → e.2.2.1 < 293) && decide (e.2.1 = 0 → e.2.2.1 / 100 < 13 ∧ e.2.2.1 % 100 < fn (e.2.2.1 / 100)) && decide ((e.2.1 = 9 → e.2.2.1 < 3) ∧ (e.2.1 = 10 → e.2.2.1 < 2) ∧ (e.2.1 = 3 → e.2.2.1 < 2147483648) ∧ (e.2.1 = 6 → e.2.2.1 < 21))
theorem rs_0_0 : (((rsL.getD 0 []).drop 0).take 25).all (wdB 0) = true := by decide +kernel
theorem rs_0_25 : (((rsL.getD 0 []).drop 25).take 25).all (wdB 0) = true := by decide +kernel
theorem rs_0_50 : (((rsL.getD 0 []).drop 50).take 25).all (wdB 0) = true := by decide +kernel
theorem rs_1_0 : (((rsL.getD 1 []).drop 0).take 25).all (wdB 1) = true := by decide +kernel
theorem rs_2_0 : (((rsL.getD 2 []).drop 0).take 25).all (wdB 2) = true := by decide +kernel
theorem rs_3_0 : (((rsL.getD 3 []).drop 0).take 25).all (wdB 3) = true := by decide +kernel
theorem rs_3_25 : (((rsL.getD 3 []).drop 25).take 25).all (wdB 3) = true := by decide +kernel
theorem rs_4_0 : (((rsL.getD 4 []).drop 0).take 25).all (wdB 4) = true := by decide +kernel
theorem rs_5_0 : (((rsL.getD 5 []).drop 0).take 25).all (wdB 5) = true := by decide +kernel
theorem rs_5_25 : (((rsL.getD 5 []).drop 25).take 25).all (wdB 5) = true := by decide +kernel
theorem rs_6_0 : (((rsL.getD 6 []).drop 0).take 25).all (wdB 6) = true := by decide +kernel
theorem rs_6_25 : (((rsL.getD 6 []).drop 25).take 25).all (wdB 6) = true := by decide +kernel
theorem rs_6_50 : (((rsL.getD 6 []).drop 50).take 25).all (wdB 6) = true := by decide +kernel
theorem rs_7_0 : (((rsL.getD 7 []).drop 0).take 25).all (wdB 7) = true := by decide +kernel
theorem rs_8_0 : (((rsL.getD 8 []).drop 0).take 25).all (wdB 8) = true := by decide +kernel
theorem rs_8_25 : (((rsL.getD 8 []).drop 25).take 25).all (wdB 8) = true := by decide +kernel
theorem rs_9_0 : (((rsL.getD 9 []).drop 0).take 25).all (wdB 9) = true := by decide +kernel
theorem rs_9_25 : (((rsL.getD 9 []).drop 25).take 25).all (wdB 9) = true := by decide +kernel
theorem rs_10_0 : (((rsL.getD 10 []).drop 0).take 25).all (wdB 10) = true := by decide +kernel
theorem rs_11_0 : (((rsL.getD 11 []).drop 0).take 25).all (wdB 11) = true := by decide +kernel
theorem rs_11_25 : (((rsL.getD 11 []).drop 25).take 25).all (wdB 11) = true := by decide +kernel
theorem rs_11_50 : (((rsL.getD 11 []).drop 50).take 25).all (wdB 11) = true := by decide +kernel
theorem rs_11_75 : (((rsL.getD 11 []).drop 75).take 25).all (wdB 11) = true := by decide +kernel
theorem rs_12_0 : (((rsL.getD 12 []).drop 0).take 25).all (wdB 12) = true := by decide +kernel
theorem rs_12_25 : (((rsL.getD 12 []).drop 25).take 25).all (wdB 12) = true := by decide +kernel
theorem rs_12_50 : (((rsL.getD 12 []).drop 50).take 25).all (wdB 12) = true := by decide +kernel
theorem rs_12_75 : (((rsL.getD 12 []).drop 75).take 25).all (wdB 12) = true := by decide +kernel
theorem rs_12_100 : (((rsL.getD 12 []).drop 100).take 25).all (wdB 12) = true := by decide +kernel
theorem rs_12_125 : (((rsL.getD 12 []).drop 125).take 25).all (wdB 12) = true := by decide +kernel
theorem rs_12_150 : (((rsL.getD 12 []).drop 150).take 25).all (wdB 12) = true := by decide +kernel
theorem rs_13_0 : (((rsL.getD 13 []).drop 0).take 25).all (wdB 13) = true := by decide +kernel
theorem rs_13_25 : (((rsL.getD 13 []).drop 25).take 25).all (wdB 13) = true := by decide +kernel
theorem rs_13_50 : (((rsL.getD 13 []).drop 50).take 25).all (wdB 13) = true := by decide +kernel
theorem rs_14_0 : (((rsL.getD 14 []).drop 0).take 25).all (wdB 14) = true := by decide +kernel
theorem rs_15_0 : (((rsL.getD 15 []).drop 0).take 25).all (wdB 15) = true := by decide +kernel
theorem rs_16_0 : (((rsL.getD 16 []).drop 0).take 25).all (wdB 16) = true := by decide +kernel
theorem rs_17_0 : (((rsL.getD 17 []).drop 0).take 25).all (wdB 17) = true := by decide +kernel
theorem rs_18_0 : (((rsL.getD 18 []).drop 0).take 25).all (wdB 18) = true := by decide +kernel
theorem rs_19_0 : (((rsL.getD 19 []).drop 0).take 25).all (wdB 19) = true := by decide +kernel
theorem rs_20_0 : (((rsL.getD 20 []).drop 0).take 25).all (wdB 20) = true := by decide +kernel
theorem rs_st {α : Type} {p : α → Bool} {l : List α} (n : Nat) (h1 : ((l.drop n).take 25).all p = true) (h2 : (l.drop (n + 25)).all p = true) : (l.drop n).all p = true := by
  have h : ((l.drop n).take 25 ++ (l.drop n).drop 25).all p = true := by rw [List.all_append, h1, List.drop_drop, h2]; rfl
  rwa [List.take_append_drop] at h
theorem rs_c0 : (rsL.getD 0 []).all (wdB 0) = true := by
  show ((rsL.getD 0 []).drop 0).all (wdB 0) = true
  refine rs_st 0 rs_0_0 ?_
  refine rs_st 25 rs_0_25 ?_
  refine rs_st 50 rs_0_50 ?_
  decide +kernel
theorem rs_c1 : (rsL.getD 1 []).all (wdB 1) = true := by
  show ((rsL.getD 1 []).drop 0).all (wdB 1) = true
  refine rs_st 0 rs_1_0 ?_
  decide +kernel
theorem rs_c2 : (rsL.getD 2 []).all (wdB 2) = true := by
  show ((rsL.getD 2 []).drop 0).all (wdB 2) = true
  refine rs_st 0 rs_2_0 ?_
  decide +kernel
theorem rs_c3 : (rsL.getD 3 []).all (wdB 3) = true := by
  show ((rsL.getD 3 []).drop 0).all (wdB 3) = true
  refine rs_st 0 rs_3_0 ?_
  refine rs_st 25 rs_3_25 ?_
  decide +kernel
theorem rs_c4 : (rsL.getD 4 []).all (wdB 4) = true := by
  show ((rsL.getD 4 []).drop 0).all (wdB 4) = true
  refine rs_st 0 rs_4_0 ?_
  decide +kernel
theorem rs_c5 : (rsL.getD 5 []).all (wdB 5) = true := by
  show ((rsL.getD 5 []).drop 0).all (wdB 5) = true
  refine rs_st 0 rs_5_0 ?_
  refine rs_st 25 rs_5_25 ?_
  decide +kernel
theorem rs_c6 : (rsL.getD 6 []).all (wdB 6) = true := by
  show ((rsL.getD 6 []).drop 0).all (wdB 6) = true
  refine rs_st 0 rs_6_0 ?_
  refine rs_st 25 rs_6_25 ?_
  refine rs_st 50 rs_6_50 ?_
  decide +kernel
theorem rs_c7 : (rsL.getD 7 []).all (wdB 7) = true := by
  show ((rsL.getD 7 []).drop 0).all (wdB 7) = true
  refine rs_st 0 rs_7_0 ?_
  decide +kernel
theorem rs_c8 : (rsL.getD 8 []).all (wdB 8) = true := by
  show ((rsL.getD 8 []).drop 0).all (wdB 8) = true
  refine rs_st 0 rs_8_0 ?_
  refine rs_st 25 rs_8_25 ?_
  decide +kernel
theorem rs_c9 : (rsL.getD 9 []).all (wdB 9) = true := by
  show ((rsL.getD 9 []).drop 0).all (wdB 9) = true
  refine rs_st 0 rs_9_0 ?_
  refine rs_st 25 rs_9_25 ?_
  decide +kernel
theorem rs_c10 : (rsL.getD 10 []).all (wdB 10) = true := by
  show ((rsL.getD 10 []).drop 0).all (wdB 10) = true
  refine rs_st 0 rs_10_0 ?_
  decide +kernel
theorem rs_c11 : (rsL.getD 11 []).all (wdB 11) = true := by
  show ((rsL.getD 11 []).drop 0).all (wdB 11) = true
  refine rs_st 0 rs_11_0 ?_
  refine rs_st 25 rs_11_25 ?_
  refine rs_st 50 rs_11_50 ?_
  refine rs_st 75 rs_11_75 ?_
  decide +kernel
theorem rs_c12 : (rsL.getD 12 []).all (wdB 12) = true := by
  show ((rsL.getD 12 []).drop 0).all (wdB 12) = true
  refine rs_st 0 rs_12_0 ?_
  refine rs_st 25 rs_12_25 ?_
  refine rs_st 50 rs_12_50 ?_
  refine rs_st 75 rs_12_75 ?_
  refine rs_st 100 rs_12_100 ?_
  refine rs_st 125 rs_12_125 ?_
  refine rs_st 150 rs_12_150 ?_
  decide +kernel
theorem rs_c13 : (rsL.getD 13 []).all (wdB 13) = true := by
  show ((rsL.getD 13 []).drop 0).all (wdB 13) = true
  refine rs_st 0 rs_13_0 ?_
  refine rs_st 25 rs_13_25 ?_
  refine rs_st 50 rs_13_50 ?_
  decide +kernel
theorem rs_c14 : (rsL.getD 14 []).all (wdB 14) = true := by
  show ((rsL.getD 14 []).drop 0).all (wdB 14) = true
  refine rs_st 0 rs_14_0 ?_
  decide +kernel
theorem rs_c15 : (rsL.getD 15 []).all (wdB 15) = true := by
  show ((rsL.getD 15 []).drop 0).all (wdB 15) = true
  refine rs_st 0 rs_15_0 ?_
  decide +kernel
theorem rs_c16 : (rsL.getD 16 []).all (wdB 16) = true := by
  show ((rsL.getD 16 []).drop 0).all (wdB 16) = true
  refine rs_st 0 rs_16_0 ?_
  decide +kernel
theorem rs_c17 : (rsL.getD 17 []).all (wdB 17) = true := by
  show ((rsL.getD 17 []).drop 0).all (wdB 17) = true
  refine rs_st 0 rs_17_0 ?_
  decide +kernel
theorem rs_c18 : (rsL.getD 18 []).all (wdB 18) = true := by
  show ((rsL.getD 18 []).drop 0).all (wdB 18) = true
  refine rs_st 0 rs_18_0 ?_
  decide +kernel
theorem rs_c19 : (rsL.getD 19 []).all (wdB 19) = true := by
  show ((rsL.getD 19 []).drop 0).all (wdB 19) = true
  refine rs_st 0 rs_19_0 ?_
  decide +kernel
theorem rs_c20 : (rsL.getD 20 []).all (wdB 20) = true := by
  show ((rsL.getD 20 []).drop 0).all (wdB 20) = true
  refine rs_st 0 rs_20_0 ?_
  decide +kernel
theorem rs_ck {c : Nat} (hc : c < 21) : (rsL.getD c []).all (wdB c) = true := by
  match c, hc with
  | 0, _ => exact rs_c0
  | 1, _ => exact rs_c1
  | 2, _ => exact rs_c2
  | 3, _ => exact rs_c3
  | 4, _ => exact rs_c4
  | 5, _ => exact rs_c5
  | 6, _ => exact rs_c6
  | 7, _ => exact rs_c7
  | 8, _ => exact rs_c8
  | 9, _ => exact rs_c9
  | 10, _ => exact rs_c10
  | 11, _ => exact rs_c11
  | 12, _ => exact rs_c12
  | 13, _ => exact rs_c13
  | 14, _ => exact rs_c14
  | 15, _ => exact rs_c15
  | 16, _ => exact rs_c16
  | 17, _ => exact rs_c17
  | 18, _ => exact rs_c18
  | 19, _ => exact rs_c19
  | 20, _ => exact rs_c20
  | n + 21, h => exact absurd h (by omega)
theorem rsL_len : rsL.length = 21 := by decide +kernel
theorem rs_wd {c k kind t p : Nat} (h : rsv c k = some (kind, t, p)) : wdB c (k, kind, t, p) = true := by
  unfold rsv at h
  cases hf : (rsL.getD c []).find? (fun q => q.1 == k) with
  | none => rw [hf] at h; cases h
  | some q =>
    rw [hf] at h
    have hm := List.mem_of_find?_eq_some hf
    have hk := List.find?_some hf
    simp only [beq_iff_eq] at hk
    obtain ⟨q1, q2⟩ := q
    cases h
    have hk' : q1 = k := hk
    subst hk'
    have hc : c < 21 := by
      rcases Nat.lt_or_ge c 21 with z | z
      · exact z
      · rw [List.getD_eq_getElem?_getD, List.getElem?_eq_none (by rw [rsL_len]; exact z)] at hm
        cases hm
    exact List.all_eq_true.mp (rs_ck hc) _ hm
theorem fe_ok {y pc : Nat} {i : Instr} {nx : Nat} (hy : y < 294) (h : fe y pc = some (i, nx)) : ∃ raw len, decode (mB y) pc = .ok (raw, len) ∧ nrm (mC y) pc raw = some i ∧ nx = pc + len ∧ lnB len raw = true := by
  unfold fe at h
  cases hf : (kc y).find? (fun q => q.1 == pc) with
  | none => rw [hf] at h; cases h
  | some q =>
    rw [hf] at h
    have hm := List.mem_of_find?_eq_some hf
    have hk := List.find?_some hf
    simp only [beq_iff_eq] at hk
    obtain ⟨q1, q2⟩ := q
    cases h
    have hk' : q1 = pc := hk
    subst hk'
    have hc := List.all_eq_true.mp (ck_all hy) _ hm
    unfold chI at hc
    cases hd : decode (mB y) q1 with
    | error e => simp only [hd] at hc; cases hc
    | ok v =>
      obtain ⟨raw, len⟩ := v
      simp only [hd, Bool.and_eq_true, decide_eq_true_eq] at hc
      exact ⟨raw, len, rfl, hc.1.1, hc.1.2.symm, hc.2⟩
