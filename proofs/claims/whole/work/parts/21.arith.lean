/-! numbers of the programs -/
theorem nI_mul (a b : Nat) : nI a * nI b = nI (a * b) := (Int32.ofNat_mul a b).symm
theorem nI_sub {a b : Nat} (h : b ≤ a) : nI a - nI b = nI (a - b) := by
  have e : nI a = nI (a - b) + nI b := by rw [nI_add, Nat.sub_add_cancel h]
  rw [e, Int32.add_sub_cancel]
theorem nI_n0 : (0 : Int32) = nI 0 := rfl
theorem lt_le {x z : Int32} : (¬ x < z) = (z ≤ x) := by
  rw [Int32.lt_iff_toInt_lt, Int32.le_iff_toInt_le]
  exact propext Int.not_lt
theorem up2_o {α : Type} {f : Nat → Nat → α} {a b k : Nat} {v : α} (h : b ≠ a) : up2 f a k v b = f b := by
  funext j
  exact if_neg fun e => h e.1
theorem up2_s {α : Type} {f : Nat → Nat → α} {a k : Nat} {v : α} : up2 f a k v a k = v := if_pos ⟨rfl, rfl⟩
theorem up2_n {α : Type} {f : Nat → Nat → α} {a k j : Nat} {v : α} (h : j ≠ k) : up2 f a k v a j = f a j := if_neg fun e => h e.2
/-- a number as a place -/
def ix (x : Int32) : Nat := x.toNatClampNeg
theorem ix_nI {k : Nat} (h : k < 2147483648) : ix (nI k) = k := nI_clamp h
theorem nat_le {a b : Nat} (h : a ≤ b) : (a ≤ b) = True := eq_true h
theorem nI_I {a : Nat} (h : a < 2147483648) : (nI a).toInt = a := nI_toInt h
theorem nI_ltE {a b : Nat} (ha : a < 2147483648) (hb : b < 2147483648) : (nI a < nI b) = (a < b) := by
  rw [Int32.lt_iff_toInt_lt, nI_I ha, nI_I hb]
  exact propext Int.ofNat_lt
theorem nI_leE {a b : Nat} (ha : a < 2147483648) (hb : b < 2147483648) : (nI a ≤ nI b) = (a ≤ b) := by
  rw [Int32.le_iff_toInt_le, nI_I ha, nI_I hb]
  exact propext Int.ofNat_le
theorem nI_eqE {a b : Nat} (ha : a < 2147483648) (hb : b < 2147483648) : (nI a = nI b) = (a = b) :=
  propext ⟨fun h => by
    have := congrArg Int32.toInt h
    rw [nI_I ha, nI_I hb] at this
    omega, fun h => by rw [h]⟩
theorem ltE {x z : Int32} : (x < z) = (x.toInt < z.toInt) := propext Int32.lt_iff_toInt_lt
theorem leE {x z : Int32} : (x ≤ z) = (x.toInt ≤ z.toInt) := propext Int32.le_iff_toInt_le
theorem eqE {x z : Int32} : (x = z) = (x.toInt = z.toInt) := propext ⟨fun h => by rw [h], Int32.toInt_inj.mp⟩
/-- a truth as the machine has it -/
def bI (b : Bool) : Int32 := if b then nI 1 else nI 0
theorem bI_0 {b : Bool} : (bI b = nI 0) = (b = false) := by
  cases b <;> exact propext ⟨fun e => by first | rfl | exact absurd e (by decide), fun e => by first | rfl | exact absurd e (by decide)⟩
theorem bI_1 {b : Bool} : (bI b = nI 1) = (b = true) := by
  cases b <;> exact propext ⟨fun e => by first | rfl | exact absurd e (by decide), fun e => by first | rfl | exact absurd e (by decide)⟩
theorem bI_dt {p : Prop} [Decidable p] (h : p) : bI (decide p) = nI 1 := by
  rw [decide_eq_true h]
  rfl
theorem bI_df {p : Prop} [Decidable p] (h : ¬ p) : bI (decide p) = nI 0 := by
  rw [decide_eq_false h]
  rfl
/-- an Int32 that is a number below n -/
theorem nI_is {x : Int32} {n : Nat} (h0 : nI 0 ≤ x) (h1 : x < nI n) (hn : n < 2147483648) : ∃ k, k < n ∧ x = nI k := by
  rw [leE, nI_I (by decide)] at h0
  rw [ltE, nI_I hn] at h1
  refine ⟨x.toInt.toNat, by omega, ?_⟩
  rw [eqE, nI_I (by omega)]
  omega
theorem rt_co_isCheapestTo_b {b : Bool} : retI co_isCheapestTo (bI b) = True := by
  cases b
  · exact rt_co_isCheapestTo_0
  · exact rt_co_isCheapestTo_1
theorem rt_co_findBestDig_b {b : Bool} : retI co_findBestDig (bI b) = True := by
  cases b
  · exact rt_co_findBestDig_0
  · exact rt_co_findBestDig_1
theorem rt_co_canWeigh_b {b : Bool} : retI co_canWeigh (bI b) = True := by
  cases b
  · exact rt_co_canWeigh_0
  · exact rt_co_canWeigh_1
theorem rt_de_hasNode_b {b : Bool} : retI de_hasNode (bI b) = True := by
  cases b
  · exact rt_de_hasNode_0
  · exact rt_de_hasNode_1
theorem rt_de_isFork_b {b : Bool} : retI de_isFork (bI b) = True := by
  cases b
  · exact rt_de_isFork_0
  · exact rt_de_isFork_1
theorem rt_de_isTown_b {b : Bool} : retI de_isTown (bI b) = True := by
  cases b
  · exact rt_de_isTown_0
  · exact rt_de_isTown_1
theorem rt_de_hasArm_b {b : Bool} : retI de_hasArm (bI b) = True := by
  cases b
  · exact rt_de_hasArm_0
  · exact rt_de_hasArm_1
theorem rt_pa_readDelta_b {b : Bool} : retI pa_readDelta (bI b) = True := by
  cases b
  · exact rt_pa_readDelta_0
  · exact rt_pa_readDelta_1
theorem rt_pa_allThere_b {b : Bool} : retI pa_allThere (bI b) = True := by
  cases b
  · exact rt_pa_allThere_0
  · exact rt_pa_allThere_1
theorem rt_pa_readNode_b {b : Bool} : retI pa_readNode (bI b) = True := by
  cases b
  · exact rt_pa_readNode_0
  · exact rt_pa_readNode_1
theorem rt_pa_readFork_b {b : Bool} : retI pa_readFork (bI b) = True := by
  cases b
  · exact rt_pa_readFork_0
  · exact rt_pa_readFork_1
theorem rt_pa_readTown_b {b : Bool} : retI pa_readTown (bI b) = True := by
  cases b
  · exact rt_pa_readTown_0
  · exact rt_pa_readTown_1
theorem rt_pa_readTarget_b {b : Bool} : retI pa_readTarget (bI b) = True := by
  cases b
  · exact rt_pa_readTarget_0
  · exact rt_pa_readTarget_1
theorem rt_pa_readLaw_b {b : Bool} : retI pa_readLaw (bI b) = True := by
  cases b
  · exact rt_pa_readLaw_0
  · exact rt_pa_readLaw_1
theorem rt_pa_beginLine_b {b : Bool} : retI pa_beginLine (bI b) = True := by
  cases b
  · exact rt_pa_beginLine_0
  · exact rt_pa_beginLine_1
theorem rt_pa_readChoice_b {b : Bool} : retI pa_readChoice (bI b) = True := by
  cases b
  · exact rt_pa_readChoice_0
  · exact rt_pa_readChoice_1
theorem rt_pa_readCondition_b {b : Bool} : retI pa_readCondition (bI b) = True := by
  cases b
  · exact rt_pa_readCondition_0
  · exact rt_pa_readCondition_1
theorem rt_pa_readSum_b {b : Bool} : retI pa_readSum (bI b) = True := by
  cases b
  · exact rt_pa_readSum_0
  · exact rt_pa_readSum_1
theorem rt_pa_readUnit_b {b : Bool} : retI pa_readUnit (bI b) = True := by
  cases b
  · exact rt_pa_readUnit_0
  · exact rt_pa_readUnit_1
theorem rt_ps_goBack_b {b : Bool} : retI ps_goBack (bI b) = True := by
  cases b
  · exact rt_ps_goBack_0
  · exact rt_ps_goBack_1
theorem rt_re_refuse_b {b : Bool} : retI re_refuse (bI b) = True := by
  cases b
  · exact rt_re_refuse_0
  · exact rt_re_refuse_1
theorem rt_re_isWordAt_b {b : Bool} : retI re_isWordAt (bI b) = True := by
  cases b
  · exact rt_re_isWordAt_0
  · exact rt_re_isWordAt_1
theorem rt_re_isLetter_b {b : Bool} : retI re_isLetter (bI b) = True := by
  cases b
  · exact rt_re_isLetter_0
  · exact rt_re_isLetter_1
theorem rt_re_isDigit_b {b : Bool} : retI re_isDigit (bI b) = True := by
  cases b
  · exact rt_re_isDigit_0
  · exact rt_re_isDigit_1
theorem rt_re_isWord_b {b : Bool} : retI re_isWord (bI b) = True := by
  cases b
  · exact rt_re_isWord_0
  · exact rt_re_isWord_1
theorem rt_re_isSign_b {b : Bool} : retI re_isSign (bI b) = True := by
  cases b
  · exact rt_re_isSign_0
  · exact rt_re_isSign_1
theorem rt_re_takeWord_b {b : Bool} : retI re_takeWord (bI b) = True := by
  cases b
  · exact rt_re_takeWord_0
  · exact rt_re_takeWord_1
theorem rt_re_takeSign_b {b : Bool} : retI re_takeSign (bI b) = True := by
  cases b
  · exact rt_re_takeSign_0
  · exact rt_re_takeSign_1
theorem rt_re_findNumber_b {b : Bool} : retI re_findNumber (bI b) = True := by
  cases b
  · exact rt_re_findNumber_0
  · exact rt_re_findNumber_1
theorem rt_th_isSame_b {b : Bool} : retI th_isSame (bI b) = True := by
  cases b
  · exact rt_th_isSame_0
  · exact rt_th_isSame_1
theorem rt_vr_set_b {b : Bool} : retI vr_set (bI b) = True := by
  cases b
  · exact rt_vr_set_0
  · exact rt_vr_set_1
theorem rt_vr_town_b {b : Bool} : retI vr_town (bI b) = True := by
  cases b
  · exact rt_vr_town_0
  · exact rt_vr_town_1
theorem rt_vr_townMayHave_b {b : Bool} : retI vr_townMayHave (bI b) = True := by
  cases b
  · exact rt_vr_townMayHave_0
  · exact rt_vr_townMayHave_1
theorem rt_vr_buy_b {b : Bool} : retI vr_buy (bI b) = True := by
  cases b
  · exact rt_vr_buy_0
  · exact rt_vr_buy_1
theorem rt_vr_dig_b {b : Bool} : retI vr_dig (bI b) = True := by
  cases b
  · exact rt_vr_dig_0
  · exact rt_vr_dig_1
theorem rt_vr_end_b {b : Bool} : retI vr_end (bI b) = True := by
  cases b
  · exact rt_vr_end_0
  · exact rt_vr_end_1
theorem rt_vr_asksFork_b {b : Bool} : retI vr_asksFork (bI b) = True := by
  cases b
  · exact rt_vr_asksFork_0
  · exact rt_vr_asksFork_1
theorem rt_vr_undo_b {b : Bool} : retI vr_undo (bI b) = True := by
  cases b
  · exact rt_vr_undo_0
  · exact rt_vr_undo_1
theorem rt_vr_image_b {b : Bool} : retI vr_image (bI b) = True := by
  cases b
  · exact rt_vr_image_0
  · exact rt_vr_image_1
theorem rt_vr_within_b {b : Bool} : retI vr_within (bI b) = True := by
  cases b
  · exact rt_vr_within_0
  · exact rt_vr_within_1
theorem rt_vr_holds_b {b : Bool} : retI vr_holds (bI b) = True := by
  cases b
  · exact rt_vr_holds_0
  · exact rt_vr_holds_1
theorem rt_mo_isIn_b {b : Bool} : retI mo_isIn (bI b) = True := by
  cases b
  · exact rt_mo_isIn_0
  · exact rt_mo_isIn_1
theorem rt_mo_isNode_b {b : Bool} : retI mo_isNode (bI b) = True := by
  cases b
  · exact rt_mo_isNode_0
  · exact rt_mo_isNode_1
theorem rt_mo_isFork_b {b : Bool} : retI mo_isFork (bI b) = True := by
  cases b
  · exact rt_mo_isFork_0
  · exact rt_mo_isFork_1
theorem rt_mo_isTown_b {b : Bool} : retI mo_isTown (bI b) = True := by
  cases b
  · exact rt_mo_isTown_0
  · exact rt_mo_isTown_1
theorem rt_mo_isArm_b {b : Bool} : retI mo_isArm (bI b) = True := by
  cases b
  · exact rt_mo_isArm_0
  · exact rt_mo_isArm_1
theorem rt_mo_set_b {b : Bool} : retI mo_set (bI b) = True := by
  cases b
  · exact rt_mo_set_0
  · exact rt_mo_set_1
theorem rt_mo_town_b {b : Bool} : retI mo_town (bI b) = True := by
  cases b
  · exact rt_mo_town_0
  · exact rt_mo_town_1
theorem rt_mo_buy_b {b : Bool} : retI mo_buy (bI b) = True := by
  cases b
  · exact rt_mo_buy_0
  · exact rt_mo_buy_1
theorem rt_mo_dig_b {b : Bool} : retI mo_dig (bI b) = True := by
  cases b
  · exact rt_mo_dig_0
  · exact rt_mo_dig_1
theorem rt_mo_end_b {b : Bool} : retI mo_end (bI b) = True := by
  cases b
  · exact rt_mo_end_0
  · exact rt_mo_end_1
theorem rt_mo_isLetter_b {b : Bool} : retI mo_isLetter (bI b) = True := by
  cases b
  · exact rt_mo_isLetter_0
  · exact rt_mo_isLetter_1
theorem rt_mo_isDigit_b {b : Bool} : retI mo_isDigit (bI b) = True := by
  cases b
  · exact rt_mo_isDigit_0
  · exact rt_mo_isDigit_1
theorem rt_mo_is_b {b : Bool} : retI mo_is (bI b) = True := by
  cases b
  · exact rt_mo_is_0
  · exact rt_mo_is_1
theorem rt_mo_bad_b {b : Bool} : retI mo_bad (bI b) = True := by
  cases b
  · exact rt_mo_bad_0
  · exact rt_mo_bad_1
theorem rt_mo_need_b {b : Bool} : retI mo_need (bI b) = True := by
  cases b
  · exact rt_mo_need_0
  · exact rt_mo_need_1
theorem rt_mo_opens_b {b : Bool} : retI mo_opens (bI b) = True := by
  cases b
  · exact rt_mo_opens_0
  · exact rt_mo_opens_1
theorem rt_mo_sumUp_b {b : Bool} : retI mo_sumUp (bI b) = True := by
  cases b
  · exact rt_mo_sumUp_0
  · exact rt_mo_sumUp_1
theorem rt_mo_product_b {b : Bool} : retI mo_product (bI b) = True := by
  cases b
  · exact rt_mo_product_0
  · exact rt_mo_product_1
theorem rt_mo_unit_b {b : Bool} : retI mo_unit (bI b) = True := by
  cases b
  · exact rt_mo_unit_0
  · exact rt_mo_unit_1
theorem rt_mo_any_b {b : Bool} : retI mo_any (bI b) = True := by
  cases b
  · exact rt_mo_any_0
  · exact rt_mo_any_1
theorem rt_mo_every_b {b : Bool} : retI mo_every (bI b) = True := by
  cases b
  · exact rt_mo_every_0
  · exact rt_mo_every_1
theorem rt_mo_oneTest_b {b : Bool} : retI mo_oneTest (bI b) = True := by
  cases b
  · exact rt_mo_oneTest_0
  · exact rt_mo_oneTest_1
theorem rt_mo_aLine_b {b : Bool} : retI mo_aLine (bI b) = True := by
  cases b
  · exact rt_mo_aLine_0
  · exact rt_mo_aLine_1
theorem rt_mo_readsLaw_b {b : Bool} : retI mo_readsLaw (bI b) = True := by
  cases b
  · exact rt_mo_readsLaw_0
  · exact rt_mo_readsLaw_1
theorem rt_mo_number_b {b : Bool} : retI mo_number (bI b) = True := by
  cases b
  · exact rt_mo_number_0
  · exact rt_mo_number_1
theorem rt_mo_anArm_b {b : Bool} : retI mo_anArm (bI b) = True := by
  cases b
  · exact rt_mo_anArm_0
  · exact rt_mo_anArm_1
theorem rt_mo_aFork_b {b : Bool} : retI mo_aFork (bI b) = True := by
  cases b
  · exact rt_mo_aFork_0
  · exact rt_mo_aFork_1
theorem rt_mo_aTown_b {b : Bool} : retI mo_aTown (bI b) = True := by
  cases b
  · exact rt_mo_aTown_0
  · exact rt_mo_aTown_1
theorem rt_mo_aNode_b {b : Bool} : retI mo_aNode (bI b) = True := by
  cases b
  · exact rt_mo_aNode_0
  · exact rt_mo_aNode_1
theorem rt_mo_readsDelta_b {b : Bool} : retI mo_readsDelta (bI b) = True := by
  cases b
  · exact rt_mo_readsDelta_0
  · exact rt_mo_readsDelta_1
theorem rt_mo_isAlone_b {b : Bool} : retI mo_isAlone (bI b) = True := by
  cases b
  · exact rt_mo_isAlone_0
  · exact rt_mo_isAlone_1
theorem rt_mo_isOne_b {b : Bool} : retI mo_isOne (bI b) = True := by
  cases b
  · exact rt_mo_isOne_0
  · exact rt_mo_isOne_1
theorem rt_mo_isFlooded_b {b : Bool} : retI mo_isFlooded (bI b) = True := by
  cases b
  · exact rt_mo_isFlooded_0
  · exact rt_mo_isFlooded_1
theorem rt_mo_undo_b {b : Bool} : retI mo_undo (bI b) = True := by
  cases b
  · exact rt_mo_undo_0
  · exact rt_mo_undo_1
theorem rt_mo_isAlike_b {b : Bool} : retI mo_isAlike (bI b) = True := by
  cases b
  · exact rt_mo_isAlike_0
  · exact rt_mo_isAlike_1
theorem rt_mo_isWetThen_b {b : Bool} : retI mo_isWetThen (bI b) = True := by
  cases b
  · exact rt_mo_isWetThen_0
  · exact rt_mo_isWetThen_1
theorem rt_mo_isWetBy_b {b : Bool} : retI mo_isWetBy (bI b) = True := by
  cases b
  · exact rt_mo_isWetBy_0
  · exact rt_mo_isWetBy_1
theorem rt_mo_opensFor_b {b : Bool} : retI mo_opensFor (bI b) = True := by
  cases b
  · exact rt_mo_opensFor_0
  · exact rt_mo_opensFor_1
theorem rt_mo_image_b {b : Bool} : retI mo_image (bI b) = True := by
  cases b
  · exact rt_mo_image_0
  · exact rt_mo_image_1
theorem rt_js_isLatin1_b {b : Bool} : retI js_isLatin1 (bI b) = True := by
  cases b
  · exact rt_js_isLatin1_0
  · exact rt_js_isLatin1_1
theorem rt_jl_canEncode_b {b : Bool} : retI jl_canEncode (bI b) = True := by
  cases b
  · exact rt_jl_canEncode_0
  · exact rt_jl_canEncode_1
