/-! an evening and the floods counted -/
theorem pu_x {w : Nat → Int32} {a b : Nat} {u v : Int32} (h : a ≠ b) : pu (pu w a u) b v = pu (pu w b v) a u := by
  funext j
  unfold pu
  by_cases e : j = b
  · rw [if_pos e, if_neg (by omega), if_pos e]
  · rw [if_neg e, if_neg e]
theorem agv_4 {w : Nat → Int32} {x : Int32} : agv w (pu w 4 x) := ⟨⟨pu_n (by decide), fun n f _ _ => pu_n (by omega)⟩, pu_n (by decide), fun n f _ _ _ _ _ _ => pu_n (by omega)⟩
theorem wi_4 {w : Nat → Int32} (h : WI w) {x : Int32} : WI (pu w 4 x) := WI_pu_o h (by omega)
theorem tot_4 {V : LW} {w : Nat → Int32} (h : WI w) {x : Int32} {f a : Nat} (hf : f < 16) (ha : a < am w f) : tot V (pu w 4 x) f a = tot V w f a := by
  unfold tot
  rw [vfor_c h agv_4 hf ha, fd_pu_n (by omega)]
theorem mst_4 {V : LW} {w : Nat → Int32} (h : WI w) {x : Int32} {f : Nat} (hf : f < 16) : mst V (pu w 4 x) f = mst V w f := by
  have e : am (pu w 4 x) f = am w f := stc_am agv_4.1 hf
  unfold mst
  rw [e]
  exact mxT_c _ fun a ha => tot_4 h hf ha
theorem wset_4 {V : LW} {w : Nat → Int32} (h : WI w) {x : Int32} {f : Nat} (hf : f < 16) : wset V (pu w 4 x) f = wset V w f := by
  have e : am (pu w 4 x) f = am w f := stc_am agv_4.1 hf
  unfold wset
  rw [mst_4 h hf, e]
  split
  · rfl
  · unfold winS
    rw [mxT_c (t := tot V w f) (t' := tot V (pu w 4 x) f) _ fun a ha => tot_4 h hf ha]
    exact bset_c _ fun a ha => by rw [tot_4 h hf ha]
theorem flq_4 {V : LW} {w : Nat → Int32} (h : WI w) {x : Int32} {f : Nat} (hf : f < 16) : flq V (pu w 4 x) f = flq V w f := by
  unfold flq
  rw [wset_4 h hf]
theorem dfq_4 {V : LW} {w : Nat → Int32} (h : WI w) {x : Int32} {f s t : Nat} (hf : f < 16) (ht : t < 16) : dfq V (pu w 4 x) f s t = dfq V w f s t := by
  have e : am (pu w 4 x) f = am w f := stc_am agv_4.1 hf
  have e2 : vtd V (pu w 4 x) f t = vtd V w f t := by
    unfold vtd
    rw [e]
    exact bset_c _ fun a ha => by rw [vt_c h agv_4 ht hf ha]
  unfold dfq
  rw [e2, fd_pu_n (by omega)]
theorem df1_4 {r : Nat → Int32} {x : Int32} {t : Nat} : df1 (pu r 4 x) t = pu (df1 r t) 4 x := by
  unfold df1
  rw [fd_pu_n (by omega), fd_pu_n (by omega)]
  split
  · rw [pu_x (by omega)]
  · rw [pu_x (a := 4) (by omega), pu_x (a := 4) (by omega)]
theorem dfR_4 {V : LW} {w : Nat → Int32} (h : WI w) {x : Int32} {f s : Nat} (hf : f < 16) : ∀ n, n ≤ 16 → dfR V (pu w 4 x) f s n = pu (dfR V w f s n) 4 x
  | 0, _ => rfl
  | n + 1, hn => by
    unfold dfR
    rw [dfq_4 h hf (by omega), dfR_4 h hf n (by omega), df1_4]
    split <;> rfl
theorem opR_4 {V : LW} {w : Nat → Int32} (h : WI w) {x : Int32} {f : Nat} (hf : f < 16) : opR V (pu w 4 x) f = pu (opR V w f) 4 x := by
  have h0 := wi_n h
  have e0 : nn (pu w 4 x) = nn w := nn_pu (by decide)
  have ew : wonN V (pu w 4 x) f = wonN V w f := by
    unfold wonN
    rw [flq_4 h hf, wset_4 h hf, fd_pu_n (by omega), fd_pu_n (by omega)]
  unfold opR
  rw [wset_4 h hf, e0, dfR_4 h hf _ (by omega), ew]
  split
  · rfl
  · rw [pu_x (a := 4) (by omega), pu_x (a := 4) (by omega)]
theorem bz_4 {r : Nat → Int32} {x : Int32} {f : Nat} : ∀ n, bz (pu r 4 x) f n = pu (bz r f n) 4 x
  | 0 => rfl
  | n + 1 => by
    unfold bz
    rw [bz_4 n, pu_x (a := 4) (by omega)]
theorem bkR_4 {r : Nat → Int32} {x : Int32} {f m : Nat} : bkR (pu r 4 x) f m = pu (bkR r f m) 4 x := by
  have e : vN (pu r 4 x) 2 = vN r 2 := congrArg ix (pu_n (by decide))
  unfold bkR bk1
  rw [e, pu_n (show 1 ≠ 4 by decide), pu_n (show 10 + 20 * f + 5 ≠ 4 by omega)]
  split
  · rfl
  · rw [pu_x (a := 4) (by omega), pu_x (a := 4) (by omega), pu_x (a := 4) (by omega), pu_x (a := 4) (by omega), pu_x (a := 4) (by omega)]
theorem evR_4 {V : LW} {w : Nat → Int32} (h : WI w) {x : Int32} {f : Nat} (hf : f < 16) : evR V (pu w 4 x) f = pu (evR V w f) 4 x := by
  unfold evR
  rw [opR_4 h hf, bz_4, mst_4 h hf, bkR_4]
/-- an evening, the flood counted at once -/
def evX (V : LW) (w : Nat → Int32) (f : Nat) : Nat → Int32 := pu (evR V w f) 4 (w 4 + nI (if flq V w f = true then 1 else 0))
def evXS (V : LW) (w : Nat → Int32) : Nat → Nat → Int32
  | 0 => w
  | f + 1 => if fd w f 0 = 0 then evX V (evXS V w f) f else evXS V w f
theorem evXS_e {V : LW} {w : Nat → Int32} (h : WI w) : ∀ n, n ≤ nn w → evXS V w n = pu (evS V w n) 4 (w 4 + nI (flc V w n))
  | 0, _ => by
    show w = pu w 4 (w 4 + 0)
    rw [Int32.add_zero]
    funext j
    unfold pu
    split
    next e => rw [e]
    next e => rfl
  | n + 1, hn => by
    have h1 := evS_wi h (V := V) n (by omega)
    have h0 := wi_n h
    unfold evXS evS
    rw [evXS_e h n (by omega)]
    have ec : flc V w (n + 1) = flc V w n + (if fd w n 0 = 0 ∧ flq V (evS V w n) n = true then 1 else 0) := rfl
    rw [ec]
    by_cases e : fd w n 0 = 0
    · rw [if_pos e, if_pos e]
      unfold evX
      rw [evR_4 h1.1 (by omega), flq_4 h1.1 (by omega), pu_s, pu_pu]
      by_cases e2 : flq V (evS V w n) n = true
      · rw [if_pos e2, if_pos ⟨e, e2⟩, Int32.add_assoc, nI_add]
      · rw [if_neg e2, if_neg fun h => e2 h.2, Int32.add_assoc, nI_add]
    · rw [if_neg e, if_neg e, if_neg fun h => e h.1]
      rfl
theorem ev4_x {V : LW} {w : Nat → Int32} (h : WI w) : ev4 V w = evXS V w (nn w) := by
  rw [evXS_e h _ (Nat.le_refl _)]
  unfold ev4
  rw [evS_o h (by decide) (by omega) (fun f hf => ⟨fun a ha => by omega, by omega, by omega⟩) _ (Nat.le_refl _)]
theorem evX_wi {V : LW} {w : Nat → Int32} (h : WI w) {f : Nat} (hf : f < nn w) (h0 : fd w f 0 = 0) : WI (evX V w f) := wi_4 (evR_wi h hf h0)
theorem evX_stc {V : LW} {w : Nat → Int32} (h : WI w) {f : Nat} : stc w (evX V w f) := stc_t (evR_stc h) agv_4.1
