theorem mcM_cst {N : Nat → Nat} : ∀ d, mcM N 0 d = cst N d
  | 0 => rfl
  | d + 1 => by
    show bstP N (d + 1) (decide (d + 1 = 0)) (swD N (d + 1) (mcM N 0 d)) = bstP N (d + 1) false (swD N (d + 1) (cst N d))
    rw [decide_eq_false (by omega), mcM_cst d]
theorem mlM_ld {N : Nat → Nat} {d s : Nat} (h : 1 ≤ d) : mlM N 0 d s = ldP N d s := by
  unfold mlM ldP maM aft
  rw [if_neg (by omega), decide_eq_false (by omega), mcM_cst]
/-- with a load that must be with z days left -/
theorem mcM_lo {N : Nat → Nat} {z : Nat} : ∀ d, d < z → mcM N z d = cst N d
  | 0, _ => rfl
  | d + 1, h => by
    show bstP N (d + 1) (decide (d + 1 = z)) (swD N (d + 1) (mcM N z d)) = bstP N (d + 1) false (swD N (d + 1) (cst N d))
    rw [decide_eq_false (by omega), mcM_lo d (by omega)]
theorem mcM_pr {N : Nat → Nat} {z : Nat} (h1 : 1 ≤ z) : ∀ i, mcM N z (z + i) = prC N z (i + 1)
  | 0 => by
    obtain ⟨e, rfl⟩ : ∃ e, z = e + 1 := ⟨z - 1, by omega⟩
    show bstP N (e + 1) (decide (e + 1 = e + 1)) (swD N (e + 1) (mcM N (e + 1) e)) = bstP N (e + 1) (decide (0 = 0)) (swD N (e + 1) (cst N (e + 1 - 1)))
    rw [mcM_lo e (by omega), decide_eq_true rfl, decide_eq_true rfl]
    rfl
  | i + 1 => by
    show bstP N (z + i + 1) (decide (z + i + 1 = z)) (swD N (z + i + 1) (mcM N z (z + i))) = bstP N (z + (i + 1)) (decide (i + 1 = 0)) (swD N (z + (i + 1)) (prC N z (i + 1)))
    rw [mcM_pr h1 i, decide_eq_false (by omega), decide_eq_false (by omega)]
    rfl
theorem c_X8_loadBy {l : Launch} {Z : zP} {G : zG} {V : zV} {y : Nat} (hM : ModelAt Z G y) {h : Nat} (hh : h < 8) {N : Nat → Nat} (hR : MH V y h N) (hB : HouseB N) (hN : HOK N) {r κ b m : Nat} {rf : Nat → Bool} (hr : r < 10) (hR5 : MRule V y r κ b m rf) {d s : Nat} (h1 : 1 ≤ d) (h6 : d ≤ 6) (hs : s < 5 ^ N 4) (hK : κ = 4 → V.2.2.1 (y + 47 + 1 + d) s = nI (ldP N d s)) : CT l Z yX8_loadBy cX8_loadBy 5 (some .int) 3 0 0 [.ref y, .int (nI h), .int (nI d), .int (nI s), .int (nI r)] G V (pI (nI (ruL N κ b m rf d s)) G V) := by
  refine CT.of (by decide +kernel) (Nat.le_of_ble_eq_true rfl) (fun X hX cx => ?_)
  subst hX
  show Wm Z X 5 G V 0 0 _ 0 [(0, some (.ref y)), (1, some (.int (nI h))), (2, some (.int (nI d))), (3, some (.int (nI s))), (4, some (.int (nI r)))] []
  have h0 := hM.1
  have b4 := hB.1
  have n125 := st125 b4
  have κ1 := hR5.2.1
  refine x_aload_n (pc := 0) cx (dA ddX8_loadBy (i := 0) rfl) rfl ?_
  refine gX8_28 (pc := 1) (rfA hM.2.2.2.2.2.2.1.1) cx (dA ddX8_loadBy (i := 1) rfl) h0 ?_
  refine x_iload (pc := 4) cx (dA ddX8_loadBy (i := 2) rfl) rfl ?_
  refine x_iaload (pc := 6) cx (dA ddX8_loadBy (i := 3) rfl) hM.2.2.2.2.2.2.1.2 hr (by decide) ?_
  rw [hR5.1]
  refine x_iconst (pc := 7) (v := nI 4) cx (dA ddX8_loadBy (i := 4) rfl) (by decide) ?_
  refine x_icmp_ne (pc := 8) (tgt := 20) cx (dA ddX8_loadBy (i := 5) rfl) (by decide) (fun c8 => ?_) (fun c8 => ?_)
  · have k4 : κ ≠ 4 := fun e => c8 (by rw [e])
    have e9 : ruL N κ b m rf d s = if fillsP κ b m rf d s (sumP N s 0) = true then fillP N s else 0 := if_neg k4
    refine x_aload_n (pc := 20) cx (dA ddX8_loadBy (i := 13) rfl) rfl ?_
    refine x_iload_n (pc := 21) cx (dA ddX8_loadBy (i := 14) rfl) rfl ?_
    refine x_iload_n (pc := 22) cx (dA ddX8_loadBy (i := 15) rfl) rfl ?_
    refine x_iload (pc := 23) cx (dA ddX8_loadBy (i := 16) rfl) rfl ?_
    refine x_aload_n (pc := 25) cx (dA ddX8_loadBy (i := 17) rfl) rfl ?_
    refine x_iload_n (pc := 26) cx (dA ddX8_loadBy (i := 18) rfl) rfl ?_
    refine x_iload_n (pc := 27) cx (dA ddX8_loadBy (i := 19) rfl) rfl ?_
    refine x_iconst (pc := 28) (v := nI 0) cx (dA ddX8_loadBy (i := 20) rfl) (by decide) ?_
    refine x_V3 (pc := 29) mX8_236 h0 (c_X8_sum hM hh hR hB (s := s) (w := 0) (by omega) (by omega)) cx (dA ddX8_loadBy (i := 21) rfl) (kI ?_)
    have rl := sumP_lt hB (s := s) (w := 0) (by omega)
    refine x_V4 (pc := 32) mX8_267 h0 (c_X8_fillsBy hM hr hR5 k4 (by omega) (by omega) (by omega)) cx (dA ddX8_loadBy (i := 22) rfl) (kI ?_)
    refine x_if_eq (pc := 35) (tgt := 47) cx (dA ddX8_loadBy (i := 23) rfl) (by decide) (fun c35 => ?_) (fun c35 => ?_)
    · have c35 := b2i_eq c35
      refine x_iconst (pc := 47) (v := nI 0) cx (dA ddX8_loadBy (i := 29) rfl) (by decide) ?_
      refine x_ireturn (pc := 48) cx (dA ddX8_loadBy (i := 30) rfl) (by first | exact Nat.le_of_ble_eq_true rfl | omega) (by first | exact Nat.le_of_ble_eq_true rfl | omega) ?_
      refine rI ?_
      rw [e9, if_neg c35]
    · have c35 := b2i_ne c35
      refine x_aload_n (pc := 38) cx (dA ddX8_loadBy (i := 24) rfl) rfl ?_
      refine x_iload_n (pc := 39) cx (dA ddX8_loadBy (i := 25) rfl) rfl ?_
      refine x_iload_n (pc := 40) cx (dA ddX8_loadBy (i := 26) rfl) rfl ?_
      refine x_V2 (pc := 41) mX8_246 h0 (c_X8_fillOf hM hh hR hB hN (by omega)) cx (dA ddX8_loadBy (i := 27) rfl) (kI ?_)
      refine x_goto (pc := 44) (tgt := 48) cx (dA ddX8_loadBy (i := 28) rfl) (by decide) ?_
      refine x_ireturn (pc := 48) cx (dA ddX8_loadBy (i := 30) rfl) (by first | exact Nat.le_of_ble_eq_true rfl | omega) (by first | exact Nat.le_of_ble_eq_true rfl | omega) ?_
      refine rI ?_
      rw [e9, if_pos c35]
  · have k4 : κ = 4 := nI_inj (by omega) (by omega) c8
    have e9 : ruL N κ b m rf d s = ldP N d s := if_pos k4
    refine x_aload_n (pc := 11) cx (dA ddX8_loadBy (i := 6) rfl) rfl ?_
    refine gX8_58 (pc := 12) (rfA hM.2.2.2.2.2.2.2.2.2.2.2.2.2.2.1.1) cx (dA ddX8_loadBy (i := 7) rfl) h0 ?_
    refine x_iload_n (pc := 15) cx (dA ddX8_loadBy (i := 8) rfl) rfl ?_
    refine x_aaload (pc := 16) cx (dA ddX8_loadBy (i := 9) rfl) hM.2.2.2.2.2.2.2.2.2.2.2.2.2.2.1.2.1 (by decide) (by decide) (by omega) (by decide) ?_
    rw [arA (hM.2.2.2.2.2.2.2.2.2.2.2.2.2.2.1.2.2 d (by omega)).1]
    refine x_iload_n (pc := 17) cx (dA ddX8_loadBy (i := 10) rfl) rfl ?_
    refine x_iaload (pc := 18) cx (dA ddX8_loadBy (i := 11) rfl) (hM.2.2.2.2.2.2.2.2.2.2.2.2.2.2.1.2.2 d (by omega)).2 (by omega) (by decide) ?_
    rw [hK k4]
    refine x_ireturn (pc := 19) cx (dA ddX8_loadBy (i := 12) rfl) (by first | exact Nat.le_of_ble_eq_true rfl | omega) (by first | exact Nat.le_of_ble_eq_true rfl | omega) ?_
    exact rI (by rw [e9])
