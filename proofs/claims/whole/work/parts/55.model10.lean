theorem c_X8_withLoad {l : Launch} {Z : zP} {G : zG} {V : zV} {y : Nat} (hM : ModelAt Z G y) {h : Nat} (hh : h < 8) {N : Nat → Nat} (hR : MH V y h N) (hB : HouseB N) (hN : HOK N) (hW : WaysV V y N) {d s u a : Nat} (h1 : 1 ≤ d) (hd : d ≤ 6) (hs : s < 5 ^ N 4) (hu : u ≤ s) (ha : isA Z G a 2 125) {f : Nat → Nat} (hf : ∀ t, t < 5 ^ N 4 → V.2.2.2 a t = lN (f t)) : CT l Z yX8_withLoad cX8_withLoad 10 (some .long) 3 0 0 [.ref y, .int (nI h), .int (nI d), .int (nI s), .int (nI u), .ref a] G V (pJ (lN (mixP N (boxP N d) (swD N d f) s u)) G V) := by
  refine CT.of (by decide +kernel) (Nat.le_of_ble_eq_true rfl) (fun X hX cx => ?_)
  subst hX
  show Wm Z X 10 G V 0 0 _ 0 [(0, some (.ref y)), (1, some (.int (nI h))), (2, some (.int (nI d))), (3, some (.int (nI s))), (4, some (.int (nI u))), (5, some (.ref a))] []
  have h0 := hM.1
  have b4 := hB.1
  have n125 := st125 b4
  refine x_aload_n (pc := 0) cx (dA ddX8_withLoad (i := 0) rfl) rfl ?_
  refine x_iload_n (pc := 1) cx (dA ddX8_withLoad (i := 1) rfl) rfl ?_
  refine x_iload_n (pc := 2) cx (dA ddX8_withLoad (i := 2) rfl) rfl ?_
  refine x_iload_n (pc := 3) cx (dA ddX8_withLoad (i := 3) rfl) rfl ?_
  refine x_aload (pc := 4) cx (dA ddX8_withLoad (i := 4) rfl) rfl ?_
  refine x_V4 (pc := 6) mX8_253 h0 (c_X8_behind hM hh hR hB hN hW (d := d) (s := s) h1 hd (by omega) ha (f := f) hf) cx (dA ddX8_withLoad (i := 5) rfl) (kJ ?_)
  refine x_lstore (pc := 9) cx (dA ddX8_withLoad (i := 6) rfl) (by decide) rfl ?_
  refine x_iload (pc := 11) cx (dA ddX8_withLoad (i := 7) rfl) rfl ?_
  refine x_if_ne (pc := 13) (tgt := 21) cx (dA ddX8_withLoad (i := 8) rfl) (by decide) (fun c13 => ?_) (fun c13 => ?_)
  · have u0 : ¬ u = 0 := fun z => c13 (by rw [z]; rfl)
    have em : mixP N (boxP N d) (swD N d f) s u = N 3 * (swD N d f) s + (4 - N 3) * (boxP N d + (swD N d f) (s - u)) := by unfold mixP; rw [if_neg u0, Nat.add_comm (boxP N d)]
    refine x_aload_n (pc := 21) cx (dA ddX8_withLoad (i := 11) rfl) rfl ?_
    refine x_iload_n (pc := 22) cx (dA ddX8_withLoad (i := 12) rfl) rfl ?_
    refine x_iload_n (pc := 23) cx (dA ddX8_withLoad (i := 13) rfl) rfl ?_
    refine x_V2 (pc := 24) mX8_261 h0 (c_X8_boxOf hM hh hR hB h1 hd) cx (dA ddX8_withLoad (i := 14) rfl) (kJ ?_)
    refine x_aload_n (pc := 27) cx (dA ddX8_withLoad (i := 15) rfl) rfl ?_
    refine x_iload_n (pc := 28) cx (dA ddX8_withLoad (i := 16) rfl) rfl ?_
    refine x_iload_n (pc := 29) cx (dA ddX8_withLoad (i := 17) rfl) rfl ?_
    refine x_iload_n (pc := 30) cx (dA ddX8_withLoad (i := 18) rfl) rfl ?_
    refine x_iload (pc := 31) cx (dA ddX8_withLoad (i := 19) rfl) rfl ?_
    refine x_isub (pc := 33) cx (dA ddX8_withLoad (i := 20) rfl) ?_
    refine x_aload (pc := 34) cx (dA ddX8_withLoad (i := 21) rfl) rfl ?_
    rw [pk_sub hu]
    refine x_V4 (pc := 36) mX8_253 h0 (c_X8_behind hM hh hR hB hN hW (d := d) (s := s - u) h1 hd (by omega) ha (f := f) hf) cx (dA ddX8_withLoad (i := 22) rfl) (kJ ?_)
    refine x_ladd (pc := 39) cx (dA ddX8_withLoad (i := 23) rfl) ?_
    rw [lN_add]
    refine x_lstore (pc := 40) cx (dA ddX8_withLoad (i := 24) rfl) (by decide) rfl ?_
    refine x_aload_n (pc := 42) cx (dA ddX8_withLoad (i := 25) rfl) rfl ?_
    refine gX8_45 (pc := 43) (rfA hM.2.2.2.2.2.2.2.2.2.2.2.1.1) cx (dA ddX8_withLoad (i := 26) rfl) h0 ?_
    refine x_iload_n (pc := 46) cx (dA ddX8_withLoad (i := 27) rfl) rfl ?_
    refine x_aaload (pc := 47) cx (dA ddX8_withLoad (i := 28) rfl) hM.2.2.2.2.2.2.2.2.2.2.2.1.2.1 (by decide) (by decide) hh (by decide) ?_
    rw [arA (hM.2.2.2.2.2.2.2.2.2.2.2.1.2.2 h hh).1]
    refine x_iconst (pc := 48) (v := nI 3) cx (dA ddX8_withLoad (i := 29) rfl) (by decide) ?_
    refine x_iaload (pc := 49) cx (dA ddX8_withLoad (i := 30) rfl) (hM.2.2.2.2.2.2.2.2.2.2.2.1.2.2 h hh).2 (by decide) (by decide) ?_
    rw [hR 3 (by omega)]
    have b3 := hN.2.2.2.1
    refine x_i2l (pc := 50) cx (dA ddX8_withLoad (i := 31) rfl) ?_
    rw [nI_l (by omega)]
    refine x_lload (pc := 51) cx (dA ddX8_withLoad (i := 32) rfl) rfl ?_
    refine x_lmul (pc := 53) cx (dA ddX8_withLoad (i := 33) rfl) ?_
    refine x_iconst (pc := 54) (v := nI 4) cx (dA ddX8_withLoad (i := 34) rfl) (by decide) ?_
    refine x_aload_n (pc := 55) cx (dA ddX8_withLoad (i := 35) rfl) rfl ?_
    refine gX8_45 (pc := 56) (rfA hM.2.2.2.2.2.2.2.2.2.2.2.1.1) cx (dA ddX8_withLoad (i := 36) rfl) h0 ?_
    refine x_iload_n (pc := 59) cx (dA ddX8_withLoad (i := 37) rfl) rfl ?_
    refine x_aaload (pc := 60) cx (dA ddX8_withLoad (i := 38) rfl) hM.2.2.2.2.2.2.2.2.2.2.2.1.2.1 (by decide) (by decide) hh (by decide) ?_
    rw [arA (hM.2.2.2.2.2.2.2.2.2.2.2.1.2.2 h hh).1]
    refine x_iconst (pc := 61) (v := nI 3) cx (dA ddX8_withLoad (i := 39) rfl) (by decide) ?_
    refine x_iaload (pc := 62) cx (dA ddX8_withLoad (i := 40) rfl) (hM.2.2.2.2.2.2.2.2.2.2.2.1.2.2 h hh).2 (by decide) (by decide) ?_
    rw [hR 3 (by omega)]
    refine x_isub (pc := 63) cx (dA ddX8_withLoad (i := 41) rfl) ?_
    rw [pk_sub (by omega)]
    refine x_i2l (pc := 64) cx (dA ddX8_withLoad (i := 42) rfl) ?_
    rw [nI_l (by omega)]
    refine x_lload (pc := 65) cx (dA ddX8_withLoad (i := 43) rfl) rfl ?_
    refine x_lmul (pc := 67) cx (dA ddX8_withLoad (i := 44) rfl) ?_
    refine x_ladd (pc := 68) cx (dA ddX8_withLoad (i := 45) rfl) ?_
    rw [lN_mul, lN_mul, lN_add, ← em]
    refine x_lreturn (pc := 69) cx (dA ddX8_withLoad (i := 46) rfl) (by first | exact Nat.le_of_ble_eq_true rfl | omega) (by first | exact Nat.le_of_ble_eq_true rfl | omega) ?_
    exact rJ rfl
  · have u0 : u = 0 := nI_inj (b := 0) (by omega) (by decide) c13
    have em : mixP N (boxP N d) (swD N d f) s u = N 3 * (swD N d f) s + (4 - N 3) * (swD N d f) s := by unfold mixP; rw [u0, if_pos rfl, Nat.sub_zero]; rfl
    refine x_lload (pc := 16) cx (dA ddX8_withLoad (i := 9) rfl) rfl ?_
    refine x_goto (pc := 18) (tgt := 40) cx (dA ddX8_withLoad (i := 10) rfl) (by decide) ?_
    refine x_lstore (pc := 40) cx (dA ddX8_withLoad (i := 24) rfl) (by decide) rfl ?_
    refine x_aload_n (pc := 42) cx (dA ddX8_withLoad (i := 25) rfl) rfl ?_
    refine gX8_45 (pc := 43) (rfA hM.2.2.2.2.2.2.2.2.2.2.2.1.1) cx (dA ddX8_withLoad (i := 26) rfl) h0 ?_
    refine x_iload_n (pc := 46) cx (dA ddX8_withLoad (i := 27) rfl) rfl ?_
    refine x_aaload (pc := 47) cx (dA ddX8_withLoad (i := 28) rfl) hM.2.2.2.2.2.2.2.2.2.2.2.1.2.1 (by decide) (by decide) hh (by decide) ?_
    rw [arA (hM.2.2.2.2.2.2.2.2.2.2.2.1.2.2 h hh).1]
    refine x_iconst (pc := 48) (v := nI 3) cx (dA ddX8_withLoad (i := 29) rfl) (by decide) ?_
    refine x_iaload (pc := 49) cx (dA ddX8_withLoad (i := 30) rfl) (hM.2.2.2.2.2.2.2.2.2.2.2.1.2.2 h hh).2 (by decide) (by decide) ?_
    rw [hR 3 (by omega)]
    have b3 := hN.2.2.2.1
    refine x_i2l (pc := 50) cx (dA ddX8_withLoad (i := 31) rfl) ?_
    rw [nI_l (by omega)]
    refine x_lload (pc := 51) cx (dA ddX8_withLoad (i := 32) rfl) rfl ?_
    refine x_lmul (pc := 53) cx (dA ddX8_withLoad (i := 33) rfl) ?_
    refine x_iconst (pc := 54) (v := nI 4) cx (dA ddX8_withLoad (i := 34) rfl) (by decide) ?_
    refine x_aload_n (pc := 55) cx (dA ddX8_withLoad (i := 35) rfl) rfl ?_
    refine gX8_45 (pc := 56) (rfA hM.2.2.2.2.2.2.2.2.2.2.2.1.1) cx (dA ddX8_withLoad (i := 36) rfl) h0 ?_
    refine x_iload_n (pc := 59) cx (dA ddX8_withLoad (i := 37) rfl) rfl ?_
    refine x_aaload (pc := 60) cx (dA ddX8_withLoad (i := 38) rfl) hM.2.2.2.2.2.2.2.2.2.2.2.1.2.1 (by decide) (by decide) hh (by decide) ?_
    rw [arA (hM.2.2.2.2.2.2.2.2.2.2.2.1.2.2 h hh).1]
    refine x_iconst (pc := 61) (v := nI 3) cx (dA ddX8_withLoad (i := 39) rfl) (by decide) ?_
    refine x_iaload (pc := 62) cx (dA ddX8_withLoad (i := 40) rfl) (hM.2.2.2.2.2.2.2.2.2.2.2.1.2.2 h hh).2 (by decide) (by decide) ?_
    rw [hR 3 (by omega)]
    refine x_isub (pc := 63) cx (dA ddX8_withLoad (i := 41) rfl) ?_
    rw [pk_sub (by omega)]
    refine x_i2l (pc := 64) cx (dA ddX8_withLoad (i := 42) rfl) ?_
    rw [nI_l (by omega)]
    refine x_lload (pc := 65) cx (dA ddX8_withLoad (i := 43) rfl) rfl ?_
    refine x_lmul (pc := 67) cx (dA ddX8_withLoad (i := 44) rfl) ?_
    refine x_ladd (pc := 68) cx (dA ddX8_withLoad (i := 45) rfl) ?_
    rw [lN_mul, lN_mul, lN_add, ← em]
    refine x_lreturn (pc := 69) cx (dA ddX8_withLoad (i := 46) rfl) (by first | exact Nat.le_of_ble_eq_true rfl | omega) (by first | exact Nat.le_of_ble_eq_true rfl | omega) ?_
    exact rJ rfl
theorem c_X8_wholeCost {l : Launch} {Z : zP} {G : zG} {V : zV} {y : Nat} (hM : ModelAt Z G y) {h : Nat} (hh : h < 8) {N : Nat → Nat} (hR : MH V y h N) (hB : HouseB N) (hN : HOK N) {mu : Nat} (hmu : ∀ d, 1 ≤ d → d ≤ 6 → (nI d = V.1 439 y ↔ d = mu)) : CT l Z yX8_wholeCost cX8_wholeCost 2 (some .long) 5 0 0 [.ref y, .int (nI h)] G V (pJx (lN (mcM N mu (N 0) 0)) G (fun V' => fbI V V' y N mu (N 0 + 1))) := by
  refine CT.of (by decide +kernel) (Nat.le_of_ble_eq_true rfl) (fun X hX cx => ?_)
  subst hX
  show Wm Z X 2 G V 0 0 _ 0 [(0, some (.ref y)), (1, some (.int (nI h)))] []
  have h0 := hM.1
  have b4 := hB.1
  have h06 := hN.2.1
  refine x_aload_n (pc := 0) cx (dA ddX8_wholeCost (i := 0) rfl) rfl ?_
  refine x_iload_n (pc := 1) cx (dA ddX8_wholeCost (i := 1) rfl) rfl ?_
  refine x_V1 (pc := 2) mX8_264 h0 (c_X8_findBest hM hh hR hB hN hmu) cx (dA ddX8_wholeCost (i := 2) rfl) (kVx fun V2 hF => ?_)
  refine x_aload_n (pc := 5) cx (dA ddX8_wholeCost (i := 3) rfl) rfl ?_
  refine gX8_55 (pc := 6) (rfA hM.2.2.2.2.2.2.2.2.2.2.2.2.2.1.1) cx (dA ddX8_wholeCost (i := 4) rfl) h0 ?_
  refine x_aload_n (pc := 9) cx (dA ddX8_wholeCost (i := 5) rfl) rfl ?_
  refine gX8_45 (pc := 10) (rfA hM.2.2.2.2.2.2.2.2.2.2.2.1.1) cx (dA ddX8_wholeCost (i := 6) rfl) h0 ?_
  refine x_iload_n (pc := 13) cx (dA ddX8_wholeCost (i := 7) rfl) rfl ?_
  refine x_aaload (pc := 14) cx (dA ddX8_wholeCost (i := 8) rfl) hM.2.2.2.2.2.2.2.2.2.2.2.1.2.1 (by decide) (by decide) hh (by decide) ?_
  rw [arA (hM.2.2.2.2.2.2.2.2.2.2.2.1.2.2 h hh).1]
  refine x_iconst (pc := 15) (v := nI 0) cx (dA ddX8_wholeCost (i := 9) rfl) (by decide) ?_
  refine x_iaload (pc := 16) cx (dA ddX8_wholeCost (i := 10) rfl) (hM.2.2.2.2.2.2.2.2.2.2.2.1.2.2 h hh).2 (by decide) (by decide) ?_
  rw [hR.same39 hh hF.1 0 (by omega)]
  refine x_aaload (pc := 17) cx (dA ddX8_wholeCost (i := 11) rfl) hM.2.2.2.2.2.2.2.2.2.2.2.2.2.1.2.1 (by decide) (by decide) (by omega) (by decide) ?_
  rw [arA (hM.2.2.2.2.2.2.2.2.2.2.2.2.2.1.2.2 (N 0) (by omega)).1]
  refine x_iconst (pc := 18) (v := nI 0) cx (dA ddX8_wholeCost (i := 12) rfl) (by decide) ?_
  refine x_laload (pc := 19) cx (dA ddX8_wholeCost (i := 13) rfl) (hM.2.2.2.2.2.2.2.2.2.2.2.2.2.1.2.2 (N 0) (by omega)).2 (by decide) (by decide) ?_
  rw [(hF.2.2 (N 0) (by omega) 0 (Nat.pow_pos (by decide))).1]
  refine x_lreturn (pc := 20) cx (dA ddX8_wholeCost (i := 14) rfl) (by first | exact Nat.le_of_ble_eq_true rfl | omega) (by first | exact Nat.le_of_ble_eq_true rfl | omega) ?_
  exact ⟨rfl, rfl, hF⟩
