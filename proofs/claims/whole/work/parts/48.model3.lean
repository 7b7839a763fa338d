theorem shl1A : ∀ k : Fin 4, nI 1 <<< (nI k.val &&& 31) = nI (2 ^ k.val) := by decide +kernel
theorem shl1 {k : Nat} (h : k ≤ 3) : nI 1 <<< (nI k &&& 31) = nI (2 ^ k) := shl1A ⟨k, by omega⟩
theorem two_le {k : Nat} (h : k ≤ 3) : 2 ^ k ≤ 8 := Nat.le_trans (Nat.pow_le_pow_right (by decide) h) (by decide)
theorem wt_le {N : Nat → Nat} (hN : HOK N) {come : Nat} : ∀ j, j ≤ N 4 → wtM N come j ≤ 4 ^ j
  | 0, _ => Nat.le_refl _
  | j + 1, h => by
    have c4 : N (5 + 5 * j + 1) ≤ 4 := (hN.2.2.2.2 j (by omega) 1 (by decide)).2
    rw [Nat.pow_succ]
    exact Nat.mul_le_mul (wt_le hN j (by omega)) (by split <;> omega)
theorem rf_le {N : Nat → Nat} (hN : HOK N) {come st : Nat} : ∀ j, j ≤ N 4 → rfM N come st j ≤ 99 * j
  | 0, _ => Nat.le_refl _
  | j + 1, h => by
    have r9 : N (5 + 5 * j + 3) ≤ 99 := (hN.2.2.2.2 j (by omega) 3 (by decide)).2
    have ih := rf_le hN (come := come) (st := st) j (by omega)
    show rfM N come st j + (if _ then _ else _) ≤ _
    split <;> omega
theorem th_lt {N : Nat → Nat} (h4 : N 4 ≤ 3) {come st : Nat} (hc : come < 8) (hs : st < 5 ^ N 4) : ∀ j, j ≤ N 4 → thM come st j < 5 ^ N 4
  | 0, _ => hs
  | j + 1, h => by
    have h125 := st125 h4
    have ih := th_lt h4 hc hs j (by omega)
    have dg : dig (thM come st j) j = dig st j := th_digA ⟨come, hc⟩ ⟨j, by omega⟩ ⟨st, by omega⟩
    show thM come st j + (if btM come j = true ∧ dig st j < 4 then 5 ^ j else 0) < _
    split
    · next q => exact dig_up h4 (by omega) ih (by omega)
    · exact ih
/-- what the reference has found of a house: what may come, what is filled in, rooms, holds -/
def WaysV (V : zV) (y : Nat) (N : Nat → Nat) : Prop := (∀ s, s < 5 ^ N 4 → V.2.2.1 (y + 82) s = nI (fillP N s)) ∧ (∀ s, s < 5 ^ N 4 → V.2.2.1 (y + 83) s = nI (sumP N s 0)) ∧ (∀ s, s < 5 ^ N 4 → V.2.2.1 (y + 84) s = nI (sumP N s 2)) ∧ (∀ come, come < 2 ^ N 4 → V.2.2.2 (y + 63) come = lN (wtM N come (N 4))) ∧ ∀ come, come < 2 ^ N 4 → ∀ s, s < 5 ^ N 4 → V.2.2.1 (y + 64 + 1 + come) s = nI (thM come s (N 4)) ∧ V.2.2.1 (y + 73 + 1 + come) s = nI (rfM N come s (N 4))
theorem swD_ms {N : Nat → Nat} (hN : HOK N) {d s : Nat} {f : Nat → Nat} (hs : s < 5 ^ N 4) : sumP N s 2 * 4 ^ N 4 * sclP N (d - 1) + msM N (sclP N (d - 1)) f (N 4) s = swD N d f s := by
  unfold swD
  rw [swS_ms hN _ (Nat.le_refl _) s hs, Nat.mul_assoc, Nat.mul_comm (4 ^ N 4)]
  exact Nat.add_comm _ _
theorem c_X8_behind {l : Launch} {Z : zP} {G : zG} {V : zV} {y : Nat} (hM : ModelAt Z G y) {h : Nat} (hh : h < 8) {N : Nat → Nat} (hR : MH V y h N) (hB : HouseB N) (hN : HOK N) (hW : WaysV V y N) {d s a : Nat} (h1 : 1 ≤ d) (hd : d ≤ 6) (hs : s < 5 ^ N 4) (ha : isA Z G a 2 125) {f : Nat → Nat} (hf : ∀ t, t < 5 ^ N 4 → V.2.2.2 a t = lN (f t)) : CT l Z yX8_behind cX8_behind 11 (some .long) 2 0 0 [.ref y, .int (nI h), .int (nI d), .int (nI s), .ref a] G V (pJ (lN (swD N d f s)) G V) := by
  refine CT.of (by decide +kernel) (Nat.le_of_ble_eq_true rfl) (fun X hX cx => ?_)
  subst hX
  show Wm Z X 11 G V 0 0 _ 0 [(0, some (.ref y)), (1, some (.int (nI h))), (2, some (.int (nI d))), (3, some (.int (nI s))), (4, some (.ref a))] []
  have h0 := hM.1
  have b4 := hB.1
  have n125 := st125 b4
  have p4 : 4 ^ N 4 ≤ 64 := Nat.le_trans (Nat.pow_le_pow_right (by decide) b4) (by decide)
  have p2 := two_le b4
  refine x_aload_n (pc := 0) cx (dA ddX8_behind (i := 0) rfl) rfl ?_
  refine x_iload_n (pc := 1) cx (dA ddX8_behind (i := 1) rfl) rfl ?_
  refine x_V1 (pc := 2) mX8_98 h0 (c_X8_sorts hM hh hR hB) cx (dA ddX8_behind (i := 2) rfl) (kI ?_)
  refine x_istore (pc := 5) cx (dA ddX8_behind (i := 3) rfl) (by decide) rfl ?_
  refine x_aload_n (pc := 7) cx (dA ddX8_behind (i := 4) rfl) rfl ?_
  refine x_iload_n (pc := 8) cx (dA ddX8_behind (i := 5) rfl) rfl ?_
  refine x_iload_n (pc := 9) cx (dA ddX8_behind (i := 6) rfl) rfl ?_
  refine x_iconst (pc := 10) (v := nI 1) cx (dA ddX8_behind (i := 7) rfl) (by decide) ?_
  refine x_isub (pc := 11) cx (dA ddX8_behind (i := 8) rfl) ?_
  rw [pk_sub h1]
  refine x_V2 (pc := 12) mX8_242 h0 (c_X8_scaleOf hM hh hR hB (d := d - 1) (by omega)) cx (dA ddX8_behind (i := 9) rfl) (kJ ?_)
  refine x_lstore (pc := 15) cx (dA ddX8_behind (i := 10) rfl) (by decide) rfl ?_
  refine x_aload_n (pc := 17) cx (dA ddX8_behind (i := 11) rfl) rfl ?_
  refine gX8_79 (pc := 18) (rfA hM.2.2.2.2.2.2.2.2.2.2.2.2.2.2.2.2.2.2.2.2.2.1.1) cx (dA ddX8_behind (i := 12) rfl) h0 ?_
  refine x_iload_n (pc := 21) cx (dA ddX8_behind (i := 13) rfl) rfl ?_
  refine x_iaload (pc := 22) cx (dA ddX8_behind (i := 14) rfl) hM.2.2.2.2.2.2.2.2.2.2.2.2.2.2.2.2.2.2.2.2.2.1.2 (by omega) (by decide) ?_
  rw [hW.2.2.1 s hs]
  refine x_i2l (pc := 23) cx (dA ddX8_behind (i := 15) rfl) ?_
  rw [nI_l (by have := hold_le hN (s := s); omega)]
  refine x_iconst (pc := 24) (v := nI 4) cx (dA ddX8_behind (i := 16) rfl) (by decide) ?_
  refine x_iload (pc := 25) cx (dA ddX8_behind (i := 17) rfl) rfl ?_
  refine x_S2 (pc := 27) mX8_102 (c_X8_power (by omega)) cx (dA ddX8_behind (i := 18) rfl) (kI ?_)
  refine x_i2l (pc := 30) cx (dA ddX8_behind (i := 19) rfl) ?_
  rw [nI_l (by omega)]
  refine x_lmul (pc := 31) cx (dA ddX8_behind (i := 20) rfl) ?_
  refine x_lload (pc := 32) cx (dA ddX8_behind (i := 21) rfl) rfl ?_
  refine x_lmul (pc := 34) cx (dA ddX8_behind (i := 22) rfl) ?_
  rw [lN_mul, lN_mul]
  refine x_lstore (pc := 35) cx (dA ddX8_behind (i := 23) rfl) (by decide) rfl ?_
  refine x_iconst (pc := 37) (v := nI 0) cx (dA ddX8_behind (i := 24) rfl) (by decide) ?_
  refine x_istore (pc := 38) cx (dA ddX8_behind (i := 25) rfl) (by decide) rfl ?_
  have L40 : ∀ i, i ≤ 2 ^ N 4 → Wm Z X 11 G V 0 0 (rQ Z X 0 0 (pJ (lN (swD N d f s)) G V)) 40 [(0, some (.ref y)), (3, some (.int (nI s))), (4, some (.ref a)), (5, some (.int (nI (N 4)))), (6, some (.long (lN (sclP N (d - 1))))), (8, some (.long (lN (sumP N s 2 * 4 ^ N 4 * (sclP N (d - 1)) + sumN i (fun come => wtM N come (N 4) * (rfM N come s (N 4) * (sclP N (d - 1)) + f (thM come s (N 4)))))))), (10, some (.int (nI i)))] [] := by
    refine lpU (2 ^ N 4) (fun i hi ih => ?_)
    refine x_iload (pc := 40) cx (dA ddX8_behind (i := 26) rfl) rfl ?_
    refine x_iconst (pc := 42) (v := nI 1) cx (dA ddX8_behind (i := 27) rfl) (by decide) ?_
    refine x_iload (pc := 43) cx (dA ddX8_behind (i := 28) rfl) rfl ?_
    refine x_ishl (pc := 45) cx (dA ddX8_behind (i := 29) rfl) ?_
    rw [shl1 b4]
    refine x_icmp_ge (pc := 46) (tgt := 106) cx (dA ddX8_behind (i := 30) rfl) (by decide) (fun c46 => ?_) (fun c46 => ?_)
    · have c46 := cleT (by omega) (by omega) c46
      have ei : i = 2 ^ N 4 := by omega
      subst ei
      refine x_lload (pc := 106) cx (dA ddX8_behind (i := 66) rfl) rfl ?_
      refine x_lreturn (pc := 108) cx (dA ddX8_behind (i := 67) rfl) (by first | exact Nat.le_of_ble_eq_true rfl | omega) (by first | exact Nat.le_of_ble_eq_true rfl | omega) ?_
      refine rJ ?_
      rw [← swD_ms hN hs]
      rfl
    · have c46 := cleF (by omega) (by omega) c46
      have i8 : i < 8 := by omega
      have wl := wt_le hN (come := i) (N 4) (Nat.le_refl _)
      have rl := rf_le hN (come := i) (st := s) (N 4) (Nat.le_refl _)
      have tl := th_lt b4 i8 hs (N 4) (Nat.le_refl _)
      have eS : sumN (i + 1) (fun come => wtM N come (N 4) * (rfM N come s (N 4) * (sclP N (d - 1)) + f (thM come s (N 4)))) = sumN i (fun come => wtM N come (N 4) * (rfM N come s (N 4) * (sclP N (d - 1)) + f (thM come s (N 4)))) + wtM N i (N 4) * (rfM N i s (N 4) * (sclP N (d - 1)) + f (thM i s (N 4))) := rfl
      refine x_aload_n (pc := 49) cx (dA ddX8_behind (i := 31) rfl) rfl ?_
      refine gX8_64 (pc := 50) (rfA hM.2.2.2.2.2.2.2.2.2.2.2.2.2.2.2.2.1.1) cx (dA ddX8_behind (i := 32) rfl) h0 ?_
      refine x_iload (pc := 53) cx (dA ddX8_behind (i := 33) rfl) rfl ?_
      refine x_laload (pc := 55) cx (dA ddX8_behind (i := 34) rfl) hM.2.2.2.2.2.2.2.2.2.2.2.2.2.2.2.2.1.2 (by omega) (by decide) ?_
      rw [hW.2.2.2.1 i c46]
      refine x_lconst (pc := 56) (v := lN 0) cx (dA ddX8_behind (i := 35) rfl) rfl ?_
      refine x_lc_le (pc := 57) (tgt := 100) cx (dA ddX8_behind (i := 36) rfl) (dA ddX8_behind (i := 37) rfl) (by decide) (fun c57 => ?_) (fun c57 => ?_)
      · have w0 : wtM N i (N 4) = 0 := by have := (pk_lLE (b := 0) (by omega) (by decide)).mp c57; omega
        have eA : (sumP N s 2 * 4 ^ N 4 * (sclP N (d - 1)) + sumN i (fun come => wtM N come (N 4) * (rfM N come s (N 4) * (sclP N (d - 1)) + f (thM come s (N 4))))) = sumP N s 2 * 4 ^ N 4 * (sclP N (d - 1)) + sumN (i + 1) (fun come => wtM N come (N 4) * (rfM N come s (N 4) * (sclP N (d - 1)) + f (thM come s (N 4)))) := by rw [eS, w0, Nat.zero_mul, Nat.add_zero]
        refine x_iinc (pc := 100) cx (dA ddX8_behind (i := 64) rfl) rfl (iinc1 _) (by decide) rfl ?_
        refine x_goto (pc := 103) (tgt := 40) cx (dA ddX8_behind (i := 65) rfl) (by decide) ?_
        have L := ih (by omega)
        rw [← eA] at L
        exact x_enter L ⟨.inr rfl, .inr rfl, .inr rfl, .inr rfl, .inr rfl, .inr rfl, .inr rfl, trivial⟩
      · refine x_lload (pc := 61) cx (dA ddX8_behind (i := 38) rfl) rfl ?_
        refine x_aload_n (pc := 63) cx (dA ddX8_behind (i := 39) rfl) rfl ?_
        refine gX8_64 (pc := 64) (rfA hM.2.2.2.2.2.2.2.2.2.2.2.2.2.2.2.2.1.1) cx (dA ddX8_behind (i := 40) rfl) h0 ?_
        refine x_iload (pc := 67) cx (dA ddX8_behind (i := 41) rfl) rfl ?_
        refine x_laload (pc := 69) cx (dA ddX8_behind (i := 42) rfl) hM.2.2.2.2.2.2.2.2.2.2.2.2.2.2.2.2.1.2 (by omega) (by decide) ?_
        rw [hW.2.2.2.1 i c46]
        refine x_aload_n (pc := 70) cx (dA ddX8_behind (i := 43) rfl) rfl ?_
        refine gX8_70 (pc := 71) (rfA hM.2.2.2.2.2.2.2.2.2.2.2.2.2.2.2.2.2.2.1.1) cx (dA ddX8_behind (i := 44) rfl) h0 ?_
        refine x_iload (pc := 74) cx (dA ddX8_behind (i := 45) rfl) rfl ?_
        refine x_aaload (pc := 76) cx (dA ddX8_behind (i := 46) rfl) hM.2.2.2.2.2.2.2.2.2.2.2.2.2.2.2.2.2.2.1.2.1 (by decide) (by decide) (by omega) (by decide) ?_
        rw [arA (hM.2.2.2.2.2.2.2.2.2.2.2.2.2.2.2.2.2.2.1.2.2 i (by omega)).1]
        refine x_iload_n (pc := 77) cx (dA ddX8_behind (i := 47) rfl) rfl ?_
        refine x_iaload (pc := 78) cx (dA ddX8_behind (i := 48) rfl) (hM.2.2.2.2.2.2.2.2.2.2.2.2.2.2.2.2.2.2.1.2.2 i (by omega)).2 (by omega) (by decide) ?_
        rw [(hW.2.2.2.2 i c46 s hs).2]
        refine x_i2l (pc := 79) cx (dA ddX8_behind (i := 49) rfl) ?_
        rw [nI_l (by omega)]
        refine x_lload (pc := 80) cx (dA ddX8_behind (i := 50) rfl) rfl ?_
        refine x_lmul (pc := 82) cx (dA ddX8_behind (i := 51) rfl) ?_
        refine x_aload (pc := 83) cx (dA ddX8_behind (i := 52) rfl) rfl ?_
        refine x_aload_n (pc := 85) cx (dA ddX8_behind (i := 53) rfl) rfl ?_
        refine gX8_67 (pc := 86) (rfA hM.2.2.2.2.2.2.2.2.2.2.2.2.2.2.2.2.2.1.1) cx (dA ddX8_behind (i := 54) rfl) h0 ?_
        refine x_iload (pc := 89) cx (dA ddX8_behind (i := 55) rfl) rfl ?_
        refine x_aaload (pc := 91) cx (dA ddX8_behind (i := 56) rfl) hM.2.2.2.2.2.2.2.2.2.2.2.2.2.2.2.2.2.1.2.1 (by decide) (by decide) (by omega) (by decide) ?_
        rw [arA (hM.2.2.2.2.2.2.2.2.2.2.2.2.2.2.2.2.2.1.2.2 i (by omega)).1]
        refine x_iload_n (pc := 92) cx (dA ddX8_behind (i := 57) rfl) rfl ?_
        refine x_iaload (pc := 93) cx (dA ddX8_behind (i := 58) rfl) (hM.2.2.2.2.2.2.2.2.2.2.2.2.2.2.2.2.2.1.2.2 i (by omega)).2 (by omega) (by decide) ?_
        rw [(hW.2.2.2.2 i c46 s hs).1]
        refine x_laload (pc := 94) cx (dA ddX8_behind (i := 59) rfl) ha (by omega) (by decide) ?_
        rw [hf _ tl]
        refine x_ladd (pc := 95) cx (dA ddX8_behind (i := 60) rfl) ?_
        refine x_lmul (pc := 96) cx (dA ddX8_behind (i := 61) rfl) ?_
        refine x_ladd (pc := 97) cx (dA ddX8_behind (i := 62) rfl) ?_
        rw [lN_mul, lN_add, lN_mul, lN_add, Nat.add_assoc, ← eS]
        refine x_lstore (pc := 98) cx (dA ddX8_behind (i := 63) rfl) (by decide) rfl ?_
        refine x_iinc (pc := 100) cx (dA ddX8_behind (i := 64) rfl) rfl (iinc1 _) (by decide) rfl ?_
        refine x_goto (pc := 103) (tgt := 40) cx (dA ddX8_behind (i := 65) rfl) (by decide) ?_
        exact x_enter (ih (by omega)) ⟨.inr rfl, .inr rfl, .inr rfl, .inr rfl, .inr rfl, .inr rfl, .inr rfl, trivial⟩
  exact x_enter (L40 0 (Nat.zero_le _)) ⟨.inr rfl, .inr rfl, .inr rfl, .inr rfl, .inr rfl, .inr rfl, .inr rfl, trivial⟩
