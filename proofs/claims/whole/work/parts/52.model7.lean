/-- the reference's rule on place r: of a kind κ, by b; one told has m elements -/
def MRule (V : zV) (y r κ b m : Nat) (f : Nat → Bool) : Prop := V.2.2.1 (y + 14) r = nI κ ∧ (1 ≤ κ ∧ κ ≤ 5) ∧ V.2.2.1 (y + 15) r = nI b ∧ (κ = 1 → b ≤ 99) ∧ (κ = 2 → 1 ≤ b ∧ b ≤ 6) ∧ (κ = 3 → b < 1000 ∧ 1 ≤ b % 10 ∧ b % 10 ≤ 6) ∧ (κ = 5 → ∀ i, i < 125 → V.2.2.1 (y + 16 + 1 + r) i = nI (if (decide (i < m) && f i) = true then 1 else 0))
theorem c_X8_fillsBy {l : Launch} {Z : zP} {G : zG} {V : zV} {y : Nat} (hM : ModelAt Z G y) {r κ b m : Nat} {rf : Nat → Bool} (hr : r < 10) (hR5 : MRule V y r κ b m rf) (k4 : κ ≠ 4) {d s c : Nat} (hd : d < 10) (hs : s < 125) (hc : c < 2000) : CT l Z yX8_fillsBy cX8_fillsBy 5 (some .boolean) 1 0 0 [.ref y, .int (nI d), .int (nI s), .int (nI r), .int (nI c)] G V (pI (b2i (fillsP κ b m rf d s c = true)) G V) := by
  refine CT.of (by decide +kernel) (Nat.le_of_ble_eq_true rfl) (fun X hX cx => ?_)
  subst hX
  show Wm Z X 5 G V 0 0 _ 0 [(0, some (.ref y)), (1, some (.int (nI d))), (2, some (.int (nI s))), (3, some (.int (nI r))), (4, some (.int (nI c)))] []
  have h0 := hM.1
  have κ1 := hR5.2.1
  refine x_aload_n (pc := 0) cx (dA ddX8_fillsBy (i := 0) rfl) rfl ?_
  refine gX8_28 (pc := 1) (rfA hM.2.2.2.2.2.2.1.1) cx (dA ddX8_fillsBy (i := 1) rfl) h0 ?_
  refine x_iload_n (pc := 4) cx (dA ddX8_fillsBy (i := 2) rfl) rfl ?_
  refine x_iaload (pc := 5) cx (dA ddX8_fillsBy (i := 3) rfl) hM.2.2.2.2.2.2.1.2 hr (by decide) ?_
  rw [hR5.1]
  by_cases c6_0 : nI κ = 1
  · refine x_tabIn (pc := 6) (v := 1) (tgt := 32) cx (dA ddX8_fillsBy (i := 4) rfl) (by rw [c6_0]; decide) (by decide) (by decide) rfl (by decide) ?_
    have ek : κ = 1 := nI_inj (by omega) (by omega) c6_0
    subst ek
    have b99 := hR5.2.2.2.1 rfl
    refine x_iload (pc := 32) cx (dA ddX8_fillsBy (i := 5) rfl) rfl ?_
    refine x_aload_n (pc := 34) cx (dA ddX8_fillsBy (i := 6) rfl) rfl ?_
    refine gX8_31 (pc := 35) (rfA hM.2.2.2.2.2.2.2.1.1) cx (dA ddX8_fillsBy (i := 7) rfl) h0 ?_
    refine x_iload_n (pc := 38) cx (dA ddX8_fillsBy (i := 8) rfl) rfl ?_
    refine x_iaload (pc := 39) cx (dA ddX8_fillsBy (i := 9) rfl) hM.2.2.2.2.2.2.2.1.2 hr (by decide) ?_
    rw [hR5.2.2.1]
    refine x_icmp_lt (pc := 40) (tgt := 47) cx (dA ddX8_fillsBy (i := 10) rfl) (by decide) (fun c40 => ?_) (fun c40 => ?_)
    · have c40 := cltT (by omega) (by omega) c40
      refine x_iconst (pc := 47) (v := nI 0) cx (dA ddX8_fillsBy (i := 13) rfl) (by decide) ?_
      refine x_zreturn (pc := 48) cx (dA ddX8_fillsBy (i := 14) rfl) (by first | exact Nat.le_of_ble_eq_true rfl | omega) (by first | exact Nat.le_of_ble_eq_true rfl | omega) rfl ?_
      refine rI ?_
      simp only [fillsP, Bool.or_eq_true, Bool.and_eq_true, decide_eq_true_eq]
      first | exact (b2i_t (by omega)).symm | exact (b2i_f (by omega)).symm
    · have c40 := cltF (by omega) (by omega) c40
      refine x_iconst (pc := 43) (v := nI 1) cx (dA ddX8_fillsBy (i := 11) rfl) (by decide) ?_
      refine x_goto (pc := 44) (tgt := 48) cx (dA ddX8_fillsBy (i := 12) rfl) (by decide) ?_
      refine x_zreturn (pc := 48) cx (dA ddX8_fillsBy (i := 14) rfl) (by first | exact Nat.le_of_ble_eq_true rfl | omega) (by first | exact Nat.le_of_ble_eq_true rfl | omega) rfl ?_
      refine rI ?_
      simp only [fillsP, Bool.or_eq_true, Bool.and_eq_true, decide_eq_true_eq]
      first | exact (b2i_t (by omega)).symm | exact (b2i_f (by omega)).symm
  by_cases c6_1 : nI κ = 2
  · refine x_tabIn (pc := 6) (v := 2) (tgt := 49) cx (dA ddX8_fillsBy (i := 4) rfl) (by rw [c6_1]; decide) (by decide) (by decide) rfl (by decide) ?_
    have ek : κ = 2 := nI_inj (by omega) (by omega) c6_1
    subst ek
    have b6 := hR5.2.2.2.2.1 rfl
    refine x_iload_n (pc := 49) cx (dA ddX8_fillsBy (i := 15) rfl) rfl ?_
    refine x_aload_n (pc := 50) cx (dA ddX8_fillsBy (i := 16) rfl) rfl ?_
    refine gX8_31 (pc := 51) (rfA hM.2.2.2.2.2.2.2.1.1) cx (dA ddX8_fillsBy (i := 17) rfl) h0 ?_
    refine x_iload_n (pc := 54) cx (dA ddX8_fillsBy (i := 18) rfl) rfl ?_
    refine x_iaload (pc := 55) cx (dA ddX8_fillsBy (i := 19) rfl) hM.2.2.2.2.2.2.2.1.2 hr (by decide) ?_
    rw [hR5.2.2.1]
    refine x_irem (pc := 56) cx (nI_ne0 (by omega) (by omega)) (dA ddX8_fillsBy (i := 20) rfl) ?_
    rw [rem32 (by omega) (by omega) (by omega)]
    have ml := Nat.mod_lt d b6.1
    refine x_if_ne (pc := 57) (tgt := 64) cx (dA ddX8_fillsBy (i := 21) rfl) (by decide) (fun c57 => ?_) (fun c57 => ?_)
    · have c57 : ¬ d % b = 0 := fun e => c57 (by rw [e]; rfl)
      refine x_iconst (pc := 64) (v := nI 0) cx (dA ddX8_fillsBy (i := 24) rfl) (by decide) ?_
      refine x_zreturn (pc := 65) cx (dA ddX8_fillsBy (i := 25) rfl) (by first | exact Nat.le_of_ble_eq_true rfl | omega) (by first | exact Nat.le_of_ble_eq_true rfl | omega) rfl ?_
      refine rI ?_
      simp only [fillsP, Bool.or_eq_true, Bool.and_eq_true, decide_eq_true_eq]
      first | exact (b2i_t (by omega)).symm | exact (b2i_f (by omega)).symm
    · have c57 : d % b = 0 := nI_inj (b := 0) (by omega) (by decide) c57
      refine x_iconst (pc := 60) (v := nI 1) cx (dA ddX8_fillsBy (i := 22) rfl) (by decide) ?_
      refine x_goto (pc := 61) (tgt := 65) cx (dA ddX8_fillsBy (i := 23) rfl) (by decide) ?_
      refine x_zreturn (pc := 65) cx (dA ddX8_fillsBy (i := 25) rfl) (by first | exact Nat.le_of_ble_eq_true rfl | omega) (by first | exact Nat.le_of_ble_eq_true rfl | omega) rfl ?_
      refine rI ?_
      simp only [fillsP, Bool.or_eq_true, Bool.and_eq_true, decide_eq_true_eq]
      first | exact (b2i_t (by omega)).symm | exact (b2i_f (by omega)).symm
  by_cases c6_2 : nI κ = 3
  · refine x_tabIn (pc := 6) (v := 3) (tgt := 66) cx (dA ddX8_fillsBy (i := 4) rfl) (by rw [c6_2]; decide) (by decide) (by decide) rfl (by decide) ?_
    have ek : κ = 3 := nI_inj (by omega) (by omega) c6_2
    subst ek
    have b3 := hR5.2.2.2.2.2.1 rfl
    refine x_iload (pc := 66) cx (dA ddX8_fillsBy (i := 26) rfl) rfl ?_
    refine x_aload_n (pc := 68) cx (dA ddX8_fillsBy (i := 27) rfl) rfl ?_
    refine gX8_31 (pc := 69) (rfA hM.2.2.2.2.2.2.2.1.1) cx (dA ddX8_fillsBy (i := 28) rfl) h0 ?_
    refine x_iload_n (pc := 72) cx (dA ddX8_fillsBy (i := 29) rfl) rfl ?_
    refine x_iaload (pc := 73) cx (dA ddX8_fillsBy (i := 30) rfl) hM.2.2.2.2.2.2.2.1.2 hr (by decide) ?_
    rw [hR5.2.2.1]
    refine x_bipush (pc := 74) (v := nI 10) cx (dA ddX8_fillsBy (i := 31) rfl) (by decide) ?_
    refine x_idiv (pc := 76) cx (by decide) (dA ddX8_fillsBy (i := 32) rfl) ?_
    rw [div32 (by omega) (by omega) (by omega)]
    refine x_icmp_ge (pc := 77) (tgt := 94) cx (dA ddX8_fillsBy (i := 33) rfl) (by decide) (fun c77 => ?_) (fun c77 => ?_)
    · have c77 := cleT (by omega) (by omega) c77
      refine x_iconst (pc := 94) (v := nI 1) cx (dA ddX8_fillsBy (i := 43) rfl) (by decide) ?_
      refine x_goto (pc := 95) (tgt := 99) cx (dA ddX8_fillsBy (i := 44) rfl) (by decide) ?_
      refine x_zreturn (pc := 99) cx (dA ddX8_fillsBy (i := 46) rfl) (by first | exact Nat.le_of_ble_eq_true rfl | omega) (by first | exact Nat.le_of_ble_eq_true rfl | omega) rfl ?_
      refine rI ?_
      simp only [fillsP, Bool.or_eq_true, decide_eq_true_eq]
      first | exact (b2i_t (Or.inl (by omega))).symm | exact (b2i_t (Or.inr c91)).symm | exact (b2i_f (fun h => h.elim (fun h => by omega) c91)).symm
    · have c77 := cleF (by omega) (by omega) c77
      refine x_iload_n (pc := 80) cx (dA ddX8_fillsBy (i := 34) rfl) rfl ?_
      refine x_aload_n (pc := 81) cx (dA ddX8_fillsBy (i := 35) rfl) rfl ?_
      refine gX8_31 (pc := 82) (rfA hM.2.2.2.2.2.2.2.1.1) cx (dA ddX8_fillsBy (i := 36) rfl) h0 ?_
      refine x_iload_n (pc := 85) cx (dA ddX8_fillsBy (i := 37) rfl) rfl ?_
      refine x_iaload (pc := 86) cx (dA ddX8_fillsBy (i := 38) rfl) hM.2.2.2.2.2.2.2.1.2 hr (by decide) ?_
      rw [hR5.2.2.1]
      refine x_bipush (pc := 87) (v := nI 10) cx (dA ddX8_fillsBy (i := 39) rfl) (by decide) ?_
      refine x_irem (pc := 89) cx (by decide) (dA ddX8_fillsBy (i := 40) rfl) ?_
      rw [rem32 (by omega) (by omega) (by omega)]
      refine x_irem (pc := 90) cx (nI_ne0 (by omega) (by omega)) (dA ddX8_fillsBy (i := 41) rfl) ?_
      rw [rem32 (by omega) (by omega) (by omega)]
      have ml := Nat.mod_lt d b3.2.1
      refine x_if_ne (pc := 91) (tgt := 98) cx (dA ddX8_fillsBy (i := 42) rfl) (by decide) (fun c91 => ?_) (fun c91 => ?_)
      · have c91 : ¬ d % (b % 10) = 0 := fun e => c91 (by rw [e]; rfl)
        refine x_iconst (pc := 98) (v := nI 0) cx (dA ddX8_fillsBy (i := 45) rfl) (by decide) ?_
        refine x_zreturn (pc := 99) cx (dA ddX8_fillsBy (i := 46) rfl) (by first | exact Nat.le_of_ble_eq_true rfl | omega) (by first | exact Nat.le_of_ble_eq_true rfl | omega) rfl ?_
        refine rI ?_
        simp only [fillsP, Bool.or_eq_true, decide_eq_true_eq]
        first | exact (b2i_t (Or.inl (by omega))).symm | exact (b2i_t (Or.inr c91)).symm | exact (b2i_f (fun h => h.elim (fun h => by omega) c91)).symm
      · have c91 : d % (b % 10) = 0 := nI_inj (b := 0) (by omega) (by decide) c91
        refine x_iconst (pc := 94) (v := nI 1) cx (dA ddX8_fillsBy (i := 43) rfl) (by decide) ?_
        refine x_goto (pc := 95) (tgt := 99) cx (dA ddX8_fillsBy (i := 44) rfl) (by decide) ?_
        refine x_zreturn (pc := 99) cx (dA ddX8_fillsBy (i := 46) rfl) (by first | exact Nat.le_of_ble_eq_true rfl | omega) (by first | exact Nat.le_of_ble_eq_true rfl | omega) rfl ?_
        refine rI ?_
        simp only [fillsP, Bool.or_eq_true, decide_eq_true_eq]
        first | exact (b2i_t (Or.inl (by omega))).symm | exact (b2i_t (Or.inr c91)).symm | exact (b2i_f (fun h => h.elim (fun h => by omega) c91)).symm
  refine x_tabOut (pc := 6) (tgt := 100) cx (dA ddX8_fillsBy (i := 4) rfl) (by have t0 := lv_neT (a := 1) c6_0 (by decide); have t1 := lv_neT (a := 2) c6_1 (by decide); have t2 := lv_neT (a := 3) c6_2 (by decide); omega) (by decide) ?_
  have ek : κ = 5 := by
    rcases (show κ = 1 ∨ κ = 2 ∨ κ = 3 ∨ κ = 5 by omega) with h | h | h | h
    · exact absurd (by rw [h]; rfl) c6_0
    · exact absurd (by rw [h]; rfl) c6_1
    · exact absurd (by rw [h]; rfl) c6_2
    · exact h
  subst ek
  have tv := hR5.2.2.2.2.2.2 rfl s hs
  refine x_aload_n (pc := 100) cx (dA ddX8_fillsBy (i := 47) rfl) rfl ?_
  refine gX8_36 (pc := 101) (rfA hM.2.2.2.2.2.2.2.2.1.1) cx (dA ddX8_fillsBy (i := 48) rfl) h0 ?_
  refine x_iload_n (pc := 104) cx (dA ddX8_fillsBy (i := 49) rfl) rfl ?_
  refine x_aaload (pc := 105) cx (dA ddX8_fillsBy (i := 50) rfl) hM.2.2.2.2.2.2.2.2.1.2.1 (by decide) (by decide) hr (by decide) ?_
  rw [arA (hM.2.2.2.2.2.2.2.2.1.2.2 r hr).1]
  refine x_iload_n (pc := 106) cx (dA ddX8_fillsBy (i := 51) rfl) rfl ?_
  refine x_iaload (pc := 107) cx (dA ddX8_fillsBy (i := 52) rfl) (hM.2.2.2.2.2.2.2.2.1.2.2 r hr).2 hs (by decide) ?_
  rw [tv]
  refine x_iconst (pc := 108) (v := nI 1) cx (dA ddX8_fillsBy (i := 53) rfl) (by decide) ?_
  refine x_icmp_ne (pc := 109) (tgt := 116) cx (dA ddX8_fillsBy (i := 54) rfl) (by decide) (fun c109 => ?_) (fun c109 => ?_)
  · have c109 : ¬ (decide (s < m) && rf s) = true := fun q => c109 (by rw [if_pos q])
    refine x_iconst (pc := 116) (v := nI 0) cx (dA ddX8_fillsBy (i := 57) rfl) (by decide) ?_
    refine x_zreturn (pc := 117) cx (dA ddX8_fillsBy (i := 58) rfl) (by first | exact Nat.le_of_ble_eq_true rfl | omega) (by first | exact Nat.le_of_ble_eq_true rfl | omega) rfl ?_
    refine rI ?_
    first | exact (b2i_t c109).symm | exact (b2i_f c109).symm
  · have c109 : (decide (s < m) && rf s) = true := Classical.byContradiction (fun q => by rw [if_neg q] at c109; exact absurd c109 (by decide))
    refine x_iconst (pc := 112) (v := nI 1) cx (dA ddX8_fillsBy (i := 55) rfl) (by decide) ?_
    refine x_goto (pc := 113) (tgt := 117) cx (dA ddX8_fillsBy (i := 56) rfl) (by decide) ?_
    refine x_zreturn (pc := 117) cx (dA ddX8_fillsBy (i := 58) rfl) (by first | exact Nat.le_of_ble_eq_true rfl | omega) (by first | exact Nat.le_of_ble_eq_true rfl | omega) rfl ?_
    refine rI ?_
    first | exact (b2i_t c109).symm | exact (b2i_f c109).symm
