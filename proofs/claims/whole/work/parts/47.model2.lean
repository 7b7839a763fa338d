theorem sub1_toInt {c : Nat} (hc : c < 2 ^ 31) : (nI c - nI 1).toInt = (c : Int) - 1 := by
  cases c with
  | zero => decide
  | succ n => rw [pk_sub (Nat.succ_le_succ (Nat.zero_le _)), nI_toInt (by omega)]; omega
theorem dig0 (s : Nat) : dig s 0 = s % 5 := by unfold dig; rw [Nat.pow_zero, Nat.div_one]
theorem dig1 (s : Nat) : dig s 1 = s / 5 % 5 := rfl
theorem dig2 {s : Nat} (h : s < 125) : dig s 2 = s / 25 := by
  show s / 25 % 5 = s / 25
  omega
theorem dle_iff {q s : Nat} (hq : q < 125) (hs : s < 125) : dle q s = true ↔ q % 5 ≤ s % 5 ∧ q / 5 % 5 ≤ s / 5 % 5 ∧ q / 25 ≤ s / 25 := by
  unfold dle
  rw [dig0, dig0, dig1, dig1, dig2 hq, dig2 hs, Bool.and_eq_true, Bool.and_eq_true, decide_eq_true_eq, decide_eq_true_eq, decide_eq_true_eq]
theorem c_X8_isHouse {l : Launch} {Z : zP} {G : zG} {V : zV} {y : Nat} (hM : ModelAt Z G y) {c : Nat} (hc : V.1 411 y = nI c) (c6 : c ≤ 6) {x : Int32} : CT l Z yX8_isHouse cX8_isHouse 2 (some .boolean) 1 0 0 [.ref y, .int x] G V (pI (b2i (0 ≤ x.toInt ∧ x.toInt < (c : Int))) G V) := by
  refine CT.of (by decide +kernel) (Nat.le_of_ble_eq_true rfl) (fun X hX cx => ?_)
  subst hX
  show Wm Z X 2 G V 0 0 _ 0 [(0, some (.ref y)), (1, some (.int x))] []
  have h0 := hM.1
  refine x_iload_n (pc := 0) cx (dA ddX8_isHouse (i := 0) rfl) rfl ?_
  refine x_i2l (pc := 1) cx (dA ddX8_isHouse (i := 1) rfl) ?_
  refine x_lconst (pc := 2) (v := lN 0) cx (dA ddX8_isHouse (i := 2) rfl) rfl ?_
  refine x_aload_n (pc := 3) cx (dA ddX8_isHouse (i := 3) rfl) rfl ?_
  refine gX8_91 (pc := 4) (congrArg Value.int hc) cx (dA ddX8_isHouse (i := 4) rfl) h0 ?_
  refine x_iconst (pc := 7) (v := nI 1) cx (dA ddX8_isHouse (i := 5) rfl) (by decide) ?_
  refine x_isub (pc := 8) cx (dA ddX8_isHouse (i := 6) rfl) ?_
  refine x_i2l (pc := 9) cx (dA ddX8_isHouse (i := 7) rfl) ?_
  refine x_S3 (pc := 10) mX8_94 c_X8_in cx (dA ddX8_isHouse (i := 8) rfl) (kI ?_)
  refine x_zreturn (pc := 13) cx (dA ddX8_isHouse (i := 9) rfl) (by first | exact Nat.le_of_ble_eq_true rfl | omega) (by first | exact Nat.le_of_ble_eq_true rfl | omega) b2i_nar ?_
  refine rI (b2i_congr ?_)
  rw [l0_toInt, tl_toInt, tl_toInt, sub1_toInt (by omega)]
  omega
theorem c_X8_isState_n {l : Launch} {Z : zP} {G : zG} {V : zV} {y : Nat} (hM : ModelAt Z G y) {c : Nat} (hc : V.1 411 y = nI c) (c6 : c ≤ 6) {v x : Int32} (hv : ¬ (0 ≤ v.toInt ∧ v.toInt < (c : Int))) : CT l Z yX8_isState cX8_isState 3 (some .boolean) 2 0 0 [.ref y, .int v, .int x] G V (pI 0 G V) := by
  refine CT.of (by decide +kernel) (Nat.le_of_ble_eq_true rfl) (fun X hX cx => ?_)
  subst hX
  show Wm Z X 3 G V 0 0 _ 0 [(0, some (.ref y)), (1, some (.int v)), (2, some (.int x))] []
  have h0 := hM.1
  refine x_aload_n (pc := 0) cx (dA ddX8_isState (i := 0) rfl) rfl ?_
  refine x_iload_n (pc := 1) cx (dA ddX8_isState (i := 1) rfl) rfl ?_
  refine x_V1 (pc := 2) mX8_106 h0 (c_X8_isHouse hM hc c6) cx (dA ddX8_isState (i := 2) rfl) (kI ?_)
  refine x_if_eq (pc := 5) (tgt := 29) cx (dA ddX8_isState (i := 3) rfl) (by decide) (fun c5 => ?_) (fun c5 => absurd (b2i_f hv) c5)
  refine x_iconst (pc := 29) (v := nI 0) cx (dA ddX8_isState (i := 17) rfl) (by decide) ?_
  refine x_zreturn (pc := 30) cx (dA ddX8_isState (i := 18) rfl) (by first | exact Nat.le_of_ble_eq_true rfl | omega) (by first | exact Nat.le_of_ble_eq_true rfl | omega) rfl ?_
  exact rI rfl
theorem c_X8_isLeft_n {l : Launch} {Z : zP} {G : zG} {V : zV} {y : Nat} (hM : ModelAt Z G y) {c : Nat} (hc : V.1 411 y = nI c) (c6 : c ≤ 6) {v x : Int32} (hv : ¬ (0 ≤ v.toInt ∧ v.toInt < (c : Int))) : CT l Z yX8_isLeft cX8_isLeft 3 (some .boolean) 2 0 0 [.ref y, .int v, .int x] G V (pI 0 G V) := by
  refine CT.of (by decide +kernel) (Nat.le_of_ble_eq_true rfl) (fun X hX cx => ?_)
  subst hX
  show Wm Z X 3 G V 0 0 _ 0 [(0, some (.ref y)), (1, some (.int v)), (2, some (.int x))] []
  have h0 := hM.1
  refine x_aload_n (pc := 0) cx (dA ddX8_isLeft (i := 0) rfl) rfl ?_
  refine x_iload_n (pc := 1) cx (dA ddX8_isLeft (i := 1) rfl) rfl ?_
  refine x_V1 (pc := 2) mX8_106 h0 (c_X8_isHouse hM hc c6) cx (dA ddX8_isLeft (i := 2) rfl) (kI ?_)
  refine x_if_eq (pc := 5) (tgt := 30) cx (dA ddX8_isLeft (i := 3) rfl) (by decide) (fun c5 => ?_) (fun c5 => absurd (b2i_f hv) c5)
  refine x_iconst (pc := 30) (v := nI 0) cx (dA ddX8_isLeft (i := 18) rfl) (by decide) ?_
  refine x_zreturn (pc := 31) cx (dA ddX8_isLeft (i := 19) rfl) (by first | exact Nat.le_of_ble_eq_true rfl | omega) (by first | exact Nat.le_of_ble_eq_true rfl | omega) rfl ?_
  exact rI rfl
theorem c_X8_isState {l : Launch} {Z : zP} {G : zG} {V : zV} {y : Nat} (hM : ModelAt Z G y) {c : Nat} (hc : V.1 411 y = nI c) (c6 : c ≤ 6) {h : Nat} (hh : h < 8) {N : Nat → Nat} (hR : MH V y h N) (hB : HouseB N) (hi : h < c) {x : Int32} : CT l Z yX8_isState cX8_isState 3 (some .boolean) 2 0 0 [.ref y, .int (nI h), .int x] G V (pI (b2i (0 ≤ x.toInt ∧ x.toInt < (5 ^ N 4 : Nat))) G V) := by
  refine CT.of (by decide +kernel) (Nat.le_of_ble_eq_true rfl) (fun X hX cx => ?_)
  subst hX
  show Wm Z X 3 G V 0 0 _ 0 [(0, some (.ref y)), (1, some (.int (nI h))), (2, some (.int x))] []
  have h0 := hM.1
  have hv : 0 ≤ (nI h).toInt ∧ (nI h).toInt < (c : Int) := by rw [nI_toInt (by omega)]; omega
  have n125 := st125 hB.1
  refine x_aload_n (pc := 0) cx (dA ddX8_isState (i := 0) rfl) rfl ?_
  refine x_iload_n (pc := 1) cx (dA ddX8_isState (i := 1) rfl) rfl ?_
  refine x_V1 (pc := 2) mX8_106 h0 (c_X8_isHouse hM hc c6) cx (dA ddX8_isState (i := 2) rfl) (kI ?_)
  refine x_if_eq (pc := 5) (tgt := 29) cx (dA ddX8_isState (i := 3) rfl) (by decide) (fun c5 => absurd c5 (fun q => b2i_eq q hv)) (fun c5 => ?_)
  refine x_iload_n (pc := 8) cx (dA ddX8_isState (i := 4) rfl) rfl ?_
  refine x_i2l (pc := 9) cx (dA ddX8_isState (i := 5) rfl) ?_
  refine x_lconst (pc := 10) (v := lN 0) cx (dA ddX8_isState (i := 6) rfl) rfl ?_
  refine x_aload_n (pc := 11) cx (dA ddX8_isState (i := 7) rfl) rfl ?_
  refine x_iload_n (pc := 12) cx (dA ddX8_isState (i := 8) rfl) rfl ?_
  refine x_V1 (pc := 13) mX8_110 h0 (c_X8_states hM hh hR hB) cx (dA ddX8_isState (i := 9) rfl) (kI ?_)
  refine x_iconst (pc := 16) (v := nI 1) cx (dA ddX8_isState (i := 10) rfl) (by decide) ?_
  refine x_isub (pc := 17) cx (dA ddX8_isState (i := 11) rfl) ?_
  refine x_i2l (pc := 18) cx (dA ddX8_isState (i := 12) rfl) ?_
  refine x_S3 (pc := 19) mX8_94 c_X8_in cx (dA ddX8_isState (i := 13) rfl) (kI ?_)
  refine x_if_eq (pc := 22) (tgt := 29) cx (dA ddX8_isState (i := 14) rfl) (by decide) (fun c22 => ?_) (fun c22 => ?_)
  · have c22 := b2i_eq c22
    rw [l0_toInt, tl_toInt, tl_toInt, sub1_toInt (by omega)] at c22
    refine x_iconst (pc := 29) (v := nI 0) cx (dA ddX8_isState (i := 17) rfl) (by decide) ?_
    refine x_zreturn (pc := 30) cx (dA ddX8_isState (i := 18) rfl) (by first | exact Nat.le_of_ble_eq_true rfl | omega) (by first | exact Nat.le_of_ble_eq_true rfl | omega) rfl ?_
    refine rI ?_
    first | exact (b2i_t (by omega)).symm | exact (b2i_f (by omega)).symm
  · have c22 := b2i_ne c22
    rw [l0_toInt, tl_toInt, tl_toInt, sub1_toInt (by omega)] at c22
    refine x_iconst (pc := 25) (v := nI 1) cx (dA ddX8_isState (i := 15) rfl) (by decide) ?_
    refine x_goto (pc := 26) (tgt := 30) cx (dA ddX8_isState (i := 16) rfl) (by decide) ?_
    refine x_zreturn (pc := 30) cx (dA ddX8_isState (i := 18) rfl) (by first | exact Nat.le_of_ble_eq_true rfl | omega) (by first | exact Nat.le_of_ble_eq_true rfl | omega) rfl ?_
    refine rI ?_
    first | exact (b2i_t (by omega)).symm | exact (b2i_f (by omega)).symm
theorem c_X8_isLeft {l : Launch} {Z : zP} {G : zG} {V : zV} {y : Nat} (hM : ModelAt Z G y) {c : Nat} (hc : V.1 411 y = nI c) (c6 : c ≤ 6) {h : Nat} (hh : h < 8) {N : Nat → Nat} (hR : MH V y h N) (hB : HouseB N) (hi : h < c) {x : Int32} : CT l Z yX8_isLeft cX8_isLeft 3 (some .boolean) 2 0 0 [.ref y, .int (nI h), .int x] G V (pI (b2i (0 ≤ x.toInt ∧ x.toInt ≤ (N 0 : Nat))) G V) := by
  refine CT.of (by decide +kernel) (Nat.le_of_ble_eq_true rfl) (fun X hX cx => ?_)
  subst hX
  show Wm Z X 3 G V 0 0 _ 0 [(0, some (.ref y)), (1, some (.int (nI h))), (2, some (.int x))] []
  have h0 := hM.1
  have hv : 0 ≤ (nI h).toInt ∧ (nI h).toInt < (c : Int) := by rw [nI_toInt (by omega)]; omega
  have b0 := hB.2 0 (by omega)
  refine x_aload_n (pc := 0) cx (dA ddX8_isLeft (i := 0) rfl) rfl ?_
  refine x_iload_n (pc := 1) cx (dA ddX8_isLeft (i := 1) rfl) rfl ?_
  refine x_V1 (pc := 2) mX8_106 h0 (c_X8_isHouse hM hc c6) cx (dA ddX8_isLeft (i := 2) rfl) (kI ?_)
  refine x_if_eq (pc := 5) (tgt := 30) cx (dA ddX8_isLeft (i := 3) rfl) (by decide) (fun c5 => absurd c5 (fun q => b2i_eq q hv)) (fun c5 => ?_)
  refine x_iload_n (pc := 8) cx (dA ddX8_isLeft (i := 4) rfl) rfl ?_
  refine x_i2l (pc := 9) cx (dA ddX8_isLeft (i := 5) rfl) ?_
  refine x_lconst (pc := 10) (v := lN 0) cx (dA ddX8_isLeft (i := 6) rfl) rfl ?_
  refine x_aload_n (pc := 11) cx (dA ddX8_isLeft (i := 7) rfl) rfl ?_
  refine gX8_45 (pc := 12) (rfA hM.2.2.2.2.2.2.2.2.2.2.2.1.1) cx (dA ddX8_isLeft (i := 8) rfl) h0 ?_
  refine x_iload_n (pc := 15) cx (dA ddX8_isLeft (i := 9) rfl) rfl ?_
  refine x_aaload (pc := 16) cx (dA ddX8_isLeft (i := 10) rfl) hM.2.2.2.2.2.2.2.2.2.2.2.1.2.1 (by decide) (by decide) hh (by decide) ?_
  rw [arA (hM.2.2.2.2.2.2.2.2.2.2.2.1.2.2 h hh).1]
  refine x_iconst (pc := 17) (v := nI 0) cx (dA ddX8_isLeft (i := 11) rfl) (by decide) ?_
  refine x_iaload (pc := 18) cx (dA ddX8_isLeft (i := 12) rfl) (hM.2.2.2.2.2.2.2.2.2.2.2.1.2.2 h hh).2 (by decide) (by decide) ?_
  rw [hR 0 (by omega)]
  refine x_i2l (pc := 19) cx (dA ddX8_isLeft (i := 13) rfl) ?_
  refine x_S3 (pc := 20) mX8_94 c_X8_in cx (dA ddX8_isLeft (i := 14) rfl) (kI ?_)
  refine x_if_eq (pc := 23) (tgt := 30) cx (dA ddX8_isLeft (i := 15) rfl) (by decide) (fun c23 => ?_) (fun c23 => ?_)
  · have c23 := b2i_eq c23
    rw [l0_toInt, tl_toInt, tl_toInt, nI_toInt (by omega)] at c23
    refine x_iconst (pc := 30) (v := nI 0) cx (dA ddX8_isLeft (i := 18) rfl) (by decide) ?_
    refine x_zreturn (pc := 31) cx (dA ddX8_isLeft (i := 19) rfl) (by first | exact Nat.le_of_ble_eq_true rfl | omega) (by first | exact Nat.le_of_ble_eq_true rfl | omega) rfl ?_
    refine rI ?_
    first | exact (b2i_t (by omega)).symm | exact (b2i_f (by omega)).symm
  · have c23 := b2i_ne c23
    rw [l0_toInt, tl_toInt, tl_toInt, nI_toInt (by omega)] at c23
    refine x_iconst (pc := 26) (v := nI 1) cx (dA ddX8_isLeft (i := 16) rfl) (by decide) ?_
    refine x_goto (pc := 27) (tgt := 31) cx (dA ddX8_isLeft (i := 17) rfl) (by decide) ?_
    refine x_zreturn (pc := 31) cx (dA ddX8_isLeft (i := 19) rfl) (by first | exact Nat.le_of_ble_eq_true rfl | omega) (by first | exact Nat.le_of_ble_eq_true rfl | omega) rfl ?_
    refine rI ?_
    first | exact (b2i_t (by omega)).symm | exact (b2i_f (by omega)).symm
theorem c_X8_hasRoom {l : Launch} {Z : zP} {G : zG} {V : zV} {y : Nat} (hM : ModelAt Z G y) {h : Nat} (hh : h < 8) {N : Nat → Nat} (hR : MH V y h N) (hB : HouseB N) (hrm : ∀ s, s < 5 ^ N 4 → V.2.2.1 (y + 83) s = nI (sumP N s 0)) {r : Nat} (hr : r < 2 ^ 31) : CT l Z yX8_hasRoom cX8_hasRoom 4 (some .boolean) 2 0 0 [.ref y, .int (nI h), .int (nI r)] G V (pI (b2i (rmA N r (5 ^ N 4) = true)) G V) := by
  refine CT.of (by decide +kernel) (Nat.le_of_ble_eq_true rfl) (fun X hX cx => ?_)
  subst hX
  show Wm Z X 4 G V 0 0 _ 0 [(0, some (.ref y)), (1, some (.int (nI h))), (2, some (.int (nI r)))] []
  have h0 := hM.1
  have n125 := st125 hB.1
  refine x_iconst (pc := 0) (v := nI 0) cx (dA ddX8_hasRoom (i := 0) rfl) (by decide) ?_
  refine x_istore_n (pc := 1) cx (dA ddX8_hasRoom (i := 1) rfl) (by decide) rfl ?_
  have L2 : ∀ s, s ≤ 5 ^ N 4 → rmA N r s = false → Wm Z X 4 G V 0 0 (rQ Z X 0 0 (pI (b2i (rmA N r (5 ^ N 4) = true)) G V)) 2 [(0, some (.ref y)), (1, some (.int (nI h))), (2, some (.int (nI r))), (3, some (.int (nI s)))] [] := by
    refine lpU (5 ^ N 4) (fun s hs ih => ?_)
    intro h0r
    refine x_iload_n (pc := 2) cx (dA ddX8_hasRoom (i := 2) rfl) rfl ?_
    refine x_aload_n (pc := 3) cx (dA ddX8_hasRoom (i := 3) rfl) rfl ?_
    refine x_iload_n (pc := 4) cx (dA ddX8_hasRoom (i := 4) rfl) rfl ?_
    refine x_V1 (pc := 5) mX8_110 h0 (c_X8_states hM hh hR hB) cx (dA ddX8_hasRoom (i := 5) rfl) (kI ?_)
    refine x_icmp_ge (pc := 8) (tgt := 29) cx (dA ddX8_hasRoom (i := 6) rfl) (by decide) (fun c8 => ?_) (fun c8 => ?_)
    · have c8 := cleT (by omega) (by omega) c8
      have es : s = 5 ^ N 4 := by omega
      subst es
      refine x_iconst (pc := 29) (v := nI 0) cx (dA ddX8_hasRoom (i := 17) rfl) (by decide) ?_
      refine x_zreturn (pc := 30) cx (dA ddX8_hasRoom (i := 18) rfl) (by first | exact Nat.le_of_ble_eq_true rfl | omega) (by first | exact Nat.le_of_ble_eq_true rfl | omega) rfl ?_
      exact rI (b2i_f (by rw [h0r]; exact fun q => Bool.noConfusion q)).symm
    · have c8 := cleF (by omega) (by omega) c8
      have rl := sumP_lt hB (s := s) (w := 0) (by omega)
      refine x_aload_n (pc := 11) cx (dA ddX8_hasRoom (i := 7) rfl) rfl ?_
      refine gX8_76 (pc := 12) (rfA hM.2.2.2.2.2.2.2.2.2.2.2.2.2.2.2.2.2.2.2.2.1.1) cx (dA ddX8_hasRoom (i := 8) rfl) h0 ?_
      refine x_iload_n (pc := 15) cx (dA ddX8_hasRoom (i := 9) rfl) rfl ?_
      refine x_iaload (pc := 16) cx (dA ddX8_hasRoom (i := 10) rfl) hM.2.2.2.2.2.2.2.2.2.2.2.2.2.2.2.2.2.2.2.2.1.2 (by omega) (by decide) ?_
      rw [hrm s c8]
      refine x_iload_n (pc := 17) cx (dA ddX8_hasRoom (i := 11) rfl) rfl ?_
      refine x_icmp_ne (pc := 18) (tgt := 23) cx (dA ddX8_hasRoom (i := 12) rfl) (by decide) (fun c18 => ?_) (fun c18 => ?_)
      · have c18 := ceqF (by omega) (by omega) c18
        have e9 : rmA N r (s + 1) = false := by show (rmA N r s || decide _) = false; rw [h0r, decide_eq_false c18]; rfl
        refine x_iinc (pc := 23) cx (dA ddX8_hasRoom (i := 15) rfl) rfl (iinc1 _) (by decide) rfl ?_
        refine x_goto (pc := 26) (tgt := 2) cx (dA ddX8_hasRoom (i := 16) rfl) (by decide) ?_
        exact x_enter (ih (by omega) e9) ⟨.inr rfl, .inr rfl, .inr rfl, .inr rfl, trivial⟩
      · have c18 := ceqT (by omega) (by omega) c18
        refine x_iconst (pc := 21) (v := nI 1) cx (dA ddX8_hasRoom (i := 13) rfl) (by decide) ?_
        refine x_zreturn (pc := 22) cx (dA ddX8_hasRoom (i := 14) rfl) (by first | exact Nat.le_of_ble_eq_true rfl | omega) (by first | exact Nat.le_of_ble_eq_true rfl | omega) rfl ?_
        exact rI (b2i_t (rmA_t c18 c8)).symm
  exact x_enter (L2 0 (Nat.zero_le _) rfl) ⟨.inr rfl, .inr rfl, .inr rfl, .inr rfl, trivial⟩
theorem c_X8_isLoad {l : Launch} {Z : zP} {G : zG} {V : zV} {y : Nat} (hM : ModelAt Z G y) {h : Nat} (hh : h < 8) {N : Nat → Nat} (hR : MH V y h N) (hB : HouseB N) {s q : Nat} (hs : s < 125) (hq : q < 125) : CT l Z yX8_isLoad cX8_isLoad 4 (some .boolean) 3 0 0 [.ref y, .int (nI h), .int (nI s), .int (nI q)] G V (pI (b2i (dle q s = true ∧ sumP N q 0 ≤ N 2)) G V) := by
  refine CT.of (by decide +kernel) (Nat.le_of_ble_eq_true rfl) (fun X hX cx => ?_)
  subst hX
  show Wm Z X 4 G V 0 0 _ 0 [(0, some (.ref y)), (1, some (.int (nI h))), (2, some (.int (nI s))), (3, some (.int (nI q)))] []
  have h0 := hM.1
  have di := dle_iff hq hs
  refine x_iload_n (pc := 0) cx (dA ddX8_isLoad (i := 0) rfl) rfl ?_
  refine x_iconst (pc := 1) (v := nI 5) cx (dA ddX8_isLoad (i := 1) rfl) (by decide) ?_
  refine x_irem (pc := 2) cx (by decide) (dA ddX8_isLoad (i := 2) rfl) ?_
  refine x_iload_n (pc := 3) cx (dA ddX8_isLoad (i := 3) rfl) rfl ?_
  refine x_iconst (pc := 4) (v := nI 5) cx (dA ddX8_isLoad (i := 4) rfl) (by decide) ?_
  refine x_irem (pc := 5) cx (by decide) (dA ddX8_isLoad (i := 5) rfl) ?_
  rw [rem32 (by omega) (by omega) (by omega), rem32 (by omega) (by omega) (by omega)]
  refine x_icmp_gt (pc := 6) (tgt := 33) cx (dA ddX8_isLoad (i := 6) rfl) (by decide) (fun c6 => ?_) (fun c6 => ?_)
  · have c6 := cltT (by omega) (by omega) c6
    refine x_iconst (pc := 33) (v := nI 0) cx (dA ddX8_isLoad (i := 25) rfl) (by decide) ?_
    refine x_zreturn (pc := 34) cx (dA ddX8_isLoad (i := 26) rfl) (by first | exact Nat.le_of_ble_eq_true rfl | omega) (by first | exact Nat.le_of_ble_eq_true rfl | omega) rfl ?_
    exact rI (b2i_f (fun h => by have := di.mp h.1; omega)).symm
  · have c6 := cltF (by omega) (by omega) c6
    refine x_iload_n (pc := 9) cx (dA ddX8_isLoad (i := 7) rfl) rfl ?_
    refine x_iconst (pc := 10) (v := nI 5) cx (dA ddX8_isLoad (i := 8) rfl) (by decide) ?_
    refine x_idiv (pc := 11) cx (by decide) (dA ddX8_isLoad (i := 9) rfl) ?_
    refine x_iconst (pc := 12) (v := nI 5) cx (dA ddX8_isLoad (i := 10) rfl) (by decide) ?_
    refine x_irem (pc := 13) cx (by decide) (dA ddX8_isLoad (i := 11) rfl) ?_
    refine x_iload_n (pc := 14) cx (dA ddX8_isLoad (i := 12) rfl) rfl ?_
    refine x_iconst (pc := 15) (v := nI 5) cx (dA ddX8_isLoad (i := 13) rfl) (by decide) ?_
    refine x_idiv (pc := 16) cx (by decide) (dA ddX8_isLoad (i := 14) rfl) ?_
    refine x_iconst (pc := 17) (v := nI 5) cx (dA ddX8_isLoad (i := 15) rfl) (by decide) ?_
    refine x_irem (pc := 18) cx (by decide) (dA ddX8_isLoad (i := 16) rfl) ?_
    rw [div32 (by omega) (by omega) (by omega), rem32 (by omega) (by omega) (by omega), div32 (by omega) (by omega) (by omega), rem32 (by omega) (by omega) (by omega)]
    refine x_icmp_gt (pc := 19) (tgt := 33) cx (dA ddX8_isLoad (i := 17) rfl) (by decide) (fun c19 => ?_) (fun c19 => ?_)
    · have c19 := cltT (by omega) (by omega) c19
      refine x_iconst (pc := 33) (v := nI 0) cx (dA ddX8_isLoad (i := 25) rfl) (by decide) ?_
      refine x_zreturn (pc := 34) cx (dA ddX8_isLoad (i := 26) rfl) (by first | exact Nat.le_of_ble_eq_true rfl | omega) (by first | exact Nat.le_of_ble_eq_true rfl | omega) rfl ?_
      exact rI (b2i_f (fun h => by have := di.mp h.1; omega)).symm
    · have c19 := cltF (by omega) (by omega) c19
      refine x_iload_n (pc := 22) cx (dA ddX8_isLoad (i := 18) rfl) rfl ?_
      refine x_bipush (pc := 23) (v := nI 25) cx (dA ddX8_isLoad (i := 19) rfl) (by decide) ?_
      refine x_idiv (pc := 25) cx (by decide) (dA ddX8_isLoad (i := 20) rfl) ?_
      refine x_iload_n (pc := 26) cx (dA ddX8_isLoad (i := 21) rfl) rfl ?_
      refine x_bipush (pc := 27) (v := nI 25) cx (dA ddX8_isLoad (i := 22) rfl) (by decide) ?_
      refine x_idiv (pc := 29) cx (by decide) (dA ddX8_isLoad (i := 23) rfl) ?_
      rw [div32 (by omega) (by omega) (by omega), div32 (by omega) (by omega) (by omega)]
      refine x_icmp_le (pc := 30) (tgt := 35) cx (dA ddX8_isLoad (i := 24) rfl) (by decide) (fun c30 => ?_) (fun c30 => ?_)
      · have c30 := cleT (by omega) (by omega) c30
        refine x_aload_n (pc := 35) cx (dA ddX8_isLoad (i := 27) rfl) rfl ?_
        refine x_iload_n (pc := 36) cx (dA ddX8_isLoad (i := 28) rfl) rfl ?_
        refine x_iload_n (pc := 37) cx (dA ddX8_isLoad (i := 29) rfl) rfl ?_
        refine x_iconst (pc := 38) (v := nI 0) cx (dA ddX8_isLoad (i := 30) rfl) (by decide) ?_
        refine x_V3 (pc := 39) mX8_236 h0 (c_X8_sum hM hh hR hB (s := q) (w := 0) hq (by omega)) cx (dA ddX8_isLoad (i := 31) rfl) (kI ?_)
        have rl := sumP_lt hB (s := q) (w := 0) (by omega)
        have b2 := hB.2 2 (by omega)
        refine x_aload_n (pc := 42) cx (dA ddX8_isLoad (i := 32) rfl) rfl ?_
        refine gX8_45 (pc := 43) (rfA hM.2.2.2.2.2.2.2.2.2.2.2.1.1) cx (dA ddX8_isLoad (i := 33) rfl) h0 ?_
        refine x_iload_n (pc := 46) cx (dA ddX8_isLoad (i := 34) rfl) rfl ?_
        refine x_aaload (pc := 47) cx (dA ddX8_isLoad (i := 35) rfl) hM.2.2.2.2.2.2.2.2.2.2.2.1.2.1 (by decide) (by decide) hh (by decide) ?_
        rw [arA (hM.2.2.2.2.2.2.2.2.2.2.2.1.2.2 h hh).1]
        refine x_iconst (pc := 48) (v := nI 2) cx (dA ddX8_isLoad (i := 36) rfl) (by decide) ?_
        refine x_iaload (pc := 49) cx (dA ddX8_isLoad (i := 37) rfl) (hM.2.2.2.2.2.2.2.2.2.2.2.1.2.2 h hh).2 (by decide) (by decide) ?_
        rw [hR 2 (by omega)]
        refine x_icmp_gt (pc := 50) (tgt := 57) cx (dA ddX8_isLoad (i := 38) rfl) (by decide) (fun c50 => ?_) (fun c50 => ?_)
        · have c50 := cltT (by omega) (by omega) c50
          refine x_iconst (pc := 57) (v := nI 0) cx (dA ddX8_isLoad (i := 41) rfl) (by decide) ?_
          refine x_zreturn (pc := 58) cx (dA ddX8_isLoad (i := 42) rfl) (by first | exact Nat.le_of_ble_eq_true rfl | omega) (by first | exact Nat.le_of_ble_eq_true rfl | omega) rfl ?_
          refine rI ?_
          have d9 : dle q s = true := di.mpr (by omega)
          first | exact (b2i_t ⟨d9, by omega⟩).symm | exact (b2i_f (fun h => by have := h.2; omega)).symm
        · have c50 := cltF (by omega) (by omega) c50
          refine x_iconst (pc := 53) (v := nI 1) cx (dA ddX8_isLoad (i := 39) rfl) (by decide) ?_
          refine x_goto (pc := 54) (tgt := 58) cx (dA ddX8_isLoad (i := 40) rfl) (by decide) ?_
          refine x_zreturn (pc := 58) cx (dA ddX8_isLoad (i := 42) rfl) (by first | exact Nat.le_of_ble_eq_true rfl | omega) (by first | exact Nat.le_of_ble_eq_true rfl | omega) rfl ?_
          refine rI ?_
          have d9 : dle q s = true := di.mpr (by omega)
          first | exact (b2i_t ⟨d9, by omega⟩).symm | exact (b2i_f (fun h => by have := h.2; omega)).symm
      · have c30 := cleF (by omega) (by omega) c30
        refine x_iconst (pc := 33) (v := nI 0) cx (dA ddX8_isLoad (i := 25) rfl) (by decide) ?_
        refine x_zreturn (pc := 34) cx (dA ddX8_isLoad (i := 26) rfl) (by first | exact Nat.le_of_ble_eq_true rfl | omega) (by first | exact Nat.le_of_ble_eq_true rfl | omega) rfl ?_
        exact rI (b2i_f (fun h => by have := di.mp h.1; omega)).symm
