theorem nI_n1 {k : Nat} (h : k < 2 ^ 31) : ¬ nI k = -1 := fun e => by
  have e2 := congrArg Int32.toInt e
  rw [nI_toInt h] at e2
  have e3 : (-1 : Int32).toInt = -1 := rfl
  omega
/-- parcels that stand on a day, boxes that go -/
def mhS (N : Nat → Nat) (L : Nat → Nat → Nat) (k i s : Nat) : Nat := sumN s (fun u => chP N L i u * (N 3 * dig u k + (4 - N 3) * dig (u - L (N 0 - i) u) k))
def mbS (N : Nat → Nat) (L : Nat → Nat → Nat) (i s : Nat) : Nat := sumN s (fun u => if L (N 0 - i) u = 0 then 0 else chP N L i u * (4 - N 3))
theorem mhS_s {N : Nat → Nat} {L : Nat → Nat → Nat} {k i s : Nat} : mhS N L k i (s + 1) = mhS N L k i s + chP N L i s * (N 3 * dig s k + (4 - N 3) * dig (s - L (N 0 - i) s) k) := rfl
theorem mbS_s {N : Nat → Nat} {L : Nat → Nat → Nat} {i s : Nat} : mbS N L i (s + 1) = mbS N L i s + (if L (N 0 - i) s = 0 then 0 else chP N L i s * (4 - N 3)) := rfl
theorem heP_m {N : Nat → Nat} (hN : HOK N) {L : Nat → Nat → Nat} {k i : Nat} (hi : i < N 0) (hl : ∀ s, s < 5 ^ N 4 → L (N 0 - i) s ≤ s) : heP N L k (i + 1) = heP N L k i + mhS N L k i (5 ^ N 4) * 4 ^ N 4 * sclP N (N 0 - i - 1) := by
  show heP N L k i + _ * _ = _
  rw [spr_dig hN hl, (scl_s (show 1 ≤ N 0 - i by omega)).2, Nat.mul_assoc (mhS N L k i (5 ^ N 4)), Nat.mul_comm (4 ^ N 4)]
  rfl
theorem boP_m {N : Nat → Nat} {L : Nat → Nat → Nat} {i : Nat} (hi : i < N 0) : boP N L (i + 1) = boP N L i + mbS N L i (5 ^ N 4) * 4 ^ N 4 * sclP N (N 0 - i - 1) := by
  show boP N L i + _ * _ = _
  rw [sprS_sum, (scl_s (show 1 ≤ N 0 - i by omega)).2, Nat.mul_assoc (mbS N L i (5 ^ N 4)), Nat.mul_comm (4 ^ N 4)]
  rfl
def frV (V : zV) (y : Nat) (a : Option Nat) (b : Nat) : zV := sI (sI V 440 y (nhV a)) 441 y (nI b)
theorem fr40 {V : zV} {y b : Nat} {a : Option Nat} : (frV V y a b).1 440 y = nhV a := (sI_ne (by decide)).trans sI_eq
theorem fr41 {V : zV} {y b : Nat} {a : Option Nat} : (frV V y a b).1 441 y = nI b := sI_eq
theorem fr_s40 {V : zV} {y b r : Nat} {a : Option Nat} : sI (frV V y a b) 440 y (nI r) = frV V y (some r) b := by
  unfold frV sI u2
  congr 1
  funext f x
  by_cases hx : x = y <;> by_cases hf : f = 440 <;> simp [hx, hf, nhV]
theorem fr_s41 {V : zV} {y b r : Nat} {a : Option Nat} : sI (frV V y a b) 441 y (nI r) = frV V y a r := by
  unfold frV sI u2
  congr 1
  funext f x
  by_cases hx : x = y <;> by_cases hf : f = 441 <;> simp [hx, hf]
theorem mrA_le {N : Nat → Nat} (hB : HouseB N) {z : Nat} : ∀ n, mrA N z n ≤ 1188
  | 0 => Nat.zero_le _
  | s + 1 => by
    have ih := mrA_le hB (z := z) s
    have rl := sumP_lt hB (s := s) (w := 0) (by omega)
    show (if ldP N z s = 0 then max (mrA N z s) (sumP N s 0) else mrA N z s) ≤ 1188
    split <;> omega
theorem c_X8_meanOf_b {l : Launch} {Z : zP} {G : zG} {V : zV} {y : Nat} (hM : ModelAt Z G y) {h : Nat} (hh : h < 8) {N : Nat → Nat} (hR : MH V y h N) (hB : HouseB N) (hN : HOK N) (hmu : V.1 439 y = -1) {r κ b m : Nat} {rf : Nat → Bool} (hr : r < 9) (hR5 : MRule V y r κ b m rf) : CT l Z yX8_meanOf cX8_meanOf 14 (some .long) 6 0 0 [.ref y, .int (nI h), .int (-1), .int (nI r)] G V (pJx (lN (boP N (fun d => ruL N κ b m rf d) (N 0))) G (fun V' => MF V V' y)) := by
  refine CT.of (by decide +kernel) (Nat.le_of_ble_eq_true rfl) (fun X hX cx => ?_)
  subst hX
  show Wm Z X 14 G V 0 0 _ 0 [(0, some (.ref y)), (1, some (.int (nI h))), (2, some (.int (-1))), (3, some (.int (nI r)))] []
  have h0 := hM.1
  have b4 := hB.1
  have n125 := st125 b4
  have h06 := hN.2.1
  have b3 := hN.2.2.2.1
  have p4 : 4 ^ N 4 ≤ 64 := Nat.le_trans (Nat.pow_le_pow_right (by decide) b4) (by decide)
  have hL : ∀ d, 1 ≤ d → d ≤ 6 → ∀ s, s < 5 ^ N 4 → (fun d => ruL N κ b m rf d) d s ≤ s := fun d h1 h6 s hs => ruL_le hN h1 h6 hs
  refine x_aload_n (pc := 0) cx (dA ddX8_meanOf (i := 0) rfl) rfl ?_
  refine x_iload_n (pc := 1) cx (dA ddX8_meanOf (i := 1) rfl) rfl ?_
  refine x_iload_n (pc := 2) cx (dA ddX8_meanOf (i := 2) rfl) rfl ?_
  refine x_V2 (pc := 3) mX8_297 h0 (c_X8_findChances hM hh hR hB hN hmu hr hR5) cx (dA ddX8_meanOf (i := 3) rfl) (kVx fun V1 hF => ?_)
  refine x_aload_n (pc := 6) cx (dA ddX8_meanOf (i := 4) rfl) rfl ?_
  refine gX8_45 (pc := 7) (rfA hM.2.2.2.2.2.2.2.2.2.2.2.1.1) cx (dA ddX8_meanOf (i := 5) rfl) h0 ?_
  refine x_iload_n (pc := 10) cx (dA ddX8_meanOf (i := 6) rfl) rfl ?_
  refine x_aaload (pc := 11) cx (dA ddX8_meanOf (i := 7) rfl) hM.2.2.2.2.2.2.2.2.2.2.2.1.2.1 (by decide) (by decide) hh (by decide) ?_
  rw [arA (hM.2.2.2.2.2.2.2.2.2.2.2.1.2.2 h hh).1]
  refine x_iconst (pc := 12) (v := nI 3) cx (dA ddX8_meanOf (i := 8) rfl) (by decide) ?_
  refine x_iaload (pc := 13) cx (dA ddX8_meanOf (i := 9) rfl) (hM.2.2.2.2.2.2.2.2.2.2.2.1.2.2 h hh).2 (by decide) (by decide) ?_
  rw [((MF.of hF.1.1 (by omega) (by omega)).mh hR hh) 3 (by omega)]
  refine x_istore (pc := 14) cx (dA ddX8_meanOf (i := 10) rfl) (by decide) rfl ?_
  refine x_lconst (pc := 16) (v := lN 0) cx (dA ddX8_meanOf (i := 11) rfl) rfl ?_
  refine x_lstore (pc := 17) cx (dA ddX8_meanOf (i := 12) rfl) (by decide) rfl ?_
  refine x_aload_n (pc := 19) cx (dA ddX8_meanOf (i := 13) rfl) rfl ?_
  refine gX8_45 (pc := 20) (rfA hM.2.2.2.2.2.2.2.2.2.2.2.1.1) cx (dA ddX8_meanOf (i := 14) rfl) h0 ?_
  refine x_iload_n (pc := 23) cx (dA ddX8_meanOf (i := 15) rfl) rfl ?_
  refine x_aaload (pc := 24) cx (dA ddX8_meanOf (i := 16) rfl) hM.2.2.2.2.2.2.2.2.2.2.2.1.2.1 (by decide) (by decide) hh (by decide) ?_
  rw [arA (hM.2.2.2.2.2.2.2.2.2.2.2.1.2.2 h hh).1]
  refine x_iconst (pc := 25) (v := nI 0) cx (dA ddX8_meanOf (i := 17) rfl) (by decide) ?_
  refine x_iaload (pc := 26) cx (dA ddX8_meanOf (i := 18) rfl) (hM.2.2.2.2.2.2.2.2.2.2.2.1.2.2 h hh).2 (by decide) (by decide) ?_
  rw [((MF.of hF.1.1 (by omega) (by omega)).mh hR hh) 0 (by omega)]
  refine x_istore (pc := 27) cx (dA ddX8_meanOf (i := 19) rfl) (by decide) rfl ?_
  have L29 : ∀ i, i ≤ N 0 → Wm Z X 14 G V1 0 0 (rQ Z X 0 0 (pJx (lN (boP N (fun d => ruL N κ b m rf d) (N 0))) G (fun V' => MF V V' y))) 29 [(0, some (.ref y)), (1, some (.int (nI h))), (2, some (.int (-1))), (3, some (.int (nI r))), (4, some (.int (nI (N 3)))), (5, some (.long (lN (boP N (fun d => ruL N κ b m rf d) i)))), (7, some (.int (nI (N 0 - i))))] [] := by
    refine lpU (N 0) (fun i hi ih => ?_)
    refine x_iload (pc := 29) cx (dA ddX8_meanOf (i := 20) rfl) rfl ?_
    refine x_if_le (pc := 31) (tgt := 184) cx (dA ddX8_meanOf (i := 21) rfl) (by decide) (fun c31 => ?_) (fun c31 => ?_)
    · have ei : i = N 0 := by have := cleT (b := 0) (by omega) (by omega) c31; omega
      subst ei
      refine x_lload (pc := 184) cx (dA ddX8_meanOf (i := 109) rfl) rfl ?_
      refine x_lreturn (pc := 186) cx (dA ddX8_meanOf (i := 110) rfl) (by first | exact Nat.le_of_ble_eq_true rfl | omega) (by first | exact Nat.le_of_ble_eq_true rfl | omega) ?_
      exact ⟨rfl, rfl, MF.of hF.1.1 (by omega) (by omega)⟩
    · have l1 : 0 < N 0 - i := cleF (b := 0) (by omega) (by omega) c31
      refine x_lconst (pc := 34) (v := lN 0) cx (dA ddX8_meanOf (i := 22) rfl) rfl ?_
      refine x_lstore (pc := 35) cx (dA ddX8_meanOf (i := 23) rfl) (by decide) rfl ?_
      refine x_iconst (pc := 37) (v := nI 0) cx (dA ddX8_meanOf (i := 24) rfl) (by decide) ?_
      refine x_istore (pc := 38) cx (dA ddX8_meanOf (i := 25) rfl) (by decide) rfl ?_
      have L40 : ∀ s, s ≤ 5 ^ N 4 → Wm Z X 14 G V1 0 0 (rQ Z X 0 0 (pJx (lN (boP N (fun d => ruL N κ b m rf d) (N 0))) G (fun V' => MF V V' y))) 40 [(0, some (.ref y)), (1, some (.int (nI h))), (2, some (.int (-1))), (3, some (.int (nI r))), (4, some (.int (nI (N 3)))), (5, some (.long (lN (boP N (fun d => ruL N κ b m rf d) i)))), (7, some (.int (nI (N 0 - i)))), (8, some (.long (lN (mbS N (fun d => ruL N κ b m rf d) i s)))), (10, some (.int (nI s)))] [] := by
        refine lpU (5 ^ N 4) (fun s hs ih2 => ?_)
        refine x_iload (pc := 40) cx (dA ddX8_meanOf (i := 26) rfl) rfl ?_
        refine x_aload_n (pc := 42) cx (dA ddX8_meanOf (i := 27) rfl) rfl ?_
        refine x_iload_n (pc := 43) cx (dA ddX8_meanOf (i := 28) rfl) rfl ?_
        refine x_V1 (pc := 44) mX8_110 h0 (c_X8_states (V := V1) hM hh ((MF.of hF.1.1 (by omega) (by omega)).mh hR hh) hB) cx (dA ddX8_meanOf (i := 29) rfl) (kI ?_)
        refine x_icmp_ge (pc := 47) (tgt := 150) cx (dA ddX8_meanOf (i := 30) rfl) (by decide) (fun c47 => ?_) (fun c47 => ?_)
        · have c47 := cleT (by omega) (by omega) c47
          have es : s = 5 ^ N 4 := by omega
          subst es
          refine x_lload (pc := 150) cx (dA ddX8_meanOf (i := 89) rfl) rfl ?_
          refine x_lload (pc := 152) cx (dA ddX8_meanOf (i := 90) rfl) rfl ?_
          refine x_iconst (pc := 154) (v := nI 4) cx (dA ddX8_meanOf (i := 91) rfl) (by decide) ?_
          refine x_aload_n (pc := 155) cx (dA ddX8_meanOf (i := 92) rfl) rfl ?_
          refine x_iload_n (pc := 156) cx (dA ddX8_meanOf (i := 93) rfl) rfl ?_
          refine x_V1 (pc := 157) mX8_98 h0 (c_X8_sorts (V := V1) hM hh ((MF.of hF.1.1 (by omega) (by omega)).mh hR hh) hB) cx (dA ddX8_meanOf (i := 94) rfl) (kI ?_)
          refine x_S2 (pc := 160) mX8_102 (c_X8_power (by omega)) cx (dA ddX8_meanOf (i := 95) rfl) (kI ?_)
          refine x_i2l (pc := 163) cx (dA ddX8_meanOf (i := 96) rfl) ?_
          rw [nI_l (by omega)]
          refine x_lmul (pc := 164) cx (dA ddX8_meanOf (i := 97) rfl) ?_
          refine x_aload_n (pc := 165) cx (dA ddX8_meanOf (i := 98) rfl) rfl ?_
          refine x_iload_n (pc := 166) cx (dA ddX8_meanOf (i := 99) rfl) rfl ?_
          refine x_iload (pc := 167) cx (dA ddX8_meanOf (i := 100) rfl) rfl ?_
          refine x_iconst (pc := 169) (v := nI 1) cx (dA ddX8_meanOf (i := 101) rfl) (by decide) ?_
          refine x_isub (pc := 170) cx (dA ddX8_meanOf (i := 102) rfl) ?_
          rw [pk_sub (by omega)]
          refine x_V2 (pc := 171) mX8_242 h0 (c_X8_scaleOf (V := V1) hM hh ((MF.of hF.1.1 (by omega) (by omega)).mh hR hh) hB (d := N 0 - i - 1) (by omega)) cx (dA ddX8_meanOf (i := 103) rfl) (kJ ?_)
          refine x_lmul (pc := 174) cx (dA ddX8_meanOf (i := 104) rfl) ?_
          refine x_ladd (pc := 175) cx (dA ddX8_meanOf (i := 105) rfl) ?_
          rw [lN_mul, lN_mul, lN_add, ← boP_m (by omega)]
          refine x_lstore (pc := 176) cx (dA ddX8_meanOf (i := 106) rfl) (by decide) rfl ?_
          refine x_iinc (pc := 178) cx (dA ddX8_meanOf (i := 107) rfl) rfl (iincM (by omega)) (by decide) rfl ?_
          refine x_goto (pc := 181) (tgt := 29) cx (dA ddX8_meanOf (i := 108) rfl) (by decide) ?_
          exact x_enter (ih (by omega)) ⟨.inr rfl, .inr rfl, .inr rfl, .inr rfl, .inr rfl, .inr rfl, .inr rfl, trivial⟩
        · have c47 := cleF (by omega) (by omega) c47
          have cp := chP_le hN hL (i := i) (s := s) (by omega) c47
          have ll : ruL N κ b m rf (N 0 - i) s ≤ s := ruL_le hN (by omega) (by omega) c47
          refine x_aload_n (pc := 50) cx (dA ddX8_meanOf (i := 31) rfl) rfl ?_
          refine gX8_85 (pc := 51) (rfA hM.2.2.2.2.2.2.2.2.2.2.2.2.2.2.2.2.2.2.2.2.2.2.2.1) cx (dA ddX8_meanOf (i := 32) rfl) h0 ?_
          refine x_iload (pc := 54) cx (dA ddX8_meanOf (i := 33) rfl) rfl ?_
          refine x_aaload (pc := 56) cx (dA ddX8_meanOf (i := 34) rfl) hM.2.2.2.2.2.2.2.2.2.2.2.2.2.2.2.2.2.2.2.2.2.2.2.2.1 (by decide) (by decide) (by omega) (by decide) ?_
          rw [arA (hM.2.2.2.2.2.2.2.2.2.2.2.2.2.2.2.2.2.2.2.2.2.2.2.2.2 (N 0 - i) (by omega)).1]
          refine x_iload (pc := 57) cx (dA ddX8_meanOf (i := 35) rfl) rfl ?_
          refine x_laload (pc := 59) cx (dA ddX8_meanOf (i := 36) rfl) (hM.2.2.2.2.2.2.2.2.2.2.2.2.2.2.2.2.2.2.2.2.2.2.2.2.2 (N 0 - i) (by omega)).2 (by omega) (by decide) ?_
          rw [hF.2.1 i (by omega) s c47]
          refine x_lstore (pc := 60) cx (dA ddX8_meanOf (i := 37) rfl) (by decide) rfl ?_
          refine x_lload (pc := 62) cx (dA ddX8_meanOf (i := 38) rfl) rfl ?_
          refine x_lconst (pc := 64) (v := lN 0) cx (dA ddX8_meanOf (i := 39) rfl) rfl ?_
          refine x_lc_le (pc := 65) (tgt := 144) cx (dA ddX8_meanOf (i := 40) rfl) (dA ddX8_meanOf (i := 41) rfl) (by decide) (fun c65 => ?_) (fun c65 => ?_)
          · have c0 : chP N (fun d => ruL N κ b m rf d) i s = 0 := by have := (pk_lLE (b := 0) (by omega) (by decide)).mp c65; omega
            have e9 : mbS N (fun d => ruL N κ b m rf d) i (s + 1) = (mbS N (fun d => ruL N κ b m rf d) i s) := by rw [mbS_s, c0]; split <;> simp
            refine x_iinc (pc := 144) cx (dA ddX8_meanOf (i := 87) rfl) rfl (iinc1 _) (by decide) rfl ?_
            refine x_goto (pc := 147) (tgt := 40) cx (dA ddX8_meanOf (i := 88) rfl) (by decide) ?_
            have L := ih2 (by omega)
            rw [e9] at L
            exact x_enter L ⟨.inr rfl, .inr rfl, .inr rfl, .inr rfl, .inr rfl, .inr rfl, .inr rfl, .inr rfl, .inr rfl, trivial⟩
          · refine x_aload_n (pc := 69) cx (dA ddX8_meanOf (i := 42) rfl) rfl ?_
            refine x_iload_n (pc := 70) cx (dA ddX8_meanOf (i := 43) rfl) rfl ?_
            refine x_iload (pc := 71) cx (dA ddX8_meanOf (i := 44) rfl) rfl ?_
            refine x_iload (pc := 73) cx (dA ddX8_meanOf (i := 45) rfl) rfl ?_
            refine x_iload_n (pc := 75) cx (dA ddX8_meanOf (i := 46) rfl) rfl ?_
            refine x_V4 (pc := 76) mX8_274 h0 (c_X8_loadBy (V := V1) hM hh ((MF.of hF.1.1 (by omega) (by omega)).mh hR hh) hB hN (r := r) (by omega) (MRule.mf (MF.of hF.1.1 (by omega) (by omega)) hR5 hr) (d := N 0 - i) (s := s) (by omega) (by omega) c47 (fun _ => hF.1.2 (N 0 - i) (by omega) (by omega) s c47)) cx (dA ddX8_meanOf (i := 47) rfl) (kI ?_)
            refine x_istore (pc := 79) cx (dA ddX8_meanOf (i := 48) rfl) (by decide) rfl ?_
            refine x_iload_n (pc := 81) cx (dA ddX8_meanOf (i := 49) rfl) rfl ?_
            refine x_iconst (pc := 82) (v := -1) cx (dA ddX8_meanOf (i := 50) rfl) (by decide) ?_
            refine x_icmp_ne (pc := 83) (tgt := 111) cx (dA ddX8_meanOf (i := 51) rfl) (by decide) (fun c83 => absurd rfl c83) (fun c83 => ?_)
            refine x_lload (pc := 86) cx (dA ddX8_meanOf (i := 52) rfl) rfl ?_
            refine x_iload (pc := 88) cx (dA ddX8_meanOf (i := 53) rfl) rfl ?_
            refine x_if_eq (pc := 90) (tgt := 104) cx (dA ddX8_meanOf (i := 54) rfl) (by decide) (fun c90 => ?_) (fun c90 => ?_)
            · have l0 : ruL N κ b m rf (N 0 - i) s = 0 := nI_inj (b := 0) (by omega) (by decide) c90
              have e9 : mbS N (fun d => ruL N κ b m rf d) i (s + 1) = (mbS N (fun d => ruL N κ b m rf d) i s) + 0 := by rw [mbS_s]; exact congrArg _ (if_pos l0)
              refine x_lconst (pc := 104) (v := lN 0) cx (dA ddX8_meanOf (i := 62) rfl) rfl ?_
              refine x_ladd (pc := 105) cx (dA ddX8_meanOf (i := 63) rfl) ?_
              rw [lN_add, ← e9]
              refine x_lstore (pc := 106) cx (dA ddX8_meanOf (i := 64) rfl) (by decide) rfl ?_
              refine x_goto (pc := 108) (tgt := 144) cx (dA ddX8_meanOf (i := 65) rfl) (by decide) ?_
              refine x_iinc (pc := 144) cx (dA ddX8_meanOf (i := 87) rfl) rfl (iinc1 _) (by decide) rfl ?_
              refine x_goto (pc := 147) (tgt := 40) cx (dA ddX8_meanOf (i := 88) rfl) (by decide) ?_
              exact x_enter (ih2 (by omega)) ⟨.inr rfl, .inr rfl, .inr rfl, .inr rfl, .inr rfl, .inr rfl, .inr rfl, .inr rfl, .inr rfl, trivial⟩
            · have l0 : ¬ ruL N κ b m rf (N 0 - i) s = 0 := fun z => c90 (by rw [z]; rfl)
              have e9 : mbS N (fun d => ruL N κ b m rf d) i (s + 1) = (mbS N (fun d => ruL N κ b m rf d) i s) + chP N (fun d => ruL N κ b m rf d) i s * (4 - N 3) := by rw [mbS_s]; exact congrArg _ (if_neg l0)
              refine x_lload (pc := 93) cx (dA ddX8_meanOf (i := 55) rfl) rfl ?_
              refine x_iconst (pc := 95) (v := nI 4) cx (dA ddX8_meanOf (i := 56) rfl) (by decide) ?_
              refine x_iload (pc := 96) cx (dA ddX8_meanOf (i := 57) rfl) rfl ?_
              refine x_isub (pc := 98) cx (dA ddX8_meanOf (i := 58) rfl) ?_
              rw [pk_sub (by omega)]
              refine x_i2l (pc := 99) cx (dA ddX8_meanOf (i := 59) rfl) ?_
              rw [nI_l (by omega)]
              refine x_lmul (pc := 100) cx (dA ddX8_meanOf (i := 60) rfl) ?_
              rw [lN_mul]
              refine x_goto (pc := 101) (tgt := 105) cx (dA ddX8_meanOf (i := 61) rfl) (by decide) ?_
              refine x_ladd (pc := 105) cx (dA ddX8_meanOf (i := 63) rfl) ?_
              rw [lN_add, ← e9]
              refine x_lstore (pc := 106) cx (dA ddX8_meanOf (i := 64) rfl) (by decide) rfl ?_
              refine x_goto (pc := 108) (tgt := 144) cx (dA ddX8_meanOf (i := 65) rfl) (by decide) ?_
              refine x_iinc (pc := 144) cx (dA ddX8_meanOf (i := 87) rfl) rfl (iinc1 _) (by decide) rfl ?_
              refine x_goto (pc := 147) (tgt := 40) cx (dA ddX8_meanOf (i := 88) rfl) (by decide) ?_
              exact x_enter (ih2 (by omega)) ⟨.inr rfl, .inr rfl, .inr rfl, .inr rfl, .inr rfl, .inr rfl, .inr rfl, .inr rfl, .inr rfl, trivial⟩
      exact x_enter (L40 0 (Nat.zero_le _)) ⟨.inr rfl, .inr rfl, .inr rfl, .inr rfl, .inr rfl, .inr rfl, .inr rfl, .inr rfl, .inr rfl, trivial⟩
  exact x_enter (L29 0 (Nat.zero_le _)) ⟨.inr rfl, .inr rfl, .inr rfl, .inr rfl, .inr rfl, .inr rfl, .inr rfl, trivial⟩
theorem c_X8_meanOf_k {l : Launch} {Z : zP} {G : zG} {V : zV} {y : Nat} (hM : ModelAt Z G y) {h : Nat} (hh : h < 8) {N : Nat → Nat} (hR : MH V y h N) (hB : HouseB N) (hN : HOK N) (hmu : V.1 439 y = -1) {r κ b m : Nat} {rf : Nat → Bool} (hr : r < 9) (hR5 : MRule V y r κ b m rf) {k : Nat} (hk : k < N 4) : CT l Z yX8_meanOf cX8_meanOf 14 (some .long) 6 0 0 [.ref y, .int (nI h), .int (nI k), .int (nI r)] G V (pJx (lN (heP N (fun d => ruL N κ b m rf d) k (N 0))) G (fun V' => MF V V' y)) := by
  refine CT.of (by decide +kernel) (Nat.le_of_ble_eq_true rfl) (fun X hX cx => ?_)
  subst hX
  show Wm Z X 14 G V 0 0 _ 0 [(0, some (.ref y)), (1, some (.int (nI h))), (2, some (.int (nI k))), (3, some (.int (nI r)))] []
  have h0 := hM.1
  have b4 := hB.1
  have n125 := st125 b4
  have h06 := hN.2.1
  have b3 := hN.2.2.2.1
  have p4 : 4 ^ N 4 ≤ 64 := Nat.le_trans (Nat.pow_le_pow_right (by decide) b4) (by decide)
  have hL : ∀ d, 1 ≤ d → d ≤ 6 → ∀ s, s < 5 ^ N 4 → (fun d => ruL N κ b m rf d) d s ≤ s := fun d h1 h6 s hs => ruL_le hN h1 h6 hs
  refine x_aload_n (pc := 0) cx (dA ddX8_meanOf (i := 0) rfl) rfl ?_
  refine x_iload_n (pc := 1) cx (dA ddX8_meanOf (i := 1) rfl) rfl ?_
  refine x_iload_n (pc := 2) cx (dA ddX8_meanOf (i := 2) rfl) rfl ?_
  refine x_V2 (pc := 3) mX8_297 h0 (c_X8_findChances hM hh hR hB hN hmu hr hR5) cx (dA ddX8_meanOf (i := 3) rfl) (kVx fun V1 hF => ?_)
  refine x_aload_n (pc := 6) cx (dA ddX8_meanOf (i := 4) rfl) rfl ?_
  refine gX8_45 (pc := 7) (rfA hM.2.2.2.2.2.2.2.2.2.2.2.1.1) cx (dA ddX8_meanOf (i := 5) rfl) h0 ?_
  refine x_iload_n (pc := 10) cx (dA ddX8_meanOf (i := 6) rfl) rfl ?_
  refine x_aaload (pc := 11) cx (dA ddX8_meanOf (i := 7) rfl) hM.2.2.2.2.2.2.2.2.2.2.2.1.2.1 (by decide) (by decide) hh (by decide) ?_
  rw [arA (hM.2.2.2.2.2.2.2.2.2.2.2.1.2.2 h hh).1]
  refine x_iconst (pc := 12) (v := nI 3) cx (dA ddX8_meanOf (i := 8) rfl) (by decide) ?_
  refine x_iaload (pc := 13) cx (dA ddX8_meanOf (i := 9) rfl) (hM.2.2.2.2.2.2.2.2.2.2.2.1.2.2 h hh).2 (by decide) (by decide) ?_
  rw [((MF.of hF.1.1 (by omega) (by omega)).mh hR hh) 3 (by omega)]
  refine x_istore (pc := 14) cx (dA ddX8_meanOf (i := 10) rfl) (by decide) rfl ?_
  refine x_lconst (pc := 16) (v := lN 0) cx (dA ddX8_meanOf (i := 11) rfl) rfl ?_
  refine x_lstore (pc := 17) cx (dA ddX8_meanOf (i := 12) rfl) (by decide) rfl ?_
  refine x_aload_n (pc := 19) cx (dA ddX8_meanOf (i := 13) rfl) rfl ?_
  refine gX8_45 (pc := 20) (rfA hM.2.2.2.2.2.2.2.2.2.2.2.1.1) cx (dA ddX8_meanOf (i := 14) rfl) h0 ?_
  refine x_iload_n (pc := 23) cx (dA ddX8_meanOf (i := 15) rfl) rfl ?_
  refine x_aaload (pc := 24) cx (dA ddX8_meanOf (i := 16) rfl) hM.2.2.2.2.2.2.2.2.2.2.2.1.2.1 (by decide) (by decide) hh (by decide) ?_
  rw [arA (hM.2.2.2.2.2.2.2.2.2.2.2.1.2.2 h hh).1]
  refine x_iconst (pc := 25) (v := nI 0) cx (dA ddX8_meanOf (i := 17) rfl) (by decide) ?_
  refine x_iaload (pc := 26) cx (dA ddX8_meanOf (i := 18) rfl) (hM.2.2.2.2.2.2.2.2.2.2.2.1.2.2 h hh).2 (by decide) (by decide) ?_
  rw [((MF.of hF.1.1 (by omega) (by omega)).mh hR hh) 0 (by omega)]
  refine x_istore (pc := 27) cx (dA ddX8_meanOf (i := 19) rfl) (by decide) rfl ?_
  have L29 : ∀ i, i ≤ N 0 → Wm Z X 14 G V1 0 0 (rQ Z X 0 0 (pJx (lN (heP N (fun d => ruL N κ b m rf d) k (N 0))) G (fun V' => MF V V' y))) 29 [(0, some (.ref y)), (1, some (.int (nI h))), (2, some (.int (nI k))), (3, some (.int (nI r))), (4, some (.int (nI (N 3)))), (5, some (.long (lN (heP N (fun d => ruL N κ b m rf d) k i)))), (7, some (.int (nI (N 0 - i))))] [] := by
    refine lpU (N 0) (fun i hi ih => ?_)
    refine x_iload (pc := 29) cx (dA ddX8_meanOf (i := 20) rfl) rfl ?_
    refine x_if_le (pc := 31) (tgt := 184) cx (dA ddX8_meanOf (i := 21) rfl) (by decide) (fun c31 => ?_) (fun c31 => ?_)
    · have ei : i = N 0 := by have := cleT (b := 0) (by omega) (by omega) c31; omega
      subst ei
      refine x_lload (pc := 184) cx (dA ddX8_meanOf (i := 109) rfl) rfl ?_
      refine x_lreturn (pc := 186) cx (dA ddX8_meanOf (i := 110) rfl) (by first | exact Nat.le_of_ble_eq_true rfl | omega) (by first | exact Nat.le_of_ble_eq_true rfl | omega) ?_
      exact ⟨rfl, rfl, MF.of hF.1.1 (by omega) (by omega)⟩
    · have l1 : 0 < N 0 - i := cleF (b := 0) (by omega) (by omega) c31
      refine x_lconst (pc := 34) (v := lN 0) cx (dA ddX8_meanOf (i := 22) rfl) rfl ?_
      refine x_lstore (pc := 35) cx (dA ddX8_meanOf (i := 23) rfl) (by decide) rfl ?_
      refine x_iconst (pc := 37) (v := nI 0) cx (dA ddX8_meanOf (i := 24) rfl) (by decide) ?_
      refine x_istore (pc := 38) cx (dA ddX8_meanOf (i := 25) rfl) (by decide) rfl ?_
      have L40 : ∀ s, s ≤ 5 ^ N 4 → Wm Z X 14 G V1 0 0 (rQ Z X 0 0 (pJx (lN (heP N (fun d => ruL N κ b m rf d) k (N 0))) G (fun V' => MF V V' y))) 40 [(0, some (.ref y)), (1, some (.int (nI h))), (2, some (.int (nI k))), (3, some (.int (nI r))), (4, some (.int (nI (N 3)))), (5, some (.long (lN (heP N (fun d => ruL N κ b m rf d) k i)))), (7, some (.int (nI (N 0 - i)))), (8, some (.long (lN (mhS N (fun d => ruL N κ b m rf d) k i s)))), (10, some (.int (nI s)))] [] := by
        refine lpU (5 ^ N 4) (fun s hs ih2 => ?_)
        refine x_iload (pc := 40) cx (dA ddX8_meanOf (i := 26) rfl) rfl ?_
        refine x_aload_n (pc := 42) cx (dA ddX8_meanOf (i := 27) rfl) rfl ?_
        refine x_iload_n (pc := 43) cx (dA ddX8_meanOf (i := 28) rfl) rfl ?_
        refine x_V1 (pc := 44) mX8_110 h0 (c_X8_states (V := V1) hM hh ((MF.of hF.1.1 (by omega) (by omega)).mh hR hh) hB) cx (dA ddX8_meanOf (i := 29) rfl) (kI ?_)
        refine x_icmp_ge (pc := 47) (tgt := 150) cx (dA ddX8_meanOf (i := 30) rfl) (by decide) (fun c47 => ?_) (fun c47 => ?_)
        · have c47 := cleT (by omega) (by omega) c47
          have es : s = 5 ^ N 4 := by omega
          subst es
          refine x_lload (pc := 150) cx (dA ddX8_meanOf (i := 89) rfl) rfl ?_
          refine x_lload (pc := 152) cx (dA ddX8_meanOf (i := 90) rfl) rfl ?_
          refine x_iconst (pc := 154) (v := nI 4) cx (dA ddX8_meanOf (i := 91) rfl) (by decide) ?_
          refine x_aload_n (pc := 155) cx (dA ddX8_meanOf (i := 92) rfl) rfl ?_
          refine x_iload_n (pc := 156) cx (dA ddX8_meanOf (i := 93) rfl) rfl ?_
          refine x_V1 (pc := 157) mX8_98 h0 (c_X8_sorts (V := V1) hM hh ((MF.of hF.1.1 (by omega) (by omega)).mh hR hh) hB) cx (dA ddX8_meanOf (i := 94) rfl) (kI ?_)
          refine x_S2 (pc := 160) mX8_102 (c_X8_power (by omega)) cx (dA ddX8_meanOf (i := 95) rfl) (kI ?_)
          refine x_i2l (pc := 163) cx (dA ddX8_meanOf (i := 96) rfl) ?_
          rw [nI_l (by omega)]
          refine x_lmul (pc := 164) cx (dA ddX8_meanOf (i := 97) rfl) ?_
          refine x_aload_n (pc := 165) cx (dA ddX8_meanOf (i := 98) rfl) rfl ?_
          refine x_iload_n (pc := 166) cx (dA ddX8_meanOf (i := 99) rfl) rfl ?_
          refine x_iload (pc := 167) cx (dA ddX8_meanOf (i := 100) rfl) rfl ?_
          refine x_iconst (pc := 169) (v := nI 1) cx (dA ddX8_meanOf (i := 101) rfl) (by decide) ?_
          refine x_isub (pc := 170) cx (dA ddX8_meanOf (i := 102) rfl) ?_
          rw [pk_sub (by omega)]
          refine x_V2 (pc := 171) mX8_242 h0 (c_X8_scaleOf (V := V1) hM hh ((MF.of hF.1.1 (by omega) (by omega)).mh hR hh) hB (d := N 0 - i - 1) (by omega)) cx (dA ddX8_meanOf (i := 103) rfl) (kJ ?_)
          refine x_lmul (pc := 174) cx (dA ddX8_meanOf (i := 104) rfl) ?_
          refine x_ladd (pc := 175) cx (dA ddX8_meanOf (i := 105) rfl) ?_
          rw [lN_mul, lN_mul, lN_add, ← heP_m hN (by omega) (hL _ (by omega) (by omega))]
          refine x_lstore (pc := 176) cx (dA ddX8_meanOf (i := 106) rfl) (by decide) rfl ?_
          refine x_iinc (pc := 178) cx (dA ddX8_meanOf (i := 107) rfl) rfl (iincM (by omega)) (by decide) rfl ?_
          refine x_goto (pc := 181) (tgt := 29) cx (dA ddX8_meanOf (i := 108) rfl) (by decide) ?_
          exact x_enter (ih (by omega)) ⟨.inr rfl, .inr rfl, .inr rfl, .inr rfl, .inr rfl, .inr rfl, .inr rfl, trivial⟩
        · have c47 := cleF (by omega) (by omega) c47
          have cp := chP_le hN hL (i := i) (s := s) (by omega) c47
          have ll : ruL N κ b m rf (N 0 - i) s ≤ s := ruL_le hN (by omega) (by omega) c47
          refine x_aload_n (pc := 50) cx (dA ddX8_meanOf (i := 31) rfl) rfl ?_
          refine gX8_85 (pc := 51) (rfA hM.2.2.2.2.2.2.2.2.2.2.2.2.2.2.2.2.2.2.2.2.2.2.2.1) cx (dA ddX8_meanOf (i := 32) rfl) h0 ?_
          refine x_iload (pc := 54) cx (dA ddX8_meanOf (i := 33) rfl) rfl ?_
          refine x_aaload (pc := 56) cx (dA ddX8_meanOf (i := 34) rfl) hM.2.2.2.2.2.2.2.2.2.2.2.2.2.2.2.2.2.2.2.2.2.2.2.2.1 (by decide) (by decide) (by omega) (by decide) ?_
          rw [arA (hM.2.2.2.2.2.2.2.2.2.2.2.2.2.2.2.2.2.2.2.2.2.2.2.2.2 (N 0 - i) (by omega)).1]
          refine x_iload (pc := 57) cx (dA ddX8_meanOf (i := 35) rfl) rfl ?_
          refine x_laload (pc := 59) cx (dA ddX8_meanOf (i := 36) rfl) (hM.2.2.2.2.2.2.2.2.2.2.2.2.2.2.2.2.2.2.2.2.2.2.2.2.2 (N 0 - i) (by omega)).2 (by omega) (by decide) ?_
          rw [hF.2.1 i (by omega) s c47]
          refine x_lstore (pc := 60) cx (dA ddX8_meanOf (i := 37) rfl) (by decide) rfl ?_
          refine x_lload (pc := 62) cx (dA ddX8_meanOf (i := 38) rfl) rfl ?_
          refine x_lconst (pc := 64) (v := lN 0) cx (dA ddX8_meanOf (i := 39) rfl) rfl ?_
          refine x_lc_le (pc := 65) (tgt := 144) cx (dA ddX8_meanOf (i := 40) rfl) (dA ddX8_meanOf (i := 41) rfl) (by decide) (fun c65 => ?_) (fun c65 => ?_)
          · have c0 : chP N (fun d => ruL N κ b m rf d) i s = 0 := by have := (pk_lLE (b := 0) (by omega) (by decide)).mp c65; omega
            have e9 : mhS N (fun d => ruL N κ b m rf d) k i (s + 1) = (mhS N (fun d => ruL N κ b m rf d) k i s) := by rw [mhS_s, c0]; rw [Nat.zero_mul, Nat.add_zero]
            refine x_iinc (pc := 144) cx (dA ddX8_meanOf (i := 87) rfl) rfl (iinc1 _) (by decide) rfl ?_
            refine x_goto (pc := 147) (tgt := 40) cx (dA ddX8_meanOf (i := 88) rfl) (by decide) ?_
            have L := ih2 (by omega)
            rw [e9] at L
            exact x_enter L ⟨.inr rfl, .inr rfl, .inr rfl, .inr rfl, .inr rfl, .inr rfl, .inr rfl, .inr rfl, .inr rfl, trivial⟩
          · refine x_aload_n (pc := 69) cx (dA ddX8_meanOf (i := 42) rfl) rfl ?_
            refine x_iload_n (pc := 70) cx (dA ddX8_meanOf (i := 43) rfl) rfl ?_
            refine x_iload (pc := 71) cx (dA ddX8_meanOf (i := 44) rfl) rfl ?_
            refine x_iload (pc := 73) cx (dA ddX8_meanOf (i := 45) rfl) rfl ?_
            refine x_iload_n (pc := 75) cx (dA ddX8_meanOf (i := 46) rfl) rfl ?_
            refine x_V4 (pc := 76) mX8_274 h0 (c_X8_loadBy (V := V1) hM hh ((MF.of hF.1.1 (by omega) (by omega)).mh hR hh) hB hN (r := r) (by omega) (MRule.mf (MF.of hF.1.1 (by omega) (by omega)) hR5 hr) (d := N 0 - i) (s := s) (by omega) (by omega) c47 (fun _ => hF.1.2 (N 0 - i) (by omega) (by omega) s c47)) cx (dA ddX8_meanOf (i := 47) rfl) (kI ?_)
            refine x_istore (pc := 79) cx (dA ddX8_meanOf (i := 48) rfl) (by decide) rfl ?_
            refine x_iload_n (pc := 81) cx (dA ddX8_meanOf (i := 49) rfl) rfl ?_
            refine x_iconst (pc := 82) (v := -1) cx (dA ddX8_meanOf (i := 50) rfl) (by decide) ?_
            refine x_icmp_ne (pc := 83) (tgt := 111) cx (dA ddX8_meanOf (i := 51) rfl) (by decide) (fun c83 => ?_) (fun c83 => absurd c83 (nI_n1 (by omega)))
            refine x_lload (pc := 111) cx (dA ddX8_meanOf (i := 66) rfl) rfl ?_
            refine x_lload (pc := 113) cx (dA ddX8_meanOf (i := 67) rfl) rfl ?_
            refine x_iload (pc := 115) cx (dA ddX8_meanOf (i := 68) rfl) rfl ?_
            refine x_iload (pc := 117) cx (dA ddX8_meanOf (i := 69) rfl) rfl ?_
            refine x_iload_n (pc := 119) cx (dA ddX8_meanOf (i := 70) rfl) rfl ?_
            refine x_S2 (pc := 120) mX8_226 (c_X8_ofState (s := s) (k := k) (by omega) (by omega)) cx (dA ddX8_meanOf (i := 71) rfl) (kI ?_)
            refine x_imul (pc := 123) cx (dA ddX8_meanOf (i := 72) rfl) ?_
            refine x_iconst (pc := 124) (v := nI 4) cx (dA ddX8_meanOf (i := 73) rfl) (by decide) ?_
            refine x_iload (pc := 125) cx (dA ddX8_meanOf (i := 74) rfl) rfl ?_
            refine x_isub (pc := 127) cx (dA ddX8_meanOf (i := 75) rfl) ?_
            rw [pk_sub (by omega)]
            refine x_iload (pc := 128) cx (dA ddX8_meanOf (i := 76) rfl) rfl ?_
            refine x_iload (pc := 130) cx (dA ddX8_meanOf (i := 77) rfl) rfl ?_
            refine x_isub (pc := 132) cx (dA ddX8_meanOf (i := 78) rfl) ?_
            refine x_iload_n (pc := 133) cx (dA ddX8_meanOf (i := 79) rfl) rfl ?_
            rw [pk_sub ll]
            refine x_S2 (pc := 134) mX8_226 (c_X8_ofState (s := s - ruL N κ b m rf (N 0 - i) s) (k := k) (by omega) (by omega)) cx (dA ddX8_meanOf (i := 80) rfl) (kI ?_)
            refine x_imul (pc := 137) cx (dA ddX8_meanOf (i := 81) rfl) ?_
            refine x_iadd (pc := 138) cx (dA ddX8_meanOf (i := 82) rfl) ?_
            rw [nI_cmul, nI_cmul, nI_add]
            have q1 : N 3 * dig s k ≤ 3 * 4 := Nat.mul_le_mul b3 (Nat.le_of_lt_succ (dig_lt s k))
            have q2 : (4 - N 3) * dig (s - ruL N κ b m rf (N 0 - i) s) k ≤ 4 * 4 := Nat.mul_le_mul (by omega) (Nat.le_of_lt_succ (dig_lt _ k))
            refine x_i2l (pc := 139) cx (dA ddX8_meanOf (i := 83) rfl) ?_
            rw [nI_l (by omega)]
            refine x_lmul (pc := 140) cx (dA ddX8_meanOf (i := 84) rfl) ?_
            refine x_ladd (pc := 141) cx (dA ddX8_meanOf (i := 85) rfl) ?_
            rw [lN_mul, lN_add, show (mhS N (fun d => ruL N κ b m rf d) k i s) + chP N (fun d => ruL N κ b m rf d) i s * (N 3 * dig s k + (4 - N 3) * dig (s - ruL N κ b m rf (N 0 - i) s) k) = mhS N (fun d => ruL N κ b m rf d) k i (s + 1) from rfl]
            refine x_lstore (pc := 142) cx (dA ddX8_meanOf (i := 86) rfl) (by decide) rfl ?_
            refine x_iinc (pc := 144) cx (dA ddX8_meanOf (i := 87) rfl) rfl (iinc1 _) (by decide) rfl ?_
            refine x_goto (pc := 147) (tgt := 40) cx (dA ddX8_meanOf (i := 88) rfl) (by decide) ?_
            exact x_enter (ih2 (by omega)) ⟨.inr rfl, .inr rfl, .inr rfl, .inr rfl, .inr rfl, .inr rfl, .inr rfl, .inr rfl, .inr rfl, trivial⟩
      exact x_enter (L40 0 (Nat.zero_le _)) ⟨.inr rfl, .inr rfl, .inr rfl, .inr rfl, .inr rfl, .inr rfl, .inr rfl, .inr rfl, .inr rfl, trivial⟩
  exact x_enter (L29 0 (Nat.zero_le _)) ⟨.inr rfl, .inr rfl, .inr rfl, .inr rfl, .inr rfl, .inr rfl, .inr rfl, trivial⟩
theorem c_X8_findRooms {l : Launch} {Z : zP} {G : zG} {V : zV} {y : Nat} (hM : ModelAt Z G y) {h : Nat} (hh : h < 8) {N : Nat → Nat} (hR : MH V y h N) (hB : HouseB N) (hN : HOK N) (hmu : V.1 439 y = -1) {z : Nat} (h1 : 1 ≤ z) (h6 : z ≤ N 0) : CT l Z yX8_findRooms cX8_findRooms 5 (some .boolean) 5 0 0 [.ref y, .int (nI h), .int (nI z)] G V (pIx (b2i (lrS N z (5 ^ N 4) ≠ none)) G (fun V' => ∃ V2, fbI V V2 y N 0 (N 0 + 1) ∧ V' = frV V2 y (lrS N z (5 ^ N 4)) (mrA N z (5 ^ N 4)))) := by
  refine CT.of (by decide +kernel) (Nat.le_of_ble_eq_true rfl) (fun X hX cx => ?_)
  subst hX
  show Wm Z X 5 G V 0 0 _ 0 [(0, some (.ref y)), (1, some (.int (nI h))), (2, some (.int (nI z)))] []
  have h0 := hM.1
  have b4 := hB.1
  have n125 := st125 b4
  have h06 := hN.2.1
  have rv2 : ∀ v, lrS N z (5 ^ N 4) = some v → v < 2 ^ 31 := fun v e => by have := lrS_le hB e; omega
  refine x_aload_n (pc := 0) cx (dA ddX8_findRooms (i := 0) rfl) rfl ?_
  refine x_iload_n (pc := 1) cx (dA ddX8_findRooms (i := 1) rfl) rfl ?_
  refine x_V1 (pc := 2) mX8_264 h0 (c_X8_findBest hM hh hR hB hN (mu := 0) (hmu_0 hmu)) cx (dA ddX8_findRooms (i := 2) rfl) (kVx fun V2 hF => ?_)
  refine x_aload_n (pc := 5) cx (dA ddX8_findRooms (i := 3) rfl) rfl ?_
  refine x_iconst (pc := 6) (v := -1) cx (dA ddX8_findRooms (i := 4) rfl) (by decide) ?_
  refine pX8_310 (pc := 7)  cx (dA ddX8_findRooms (i := 5) rfl) h0 ?_
  refine x_aload_n (pc := 10) cx (dA ddX8_findRooms (i := 6) rfl) rfl ?_
  refine x_iconst (pc := 11) (v := nI 0) cx (dA ddX8_findRooms (i := 7) rfl) (by decide) ?_
  refine pX8_313 (pc := 12)  cx (dA ddX8_findRooms (i := 8) rfl) h0 ?_
  refine x_iconst (pc := 15) (v := nI 0) cx (dA ddX8_findRooms (i := 9) rfl) (by decide) ?_
  refine x_istore_n (pc := 16) cx (dA ddX8_findRooms (i := 10) rfl) (by decide) rfl ?_
  have L17 : ∀ s, s ≤ 5 ^ N 4 → Wm Z X 5 G (frV V2 y (lrS N z s) (mrA N z s)) 0 0 (rQ Z X 0 0 (pIx (b2i (lrS N z (5 ^ N 4) ≠ none)) G (fun V' => ∃ V2, fbI V V2 y N 0 (N 0 + 1) ∧ V' = frV V2 y (lrS N z (5 ^ N 4)) (mrA N z (5 ^ N 4))))) 17 [(0, some (.ref y)), (1, some (.int (nI h))), (2, some (.int (nI z))), (3, some (.int (nI s)))] [] := by
    refine lpU (5 ^ N 4) (fun s hs ih => ?_)
    refine x_iload_n (pc := 17) cx (dA ddX8_findRooms (i := 11) rfl) rfl ?_
    refine x_aload_n (pc := 18) cx (dA ddX8_findRooms (i := 12) rfl) rfl ?_
    refine x_iload_n (pc := 19) cx (dA ddX8_findRooms (i := 13) rfl) rfl ?_
    refine x_V1 (pc := 20) mX8_110 h0 (c_X8_states (V := (frV V2 y (lrS N z s) (mrA N z s))) hM hh (id (hR.same39 (V' := V2) hh hF.1) : MH (frV V2 y (lrS N z s) (mrA N z s)) y h N) hB) cx (dA ddX8_findRooms (i := 14) rfl) (kI ?_)
    refine x_icmp_ge (pc := 23) (tgt := 100) cx (dA ddX8_findRooms (i := 15) rfl) (by decide) (fun c23 => ?_) (fun c23 => ?_)
    · have c23 := cleT (by omega) (by omega) c23
      have es : s = 5 ^ N 4 := by omega
      subst es
      refine x_aload_n (pc := 100) cx (dA ddX8_findRooms (i := 53) rfl) rfl ?_
      refine gX8_310 (pc := 101) (congrArg Value.int fr40) cx (dA ddX8_findRooms (i := 54) rfl) h0 ?_
      refine x_iconst (pc := 104) (v := -1) cx (dA ddX8_findRooms (i := 55) rfl) (by decide) ?_
      refine x_icmp_eq (pc := 105) (tgt := 112) cx (dA ddX8_findRooms (i := 56) rfl) (by decide) (fun c105 => ?_) (fun c105 => ?_)
      · have n0 := (nhV_m1 rv2).mp c105
        refine x_iconst (pc := 112) (v := nI 0) cx (dA ddX8_findRooms (i := 59) rfl) (by decide) ?_
        refine x_zreturn (pc := 113) cx (dA ddX8_findRooms (i := 60) rfl) (by first | exact Nat.le_of_ble_eq_true rfl | omega) (by first | exact Nat.le_of_ble_eq_true rfl | omega) rfl ?_
        refine ⟨congrArg some (congrArg Value.int ?_), rfl, V2, hF, rfl⟩
        first | exact (b2i_t n0).symm | exact (b2i_f (fun q => q n0)).symm
      · have n0 : lrS N z (5 ^ N 4) ≠ none := fun e => c105 ((nhV_m1 rv2).mpr e)
        refine x_iconst (pc := 108) (v := nI 1) cx (dA ddX8_findRooms (i := 57) rfl) (by decide) ?_
        refine x_goto (pc := 109) (tgt := 113) cx (dA ddX8_findRooms (i := 58) rfl) (by decide) ?_
        refine x_zreturn (pc := 113) cx (dA ddX8_findRooms (i := 60) rfl) (by first | exact Nat.le_of_ble_eq_true rfl | omega) (by first | exact Nat.le_of_ble_eq_true rfl | omega) rfl ?_
        refine ⟨congrArg some (congrArg Value.int ?_), rfl, V2, hF, rfl⟩
        first | exact (b2i_t n0).symm | exact (b2i_f (fun q => q n0)).symm
    · have c23 := cleF (by omega) (by omega) c23
      have rl := sumP_lt hB (s := s) (w := 0) (by omega)
      have rv : ∀ v, lrS N z s = some v → v < 2 ^ 31 := fun v e => by have := lrS_le hB e; omega
      have ml : mrA N z s ≤ 1188 := mrA_le hB s
      have lt31 : ldP N z s < 2 ^ 31 := by have := ldP_lt hN h1 (by omega) c23; omega
      refine x_aload_n (pc := 26) cx (dA ddX8_findRooms (i := 16) rfl) rfl ?_
      refine x_iload_n (pc := 27) cx (dA ddX8_findRooms (i := 17) rfl) rfl ?_
      refine x_iload_n (pc := 28) cx (dA ddX8_findRooms (i := 18) rfl) rfl ?_
      refine x_iconst (pc := 29) (v := nI 0) cx (dA ddX8_findRooms (i := 19) rfl) (by decide) ?_
      refine x_V3 (pc := 30) mX8_236 h0 (c_X8_sum (V := (frV V2 y (lrS N z s) (mrA N z s))) hM hh (id (hR.same39 (V' := V2) hh hF.1) : MH (frV V2 y (lrS N z s) (mrA N z s)) y h N) hB (s := s) (w := 0) (by omega) (by omega)) cx (dA ddX8_findRooms (i := 20) rfl) (kI ?_)
      refine x_istore (pc := 33) cx (dA ddX8_findRooms (i := 21) rfl) (by decide) rfl ?_
      refine x_aload_n (pc := 35) cx (dA ddX8_findRooms (i := 22) rfl) rfl ?_
      refine gX8_58 (pc := 36) (rfA hM.2.2.2.2.2.2.2.2.2.2.2.2.2.2.1.1) cx (dA ddX8_findRooms (i := 23) rfl) h0 ?_
      refine x_iload_n (pc := 39) cx (dA ddX8_findRooms (i := 24) rfl) rfl ?_
      refine x_aaload (pc := 40) cx (dA ddX8_findRooms (i := 25) rfl) hM.2.2.2.2.2.2.2.2.2.2.2.2.2.2.1.2.1 (by decide) (by decide) (by omega) (by decide) ?_
      rw [arA (hM.2.2.2.2.2.2.2.2.2.2.2.2.2.2.1.2.2 z (by omega)).1]
      refine x_iload_n (pc := 41) cx (dA ddX8_findRooms (i := 26) rfl) rfl ?_
      refine x_iaload (pc := 42) cx (dA ddX8_findRooms (i := 27) rfl) (hM.2.2.2.2.2.2.2.2.2.2.2.2.2.2.1.2.2 z (by omega)).2 (by omega) (by decide) ?_
      rw [show (frV V2 y (lrS N z s) (mrA N z s)).2.2.1 (y + 47 + 1 + z) s = nI (ldP N z s) from ((hF.2.2 z (by omega) s c23).2).trans (by rw [mlM_ld h1])]
      refine x_if_ne (pc := 43) (tgt := 71) cx (dA ddX8_findRooms (i := 28) rfl) (by decide) (fun c43 => ?_) (fun c43 => ?_)
      · have l0 : ¬ ldP N z s = 0 := fun e => c43 (by rw [e]; rfl)
        have e41 : mrA N z (s + 1) = mrA N z s := if_neg l0
        refine x_aload_n (pc := 71) cx (dA ddX8_findRooms (i := 40) rfl) rfl ?_
        refine gX8_310 (pc := 72) (congrArg Value.int fr40) cx (dA ddX8_findRooms (i := 41) rfl) h0 ?_
        refine x_iconst (pc := 75) (v := -1) cx (dA ddX8_findRooms (i := 42) rfl) (by decide) ?_
        refine x_icmp_eq (pc := 76) (tgt := 88) cx (dA ddX8_findRooms (i := 43) rfl) (by decide) (fun c76 => ?_) (fun c76 => ?_)
        · have n0 := (nhV_m1 rv).mp c76
          have e40 : lrS N z (s + 1) = some (sumP N s 0) := if_pos ⟨l0, fun r e => by rw [n0] at e; cases e⟩
          refine x_aload_n (pc := 88) cx (dA ddX8_findRooms (i := 48) rfl) rfl ?_
          refine x_iload (pc := 89) cx (dA ddX8_findRooms (i := 49) rfl) rfl ?_
          refine pX8_310 (pc := 91)  cx (dA ddX8_findRooms (i := 50) rfl) h0 ?_
          rw [fr_s40]
          refine x_iinc (pc := 94) cx (dA ddX8_findRooms (i := 51) rfl) rfl (iinc1 _) (by decide) rfl ?_
          refine x_goto (pc := 97) (tgt := 17) cx (dA ddX8_findRooms (i := 52) rfl) (by decide) ?_
          have L := ih (by omega)
          rw [e40, e41] at L
          exact x_enter L ⟨.inr rfl, .inr rfl, .inr rfl, .inr rfl, trivial⟩
        · obtain ⟨r, er⟩ : ∃ r, lrS N z s = some r := by cases h : lrS N z s with | none => exact absurd ((nhV_m1 rv).mpr h) c76 | some r => exact ⟨r, rfl⟩
          have r31 := rv r er
          refine x_iload (pc := 79) cx (dA ddX8_findRooms (i := 44) rfl) rfl ?_
          refine x_aload_n (pc := 81) cx (dA ddX8_findRooms (i := 45) rfl) rfl ?_
          refine gX8_310 (pc := 82) (congrArg Value.int (show (frV V2 y (lrS N z s) (mrA N z s)).1 440 y = nI r from fr40.trans (by rw [er]; rfl))) cx (dA ddX8_findRooms (i := 46) rfl) h0 ?_
          refine x_icmp_ge (pc := 85) (tgt := 94) cx (dA ddX8_findRooms (i := 47) rfl) (by decide) (fun c85 => ?_) (fun c85 => ?_)
          · have c85 := cleT (by omega) (by omega) c85
            have e40 : lrS N z (s + 1) = lrS N z s := if_neg (fun q => absurd (q.2 r er) (by omega))
            refine x_iinc (pc := 94) cx (dA ddX8_findRooms (i := 51) rfl) rfl (iinc1 _) (by decide) rfl ?_
            refine x_goto (pc := 97) (tgt := 17) cx (dA ddX8_findRooms (i := 52) rfl) (by decide) ?_
            have L := ih (by omega)
            rw [e40, e41] at L
            exact x_enter L ⟨.inr rfl, .inr rfl, .inr rfl, .inr rfl, trivial⟩
          · have c85 := cleF (by omega) (by omega) c85
            have e40 : lrS N z (s + 1) = some (sumP N s 0) := if_pos ⟨l0, fun x e => by rw [er] at e; cases e; exact c85⟩
            refine x_aload_n (pc := 88) cx (dA ddX8_findRooms (i := 48) rfl) rfl ?_
            refine x_iload (pc := 89) cx (dA ddX8_findRooms (i := 49) rfl) rfl ?_
            refine pX8_310 (pc := 91)  cx (dA ddX8_findRooms (i := 50) rfl) h0 ?_
            rw [fr_s40]
            refine x_iinc (pc := 94) cx (dA ddX8_findRooms (i := 51) rfl) rfl (iinc1 _) (by decide) rfl ?_
            refine x_goto (pc := 97) (tgt := 17) cx (dA ddX8_findRooms (i := 52) rfl) (by decide) ?_
            have L := ih (by omega)
            rw [e40, e41] at L
            exact x_enter L ⟨.inr rfl, .inr rfl, .inr rfl, .inr rfl, trivial⟩
      · have l0 : ldP N z s = 0 := nI_inj (b := 0) lt31 (by decide) c43
        have e40 : lrS N z (s + 1) = lrS N z s := if_neg (fun q => q.1 l0)
        have d41 : mrA N z (s + 1) = max (mrA N z s) (sumP N s 0) := if_pos l0
        refine x_aload_n (pc := 46) cx (dA ddX8_findRooms (i := 29) rfl) rfl ?_
        refine x_iload (pc := 47) cx (dA ddX8_findRooms (i := 30) rfl) rfl ?_
        refine x_aload_n (pc := 49) cx (dA ddX8_findRooms (i := 31) rfl) rfl ?_
        refine gX8_313 (pc := 50) (congrArg Value.int fr41) cx (dA ddX8_findRooms (i := 32) rfl) h0 ?_
        refine x_icmp_le (pc := 53) (tgt := 61) cx (dA ddX8_findRooms (i := 33) rfl) (by decide) (fun c53 => ?_) (fun c53 => ?_)
        · have c53 := cleT (by omega) (by omega) c53
          have e41 : mrA N z (s + 1) = mrA N z s := by rw [d41]; omega
          refine x_aload_n (pc := 61) cx (dA ddX8_findRooms (i := 36) rfl) rfl ?_
          refine gX8_313 (pc := 62) (congrArg Value.int fr41) cx (dA ddX8_findRooms (i := 37) rfl) h0 ?_
          refine pX8_313 (pc := 65)  cx (dA ddX8_findRooms (i := 38) rfl) h0 ?_
          rw [fr_s41]
          refine x_goto (pc := 68) (tgt := 94) cx (dA ddX8_findRooms (i := 39) rfl) (by decide) ?_
          refine x_iinc (pc := 94) cx (dA ddX8_findRooms (i := 51) rfl) rfl (iinc1 _) (by decide) rfl ?_
          refine x_goto (pc := 97) (tgt := 17) cx (dA ddX8_findRooms (i := 52) rfl) (by decide) ?_
          have L := ih (by omega)
          rw [e40, e41] at L
          exact x_enter L ⟨.inr rfl, .inr rfl, .inr rfl, .inr rfl, trivial⟩
        · have c53 := cleF (by omega) (by omega) c53
          have e41 : mrA N z (s + 1) = sumP N s 0 := by rw [d41]; omega
          refine x_iload (pc := 56) cx (dA ddX8_findRooms (i := 34) rfl) rfl ?_
          refine x_goto (pc := 58) (tgt := 65) cx (dA ddX8_findRooms (i := 35) rfl) (by decide) ?_
          refine pX8_313 (pc := 65)  cx (dA ddX8_findRooms (i := 38) rfl) h0 ?_
          rw [fr_s41]
          refine x_goto (pc := 68) (tgt := 94) cx (dA ddX8_findRooms (i := 39) rfl) (by decide) ?_
          refine x_iinc (pc := 94) cx (dA ddX8_findRooms (i := 51) rfl) rfl (iinc1 _) (by decide) rfl ?_
          refine x_goto (pc := 97) (tgt := 17) cx (dA ddX8_findRooms (i := 52) rfl) (by decide) ?_
          have L := ih (by omega)
          rw [e40, e41] at L
          exact x_enter L ⟨.inr rfl, .inr rfl, .inr rfl, .inr rfl, trivial⟩
  exact x_enter (L17 0 (Nat.zero_le _)) ⟨.inr rfl, .inr rfl, .inr rfl, .inr rfl, trivial⟩
