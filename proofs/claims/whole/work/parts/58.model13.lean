theorem MRule.mf {V V' : zV} {y r κ b m : Nat} {f : Nat → Bool} (hF : MF V V' y) (h : MRule V y r κ b m f) (hr : r < 9) : MRule V' y r κ b m f := by
  obtain ⟨a, b1, c, d, e, g, k⟩ := h
  exact ⟨(hF.2.2 r (by omega)).1.trans a, b1, (hF.2.2 r (by omega)).2.trans c, d, e, g, fun q i hi => ((hF.1 (y + 16 + 1 + r) (by omega) (by omega) (by omega) (by omega)).2.2.1 i).trans (k q i hi)⟩
/-- of what a state makes of a state, so many ways -/
def gsI (N : Nat → Nat) (s c t : Nat) : Nat := sumN c (fun come => wtM N come (N 4) * (if thM come s (N 4) = t then 1 else 0))
def goI (V V1 : zV) (a : Nat) (N g : Nat → Nat) (w s c : Nat) : Prop := (∀ x, x ≠ a → same4 V V1 x) ∧ (∀ i, V1.1 i a = V.1 i a) ∧ ∀ t, t < 5 ^ N 4 → V1.2.2.2 a t = lN (g t + w * gsI N s c t)
theorem goI_s {V V1 : zV} {a w s c : Nat} {N g : Nat → Nat} (h : goI V V1 a N g w s c) : goI V (sAJ V1 a (thM c s (N 4)) (lN (g (thM c s (N 4)) + w * gsI N s c (thM c s (N 4)) + w * wtM N c (N 4)))) a N g w s (c + 1) := by
  refine ⟨fun x hx => (h.1 x hx).sAJ hx, h.2.1, fun t ht => ?_⟩
  have e : gsI N s (c + 1) t = gsI N s c t + wtM N c (N 4) * (if thM c s (N 4) = t then 1 else 0) := rfl
  by_cases q : t = thM c s (N 4)
  · subst q
    rw [sAJ_eq, e, if_pos rfl, Nat.mul_one, Nat.mul_add, Nat.add_assoc]
  · rw [sAJ_nj q, h.2.2 t ht, e, if_neg (fun z => q z.symm), Nat.mul_zero, Nat.add_zero]
theorem goI_0 {V V1 : zV} {a s c : Nat} {N g : Nat → Nat} (h : goI V V1 a N g 0 s c) : goI V V1 a N g 0 s (2 ^ N 4) := ⟨h.1, h.2.1, fun t ht => by rw [h.2.2 t ht, Nat.zero_mul, Nat.zero_mul]⟩
theorem chP_le {N : Nat → Nat} (hN : HOK N) {L : Nat → Nat → Nat} (hL : ∀ d, 1 ≤ d → d ≤ 6 → ∀ s, s < 5 ^ N 4 → L d s ≤ s) {i s : Nat} (hi : i ≤ N 0) (hs : s < 5 ^ N 4) : chP N L i s ≤ 2 ^ 48 := by
  have h := sumN_one (f := chP N L i) hs
  rw [chP_mass hN hL i hi] at h
  have h0 := hN.2.1
  have h4 := hN.1.1
  have h2 : 4 ^ ((1 + N 4) * i) ≤ 4 ^ 24 := Nat.pow_le_pow_right (by decide) (Nat.mul_le_mul (show 1 + N 4 ≤ 4 by omega) (show i ≤ 6 by omega))
  have h3 : (4 : Nat) ^ 24 = 2 ^ 48 := by decide
  omega
theorem MH.gn {V V1 : zV} {y h a w s c : Nat} {N g : Nat → Nat} (hh : h < 8) (hR : MH V y h N) (hI : goI V V1 a N g w s c) (ha2 : y + 38 ≤ a) : MH V1 y h N := fun j hj => ((hI.1 _ (by omega)).2.2.1 j).trans (hR j hj)
theorem c_X8_goesOn {l : Launch} {Z : zP} {G : zG} {V : zV} {y : Nat} (hM : ModelAt Z G y) {h : Nat} (hh : h < 8) {N : Nat → Nat} (hR : MH V y h N) (hB : HouseB N) (hN : HOK N) {w s a : Nat} (hs : s < 5 ^ N 4) (hw : w < 2 ^ 62) (ha : isA Z G a 2 125) (ha2 : y + 38 ≤ a) {g : Nat → Nat} (hg : ∀ t, t < 5 ^ N 4 → V.2.2.2 a t = lN (g t)) : CT l Z yX8_goesOn cX8_goesOn 14 none 2 0 0 [.ref y, .int (nI h), .int (nI s), .long (lN w), .ref a] G V (pVx G (fun V' => goI V V' a N g w s (2 ^ N 4))) := by
  refine CT.of (by decide +kernel) (Nat.le_of_ble_eq_true rfl) (fun X hX cx => ?_)
  subst hX
  show Wm Z X 14 G V 0 0 _ 0 [(0, some (.ref y)), (1, some (.int (nI h))), (2, some (.int (nI s))), (3, some (.long (lN w))), (5, some (.ref a))] []
  have h0 := hM.1
  have b4 := hB.1
  have n125 := st125 b4
  have p2 := two_le b4
  refine x_aload_n (pc := 0) cx (dA ddX8_goesOn (i := 0) rfl) rfl ?_
  refine x_iload_n (pc := 1) cx (dA ddX8_goesOn (i := 1) rfl) rfl ?_
  refine x_V1 (pc := 2) mX8_98 h0 (c_X8_sorts hM hh hR hB) cx (dA ddX8_goesOn (i := 2) rfl) (kI ?_)
  refine x_istore (pc := 5) cx (dA ddX8_goesOn (i := 3) rfl) (by decide) rfl ?_
  refine x_iconst (pc := 7) (v := nI 0) cx (dA ddX8_goesOn (i := 4) rfl) (by decide) ?_
  refine x_istore (pc := 8) cx (dA ddX8_goesOn (i := 5) rfl) (by decide) rfl ?_
  have L10 : ∀ c, c ≤ 2 ^ N 4 → ∀ V1, goI V V1 a N g w s c → Wm Z X 14 G V1 0 0 (rQ Z X 0 0 (pVx G (fun V' => goI V V' a N g w s (2 ^ N 4)))) 10 [(0, some (.ref y)), (1, some (.int (nI h))), (2, some (.int (nI s))), (3, some (.long (lN w))), (5, some (.ref a)), (6, some (.int (nI (N 4)))), (7, some (.int (nI c)))] [] := by
    refine lpU (2 ^ N 4) (fun c hc ih => ?_)
    intro V1 hI
    refine x_iload (pc := 10) cx (dA ddX8_goesOn (i := 6) rfl) rfl ?_
    refine x_iconst (pc := 12) (v := nI 1) cx (dA ddX8_goesOn (i := 7) rfl) (by decide) ?_
    refine x_iload (pc := 13) cx (dA ddX8_goesOn (i := 8) rfl) rfl ?_
    refine x_ishl (pc := 15) cx (dA ddX8_goesOn (i := 9) rfl) ?_
    rw [shl1 b4]
    refine x_icmp_ge (pc := 16) (tgt := 141) cx (dA ddX8_goesOn (i := 10) rfl) (by decide) (fun c16 => ?_) (fun c16 => ?_)
    · have c16 := cleT (by omega) (by omega) c16
      have ec : c = 2 ^ N 4 := by omega
      subst ec
      refine x_return (pc := 141) cx (dA ddX8_goesOn (i := 78) rfl) (by first | exact Nat.le_of_ble_eq_true rfl | omega) (by first | exact Nat.le_of_ble_eq_true rfl | omega) ?_
      exact ⟨rfl, rfl, hI⟩
    · have c16 := cleF (by omega) (by omega) c16
      have c8 : c < 8 := by omega
      have tl := th_lt b4 c8 hs (N 4) (Nat.le_refl _)
      refine x_lload_n (pc := 19) cx (dA ddX8_goesOn (i := 11) rfl) rfl ?_
      refine x_lconst (pc := 20) (v := lN 0) cx (dA ddX8_goesOn (i := 12) rfl) rfl ?_
      refine x_lc_le (pc := 21) (tgt := 141) cx (dA ddX8_goesOn (i := 13) rfl) (dA ddX8_goesOn (i := 14) rfl) (by decide) (fun c21 => ?_) (fun c21 => ?_)
      · have w0 : w = 0 := by have := (pk_lLE (b := 0) (by omega) (by decide)).mp c21; omega
        subst w0
        refine x_return (pc := 141) cx (dA ddX8_goesOn (i := 78) rfl) (by first | exact Nat.le_of_ble_eq_true rfl | omega) (by first | exact Nat.le_of_ble_eq_true rfl | omega) ?_
        exact ⟨rfl, rfl, goI_0 hI⟩
      · refine x_lload_n (pc := 25) cx (dA ddX8_goesOn (i := 15) rfl) rfl ?_
        refine x_lstore (pc := 26) cx (dA ddX8_goesOn (i := 16) rfl) (by decide) rfl ?_
        refine x_iload_n (pc := 28) cx (dA ddX8_goesOn (i := 17) rfl) rfl ?_
        refine x_istore (pc := 29) cx (dA ddX8_goesOn (i := 18) rfl) (by decide) rfl ?_
        refine x_iconst (pc := 31) (v := nI 0) cx (dA ddX8_goesOn (i := 19) rfl) (by decide) ?_
        refine x_istore (pc := 32) cx (dA ddX8_goesOn (i := 20) rfl) (by decide) rfl ?_
        have L34 : ∀ k, k ≤ N 4 → Wm Z X 14 G V1 0 0 (rQ Z X 0 0 (pVx G (fun V' => goI V V' a N g w s (2 ^ N 4)))) 34 [(0, some (.ref y)), (1, some (.int (nI h))), (2, some (.int (nI s))), (3, some (.long (lN w))), (5, some (.ref a)), (6, some (.int (nI (N 4)))), (7, some (.int (nI c))), (8, some (.long (lN (w * wtM N c k)))), (10, some (.int (nI (thM c s k)))), (11, some (.int (nI k)))] [] := by
          refine lpU (N 4) (fun k hk ih2 => ?_)
          refine x_iload (pc := 34) cx (dA ddX8_goesOn (i := 21) rfl) rfl ?_
          refine x_iload (pc := 36) cx (dA ddX8_goesOn (i := 22) rfl) rfl ?_
          refine x_icmp_ge (pc := 38) (tgt := 125) cx (dA ddX8_goesOn (i := 23) rfl) (by decide) (fun c38 => ?_) (fun c38 => ?_)
          · have c38 := cleT (by omega) (by omega) c38
            have ek : k = N 4 := by omega
            subst ek
            refine x_aload (pc := 125) cx (dA ddX8_goesOn (i := 69) rfl) rfl ?_
            refine x_iload (pc := 127) cx (dA ddX8_goesOn (i := 70) rfl) rfl ?_
            refine x_dup2 (pc := 129) cx rfl rfl (dA ddX8_goesOn (i := 71) rfl) ?_
            refine x_laload (pc := 130) cx (dA ddX8_goesOn (i := 72) rfl) ha (by omega) (by decide) ?_
            rw [hI.2.2 _ tl]
            refine x_lload (pc := 131) cx (dA ddX8_goesOn (i := 73) rfl) rfl ?_
            refine x_ladd (pc := 133) cx (dA ddX8_goesOn (i := 74) rfl) ?_
            rw [lN_add]
            refine x_lastore (pc := 134) cx (dA ddX8_goesOn (i := 75) rfl) ha (by omega) (by decide) ?_
            refine x_iinc (pc := 135) cx (dA ddX8_goesOn (i := 76) rfl) rfl (iinc1 _) (by decide) rfl ?_
            refine x_goto (pc := 138) (tgt := 10) cx (dA ddX8_goesOn (i := 77) rfl) (by decide) ?_
            exact x_enter (ih (by omega) _ (goI_s hI)) ⟨.inr rfl, .inr rfl, .inr rfl, .inr rfl, .inr rfl, .inr rfl, .inr rfl, trivial⟩
          · have c38 := cleF (by omega) (by omega) c38
            have bq := hB.2 (5 + 5 * k + 1) (by omega)
            have c4 : N (5 + 5 * k + 1) ≤ 4 := (hN.2.2.2.2 k c38 1 (by omega)).2
            have bd : c / 2 ^ k % 2 < 2 := Nat.mod_lt _ (by decide)
            have dl := dig_lt s k
            have tdf : thM c s (k + 1) = thM c s k + (if btM c k = true ∧ dig s k < 4 then 5 ^ k else 0) := rfl
            refine x_iload (pc := 41) cx (dA ddX8_goesOn (i := 24) rfl) rfl ?_
            refine x_iload (pc := 43) cx (dA ddX8_goesOn (i := 25) rfl) rfl ?_
            refine x_ishr (pc := 45) cx (dA ddX8_goesOn (i := 26) rfl) ?_
            refine x_iconst (pc := 46) (v := nI 1) cx (dA ddX8_goesOn (i := 27) rfl) (by decide) ?_
            refine x_iand (pc := 47) cx (dA ddX8_goesOn (i := 28) rfl) ?_
            rw [show (nI c >>> (nI k &&& 31)) &&& nI 1 = nI (c / 2 ^ k % 2) from shrA ⟨c, c8⟩ ⟨k, by omega⟩]
            refine x_if_eq (pc := 48) (tgt := 55) cx (dA ddX8_goesOn (i := 29) rfl) (by decide) (fun c48 => ?_) (fun c48 => ?_)
            · have d0 : c / 2 ^ k % 2 = 0 := nI_inj (b := 0) (by omega) (by decide) c48
              have bt : ¬ btM c k = true := by unfold btM; rw [d0]; decide
              have ew : wtM N c (k + 1) = wtM N c k * (4 - N (5 + 5 * k + 1)) := by show wtM N c k * (if btM c k = true then _ else _) = _; rw [if_neg bt]
              have eT : thM c s (k + 1) = thM c s k + 0 := by rw [tdf, if_neg (fun q => bt q.1)]
              refine x_iconst (pc := 55) (v := nI 0) cx (dA ddX8_goesOn (i := 32) rfl) (by decide) ?_
              refine x_istore (pc := 56) cx (dA ddX8_goesOn (i := 33) rfl) (by decide) rfl ?_
              refine x_aload_n (pc := 58) cx (dA ddX8_goesOn (i := 34) rfl) rfl ?_
              refine x_iload_n (pc := 59) cx (dA ddX8_goesOn (i := 35) rfl) rfl ?_
              refine x_iload (pc := 60) cx (dA ddX8_goesOn (i := 36) rfl) rfl ?_
              refine x_iconst (pc := 62) (v := nI 1) cx (dA ddX8_goesOn (i := 37) rfl) (by decide) ?_
              refine x_V3 (pc := 63) mX8_229 h0 (c_X8_numberOf (V := V1) hM hh (MH.gn hh hR hI ha2) hB (k := k) (w := 1) c38 (by omega)) cx (dA ddX8_goesOn (i := 38) rfl) (kI ?_)
              refine x_istore (pc := 66) cx (dA ddX8_goesOn (i := 39) rfl) (by decide) rfl ?_
              refine x_lload (pc := 68) cx (dA ddX8_goesOn (i := 40) rfl) rfl ?_
              refine x_iload (pc := 70) cx (dA ddX8_goesOn (i := 41) rfl) rfl ?_
              refine x_if_eq (pc := 72) (tgt := 81) cx (dA ddX8_goesOn (i := 42) rfl) (by decide) (fun c72 => ?_) (fun c72 => absurd (rfl : nI 0 = 0) c72)
              refine x_iconst (pc := 81) (v := nI 4) cx (dA ddX8_goesOn (i := 46) rfl) (by decide) ?_
              refine x_iload (pc := 82) cx (dA ddX8_goesOn (i := 47) rfl) rfl ?_
              refine x_isub (pc := 84) cx (dA ddX8_goesOn (i := 48) rfl) ?_
              rw [pk_sub c4]
              refine x_i2l (pc := 85) cx (dA ddX8_goesOn (i := 49) rfl) ?_
              rw [nI_l (by omega)]
              refine x_lmul (pc := 86) cx (dA ddX8_goesOn (i := 50) rfl) ?_
              rw [lN_mul, Nat.mul_assoc, ← ew]
              refine x_lstore (pc := 87) cx (dA ddX8_goesOn (i := 51) rfl) (by decide) rfl ?_
              refine x_iload (pc := 89) cx (dA ddX8_goesOn (i := 52) rfl) rfl ?_
              refine x_iload (pc := 91) cx (dA ddX8_goesOn (i := 53) rfl) rfl ?_
              refine x_if_eq (pc := 93) (tgt := 115) cx (dA ddX8_goesOn (i := 54) rfl) (by decide) (fun c93 => ?_) (fun c93 => absurd (rfl : nI 0 = 0) c93)
              refine x_iconst (pc := 115) (v := nI 0) cx (dA ddX8_goesOn (i := 64) rfl) (by decide) ?_
              refine x_iadd (pc := 116) cx (dA ddX8_goesOn (i := 65) rfl) ?_
              rw [nI_add, ← eT]
              refine x_istore (pc := 117) cx (dA ddX8_goesOn (i := 66) rfl) (by decide) rfl ?_
              refine x_iinc (pc := 119) cx (dA ddX8_goesOn (i := 67) rfl) rfl (iinc1 _) (by decide) rfl ?_
              refine x_goto (pc := 122) (tgt := 34) cx (dA ddX8_goesOn (i := 68) rfl) (by decide) ?_
              exact x_enter (ih2 (by omega)) ⟨.inr rfl, .inr rfl, .inr rfl, .inr rfl, .inr rfl, .inr rfl, .inr rfl, .inr rfl, .inr rfl, .inr rfl, trivial⟩
            · have d1 : c / 2 ^ k % 2 = 1 := by
                have : ¬ c / 2 ^ k % 2 = 0 := fun e => c48 (by rw [e]; rfl)
                omega
              have bt : btM c k = true := by unfold btM; rw [d1]; decide
              have ew : wtM N c (k + 1) = wtM N c k * N (5 + 5 * k + 1) := by show wtM N c k * (if btM c k = true then _ else _) = _; rw [if_pos bt]
              refine x_iconst (pc := 51) (v := nI 1) cx (dA ddX8_goesOn (i := 30) rfl) (by decide) ?_
              refine x_goto (pc := 52) (tgt := 56) cx (dA ddX8_goesOn (i := 31) rfl) (by decide) ?_
              refine x_istore (pc := 56) cx (dA ddX8_goesOn (i := 33) rfl) (by decide) rfl ?_
              refine x_aload_n (pc := 58) cx (dA ddX8_goesOn (i := 34) rfl) rfl ?_
              refine x_iload_n (pc := 59) cx (dA ddX8_goesOn (i := 35) rfl) rfl ?_
              refine x_iload (pc := 60) cx (dA ddX8_goesOn (i := 36) rfl) rfl ?_
              refine x_iconst (pc := 62) (v := nI 1) cx (dA ddX8_goesOn (i := 37) rfl) (by decide) ?_
              refine x_V3 (pc := 63) mX8_229 h0 (c_X8_numberOf (V := V1) hM hh (MH.gn hh hR hI ha2) hB (k := k) (w := 1) c38 (by omega)) cx (dA ddX8_goesOn (i := 38) rfl) (kI ?_)
              refine x_istore (pc := 66) cx (dA ddX8_goesOn (i := 39) rfl) (by decide) rfl ?_
              refine x_lload (pc := 68) cx (dA ddX8_goesOn (i := 40) rfl) rfl ?_
              refine x_iload (pc := 70) cx (dA ddX8_goesOn (i := 41) rfl) rfl ?_
              refine x_if_eq (pc := 72) (tgt := 81) cx (dA ddX8_goesOn (i := 42) rfl) (by decide) (fun c72 => absurd c72 (show ¬ nI 1 = 0 by decide)) (fun c72 => ?_)
              refine x_iload (pc := 75) cx (dA ddX8_goesOn (i := 43) rfl) rfl ?_
              refine x_i2l (pc := 77) cx (dA ddX8_goesOn (i := 44) rfl) ?_
              rw [nI_l (by omega)]
              refine x_goto (pc := 78) (tgt := 86) cx (dA ddX8_goesOn (i := 45) rfl) (by decide) ?_
              refine x_lmul (pc := 86) cx (dA ddX8_goesOn (i := 50) rfl) ?_
              rw [lN_mul, Nat.mul_assoc, ← ew]
              refine x_lstore (pc := 87) cx (dA ddX8_goesOn (i := 51) rfl) (by decide) rfl ?_
              refine x_iload (pc := 89) cx (dA ddX8_goesOn (i := 52) rfl) rfl ?_
              refine x_iload (pc := 91) cx (dA ddX8_goesOn (i := 53) rfl) rfl ?_
              refine x_if_eq (pc := 93) (tgt := 115) cx (dA ddX8_goesOn (i := 54) rfl) (by decide) (fun c93 => absurd c93 (show ¬ nI 1 = 0 by decide)) (fun c93 => ?_)
              refine x_iload_n (pc := 96) cx (dA ddX8_goesOn (i := 55) rfl) rfl ?_
              refine x_iload (pc := 97) cx (dA ddX8_goesOn (i := 56) rfl) rfl ?_
              refine x_S2 (pc := 99) mX8_226 (c_X8_ofState (by omega) (by omega)) cx (dA ddX8_goesOn (i := 57) rfl) (kI ?_)
              refine x_iconst (pc := 102) (v := nI 4) cx (dA ddX8_goesOn (i := 58) rfl) (by decide) ?_
              refine x_icmp_ge (pc := 103) (tgt := 115) cx (dA ddX8_goesOn (i := 59) rfl) (by decide) (fun c103 => ?_) (fun c103 => ?_)
              · have c103 := cleT (by omega) (by omega) c103
                have d4 : ¬ dig s k < 4 := by omega
                have eT : thM c s (k + 1) = thM c s k + 0 := by rw [tdf, if_neg (fun q => d4 q.2)]
                refine x_iconst (pc := 115) (v := nI 0) cx (dA ddX8_goesOn (i := 64) rfl) (by decide) ?_
                refine x_iadd (pc := 116) cx (dA ddX8_goesOn (i := 65) rfl) ?_
                rw [nI_add, ← eT]
                refine x_istore (pc := 117) cx (dA ddX8_goesOn (i := 66) rfl) (by decide) rfl ?_
                refine x_iinc (pc := 119) cx (dA ddX8_goesOn (i := 67) rfl) rfl (iinc1 _) (by decide) rfl ?_
                refine x_goto (pc := 122) (tgt := 34) cx (dA ddX8_goesOn (i := 68) rfl) (by decide) ?_
                exact x_enter (ih2 (by omega)) ⟨.inr rfl, .inr rfl, .inr rfl, .inr rfl, .inr rfl, .inr rfl, .inr rfl, .inr rfl, .inr rfl, .inr rfl, trivial⟩
              · have c103 := cleF (by omega) (by omega) c103
                have d4 : dig s k < 4 := by omega
                have eT : thM c s (k + 1) = thM c s k + 5 ^ k := by rw [tdf, if_pos ⟨bt, d4⟩]
                refine x_iconst (pc := 106) (v := nI 5) cx (dA ddX8_goesOn (i := 60) rfl) (by decide) ?_
                refine x_iload (pc := 107) cx (dA ddX8_goesOn (i := 61) rfl) rfl ?_
                refine x_S2 (pc := 109) mX8_102 (c_X8_power (by omega)) cx (dA ddX8_goesOn (i := 62) rfl) (kI ?_)
                refine x_goto (pc := 112) (tgt := 116) cx (dA ddX8_goesOn (i := 63) rfl) (by decide) ?_
                refine x_iadd (pc := 116) cx (dA ddX8_goesOn (i := 65) rfl) ?_
                rw [nI_add, ← eT]
                refine x_istore (pc := 117) cx (dA ddX8_goesOn (i := 66) rfl) (by decide) rfl ?_
                refine x_iinc (pc := 119) cx (dA ddX8_goesOn (i := 67) rfl) rfl (iinc1 _) (by decide) rfl ?_
                refine x_goto (pc := 122) (tgt := 34) cx (dA ddX8_goesOn (i := 68) rfl) (by decide) ?_
                exact x_enter (ih2 (by omega)) ⟨.inr rfl, .inr rfl, .inr rfl, .inr rfl, .inr rfl, .inr rfl, .inr rfl, .inr rfl, .inr rfl, .inr rfl, trivial⟩
        have L := L34 0 (Nat.zero_le _)
        rw [show w * wtM N c 0 = w from Nat.mul_one w, show thM c s 0 = s from rfl] at L
        exact x_enter L ⟨.inr rfl, .inr rfl, .inr rfl, .inr rfl, .inr rfl, .inr rfl, .inr rfl, .inr rfl, .inr rfl, .inr rfl, trivial⟩
  exact x_enter (L10 0 (Nat.zero_le _) V ⟨fun x _ => same4.refl V x, fun _ => rfl, fun t ht => by rw [hg t ht]; rfl⟩) ⟨.inr rfl, .inr rfl, .inr rfl, .inr rfl, .inr rfl, .inr rfl, .inr rfl, trivial⟩
