theorem MH.same55 {V V' : zV} {y h : Nat} {N : Nat → Nat} (hR : MH V y h N) (hh : h < 8) (hs : SameB V V' (y + 55) (y + 86)) : MH V' y h N := fun j hj => ((hs _ (by omega)).2.2.1 j).trans (hR j hj)
theorem MRule.same {V V' : zV} {y r κ b m : Nat} {f : Nat → Bool} (h : MRule V y r κ b m f) (hr : r < 10) (hs : SameB V V' (y + 55) (y + 86)) : MRule V' y r κ b m f := by
  obtain ⟨a, b1, c, d, e, g, k⟩ := h
  exact ⟨((hs _ (by omega)).2.2.1 r).trans a, b1, ((hs _ (by omega)).2.2.1 r).trans c, d, e, g, fun q i hi => ((hs _ (by omega)).2.2.1 i).trans (k q i hi)⟩
def gbI (V V1 : zV) (y : Nat) (N : Nat → Nat) (g : Nat → Nat → Nat) (D : Nat) : Prop := SameB V V1 (y + 55) (y + 86) ∧ WaysV V1 y N ∧ ∀ d, d < D → ∀ s, s < 5 ^ N 4 → V1.2.2.2 (y + 55 + 1 + d) s = lN (g d s)
def gbJ (V V1 : zV) (y : Nat) (N : Nat → Nat) (g : Nat → Nat → Nat) (D s : Nat) : Prop := gbI V V1 y N g D ∧ ∀ t, t < s → V1.2.2.2 (y + 55 + 1 + D) t = lN (g D t)
theorem gbJ_s {V V1 : zV} {y D s : Nat} {N : Nat → Nat} {g : Nat → Nat → Nat} (h4 : N 4 ≤ 3) (hD : D < 7) (h : gbJ V V1 y N g D s) : gbJ V (sAJ V1 (y + 55 + 1 + D) s (lN (g D s))) y N g D (s + 1) := by
  obtain ⟨⟨a, b, c⟩, d⟩ := h
  refine ⟨⟨a.sAJ (by omega) (by omega), b.same h4 (fun x h1 h2 => (same4.refl V1 x).sAJ (by omega)), fun e he t ht => (sAJ_ne (by omega)).trans (c e he t ht)⟩, fun t ht => ?_⟩
  by_cases q : t = s
  · subst q; exact sAJ_eq
  · exact (sAJ_nj q).trans (d t (by omega))
theorem gbI_s {V V1 : zV} {y D : Nat} {N : Nat → Nat} {g : Nat → Nat → Nat} (h : gbJ V V1 y N g D (5 ^ N 4)) : gbI V V1 y N g (D + 1) := by
  obtain ⟨⟨a, b, c⟩, d⟩ := h
  refine ⟨a, b, fun e he t ht => ?_⟩
  by_cases q : e = D
  · subst q; exact d t ht
  · exact c e (by omega) t ht
theorem gbI_w {V V1 : zV} {y D s : Nat} {N f : Nat → Nat} {g : Nat → Nat → Nat} (h4 : N 4 ≤ 3) (hD : D ≤ 7) (h : gbI V V1 y N g D) : gbI V (wtJ V1 y s f) y N g D := by
  obtain ⟨a, b, c⟩ := h
  exact ⟨a.rAJ (by omega) (by omega), b.same h4 (fun x h1 h2 => wt_same (by omega)), fun e he t ht => ((wt_same (by omega)).2.2.2 t).trans (c e he t ht)⟩
theorem c_X8_goesByRule {l : Launch} {Z : zP} {G : zG} {V : zV} {y : Nat} (hM : ModelAt Z G y) {h : Nat} (hh : h < 8) {N : Nat → Nat} (hR : MH V y h N) (hB : HouseB N) (hN : HOK N) (hW : WaysV V y N) {r κ b m : Nat} {rf : Nat → Bool} (hr : r < 10) (hR5 : MRule V y r κ b m rf) (hK : κ = 4 → ∀ d, 1 ≤ d → d ≤ N 0 → ∀ s, s < 5 ^ N 4 → V.2.2.1 (y + 47 + 1 + d) s = nI (ldP N d s)) : CT l Z yX8_goesByRule cX8_goesByRule 10 none 3 0 0 [.ref y, .int (nI h), .int (nI r)] G V (pVx G (fun V' => gbI V V' y N (rCs N κ b m rf) (N 0 + 1))) := by
  refine CT.of (by decide +kernel) (Nat.le_of_ble_eq_true rfl) (fun X hX cx => ?_)
  subst hX
  show Wm Z X 10 G V 0 0 _ 0 [(0, some (.ref y)), (1, some (.int (nI h))), (2, some (.int (nI r)))] []
  have h0 := hM.1
  have b4 := hB.1
  have n125 := st125 b4
  have h06 := hN.2.1
  have κ1 := hR5.2.1
  refine x_iconst (pc := 0) (v := nI 0) cx (dA ddX8_goesByRule (i := 0) rfl) (by decide) ?_
  refine x_istore_n (pc := 1) cx (dA ddX8_goesByRule (i := 1) rfl) (by decide) rfl ?_
  have L2 : ∀ s, s ≤ 5 ^ N 4 → ∀ V1, gbJ V V1 y N (rCs N κ b m rf) 0 s → Wm Z X 10 G V1 0 0 (rQ Z X 0 0 (pVx G (fun V' => gbI V V' y N (rCs N κ b m rf) (N 0 + 1)))) 2 [(0, some (.ref y)), (1, some (.int (nI h))), (2, some (.int (nI r))), (3, some (.int (nI s)))] [] := by
    refine lpU (5 ^ N 4) (fun s hs ih => ?_)
    intro V1 hJ
    refine x_iload_n (pc := 2) cx (dA ddX8_goesByRule (i := 2) rfl) rfl ?_
    refine x_aload_n (pc := 3) cx (dA ddX8_goesByRule (i := 3) rfl) rfl ?_
    refine x_iload_n (pc := 4) cx (dA ddX8_goesByRule (i := 4) rfl) rfl ?_
    refine x_V1 (pc := 5) mX8_110 h0 (c_X8_states (V := V1) hM hh (hR.same55 hh hJ.1.1) hB) cx (dA ddX8_goesByRule (i := 5) rfl) (kI ?_)
    refine x_icmp_ge (pc := 8) (tgt := 33) cx (dA ddX8_goesByRule (i := 6) rfl) (by decide) (fun c8 => ?_) (fun c8 => ?_)
    · have c8 := cleT (by omega) (by omega) c8
      have es : s = 5 ^ N 4 := by omega
      subst es
      refine x_iconst (pc := 33) (v := nI 1) cx (dA ddX8_goesByRule (i := 21) rfl) (by decide) ?_
      refine x_istore_n (pc := 34) cx (dA ddX8_goesByRule (i := 22) rfl) (by decide) rfl ?_
      have L35 : ∀ e, e ≤ N 0 → ∀ V3, gbI V V3 y N (rCs N κ b m rf) (e + 1) → Wm Z X 10 G V3 0 0 (rQ Z X 0 0 (pVx G (fun V' => gbI V V' y N (rCs N κ b m rf) (N 0 + 1)))) 35 [(0, some (.ref y)), (1, some (.int (nI h))), (2, some (.int (nI r))), (3, some (.int (nI (e + 1))))] [] := by
        refine lpU (N 0) (fun e he ih2 => ?_)
        intro V3 hF
        refine x_iload_n (pc := 35) cx (dA ddX8_goesByRule (i := 23) rfl) rfl ?_
        refine x_aload_n (pc := 36) cx (dA ddX8_goesByRule (i := 24) rfl) rfl ?_
        refine gX8_45 (pc := 37) (rfA hM.2.2.2.2.2.2.2.2.2.2.2.1.1) cx (dA ddX8_goesByRule (i := 25) rfl) h0 ?_
        refine x_iload_n (pc := 40) cx (dA ddX8_goesByRule (i := 26) rfl) rfl ?_
        refine x_aaload (pc := 41) cx (dA ddX8_goesByRule (i := 27) rfl) hM.2.2.2.2.2.2.2.2.2.2.2.1.2.1 (by decide) (by decide) hh (by decide) ?_
        rw [arA (hM.2.2.2.2.2.2.2.2.2.2.2.1.2.2 h hh).1]
        refine x_iconst (pc := 42) (v := nI 0) cx (dA ddX8_goesByRule (i := 28) rfl) (by decide) ?_
        refine x_iaload (pc := 43) cx (dA ddX8_goesByRule (i := 29) rfl) (hM.2.2.2.2.2.2.2.2.2.2.2.1.2.2 h hh).2 (by decide) (by decide) ?_
        rw [(hR.same55 hh hF.1) 0 (by omega)]
        refine x_icmp_gt (pc := 44) (tgt := 246) cx (dA ddX8_goesByRule (i := 30) rfl) (by decide) (fun c44 => ?_) (fun c44 => ?_)
        · have c44 := cltT (by omega) (by omega) c44
          have ee : e = N 0 := by omega
          subst ee
          refine x_return (pc := 246) cx (dA ddX8_goesByRule (i := 147) rfl) (by first | exact Nat.le_of_ble_eq_true rfl | omega) (by first | exact Nat.le_of_ble_eq_true rfl | omega) ?_
          exact ⟨rfl, rfl, hF⟩
        · have c44 := cltF (by omega) (by omega) c44
          refine x_iconst (pc := 47) (v := nI 0) cx (dA ddX8_goesByRule (i := 31) rfl) (by decide) ?_
          refine x_istore (pc := 48) cx (dA ddX8_goesByRule (i := 32) rfl) (by decide) rfl ?_
          have L50 : ∀ s, s ≤ 5 ^ N 4 → Wm Z X 10 G (wtJ V3 y s (swD N (e + 1) (rCs N κ b m rf e))) 0 0 (rQ Z X 0 0 (pVx G (fun V' => gbI V V' y N (rCs N κ b m rf) (N 0 + 1)))) 50 [(0, some (.ref y)), (1, some (.int (nI h))), (2, some (.int (nI r))), (3, some (.int (nI (e + 1)))), (4, some (.int (nI s)))] [] := by
            refine lpU (5 ^ N 4) (fun s hs ih3 => ?_)
            refine x_iload (pc := 50) cx (dA ddX8_goesByRule (i := 33) rfl) rfl ?_
            refine x_aload_n (pc := 52) cx (dA ddX8_goesByRule (i := 34) rfl) rfl ?_
            refine x_iload_n (pc := 53) cx (dA ddX8_goesByRule (i := 35) rfl) rfl ?_
            refine x_V1 (pc := 54) mX8_110 h0 (c_X8_states (V := (wtJ V3 y s (swD N (e + 1) (rCs N κ b m rf e)))) hM hh (hR.same55 hh (gbI_w (s := s) (f := (swD N (e + 1) (rCs N κ b m rf e))) b4 (by omega) hF).1) hB) cx (dA ddX8_goesByRule (i := 36) rfl) (kI ?_)
            refine x_icmp_ge (pc := 57) (tgt := 89) cx (dA ddX8_goesByRule (i := 37) rfl) (by decide) (fun c57 => ?_) (fun c57 => ?_)
            · have c57 := cleT (by omega) (by omega) c57
              have es : s = 5 ^ N 4 := by omega
              subst es
              refine x_aload_n (pc := 89) cx (dA ddX8_goesByRule (i := 55) rfl) rfl ?_
              refine x_iload_n (pc := 90) cx (dA ddX8_goesByRule (i := 56) rfl) rfl ?_
              refine x_iload_n (pc := 91) cx (dA ddX8_goesByRule (i := 57) rfl) rfl ?_
              refine x_V2 (pc := 92) mX8_261 h0 (c_X8_boxOf (V := wtJ V3 y (5 ^ N 4) (swD N (e + 1) (rCs N κ b m rf e))) hM hh (hR.same55 hh (gbI_w (s := 5 ^ N 4) (f := (swD N (e + 1) (rCs N κ b m rf e))) b4 (by omega) hF).1) hB (d := e + 1) (by omega) (by omega)) cx (dA ddX8_goesByRule (i := 58) rfl) (kJ ?_)
              refine x_lstore (pc := 95) cx (dA ddX8_goesByRule (i := 59) rfl) (by decide) rfl ?_
              refine x_iconst (pc := 97) (v := nI 0) cx (dA ddX8_goesByRule (i := 60) rfl) (by decide) ?_
              refine x_istore (pc := 98) cx (dA ddX8_goesByRule (i := 61) rfl) (by decide) rfl ?_
              have L100 : ∀ s, s ≤ 5 ^ N 4 → ∀ V5, gbJ V V5 y N (rCs N κ b m rf) (e + 1) s → (∀ t, t < 5 ^ N 4 → V5.2.2.2 (y + 85) t = lN ((swD N (e + 1) (rCs N κ b m rf e)) t)) → Wm Z X 10 G V5 0 0 (rQ Z X 0 0 (pVx G (fun V' => gbI V V' y N (rCs N κ b m rf) (N 0 + 1)))) 100 [(0, some (.ref y)), (1, some (.int (nI h))), (2, some (.int (nI r))), (3, some (.int (nI (e + 1)))), (4, some (.long (lN (boxP N (e + 1))))), (6, some (.int (nI s)))] [] := by
                refine lpU (5 ^ N 4) (fun s hs ih4 => ?_)
                intro V5 hJ hw
                refine x_iload (pc := 100) cx (dA ddX8_goesByRule (i := 62) rfl) rfl ?_
                refine x_aload_n (pc := 102) cx (dA ddX8_goesByRule (i := 63) rfl) rfl ?_
                refine x_iload_n (pc := 103) cx (dA ddX8_goesByRule (i := 64) rfl) rfl ?_
                refine x_V1 (pc := 104) mX8_110 h0 (c_X8_states (V := V5) hM hh (hR.same55 hh hJ.1.1) hB) cx (dA ddX8_goesByRule (i := 65) rfl) (kI ?_)
                refine x_icmp_ge (pc := 107) (tgt := 240) cx (dA ddX8_goesByRule (i := 66) rfl) (by decide) (fun c107 => ?_) (fun c107 => ?_)
                · have c107 := cleT (by omega) (by omega) c107
                  have es : s = 5 ^ N 4 := by omega
                  subst es
                  refine x_iinc (pc := 240) cx (dA ddX8_goesByRule (i := 145) rfl) rfl (iinc1 _) (by decide) rfl ?_
                  refine x_goto (pc := 243) (tgt := 35) cx (dA ddX8_goesByRule (i := 146) rfl) (by decide) ?_
                  exact x_enter (ih2 (by omega) _ (gbI_s hJ)) ⟨.inr rfl, .inr rfl, .inr rfl, .inr rfl, trivial⟩
                · have c107 := cleF (by omega) (by omega) c107
                  have hr2 := hR5.same hr hJ.1.1
                  have ls : ruL N κ b m rf (e + 1) s ≤ s := ruL_le hN (by omega) (by omega) c107
                  have rl := sumP_lt hB (s := s) (w := 0) (by omega)
                  have b3 := hN.2.2.2.1
                  refine x_aload_n (pc := 110) cx (dA ddX8_goesByRule (i := 67) rfl) rfl ?_
                  refine gX8_28 (pc := 111) (rfA hM.2.2.2.2.2.2.1.1) cx (dA ddX8_goesByRule (i := 68) rfl) h0 ?_
                  refine x_iload_n (pc := 114) cx (dA ddX8_goesByRule (i := 69) rfl) rfl ?_
                  refine x_iaload (pc := 115) cx (dA ddX8_goesByRule (i := 70) rfl) hM.2.2.2.2.2.2.1.2 hr (by decide) ?_
                  rw [hr2.1]
                  refine x_iconst (pc := 116) (v := nI 4) cx (dA ddX8_goesByRule (i := 71) rfl) (by decide) ?_
                  refine x_icmp_ne (pc := 117) (tgt := 132) cx (dA ddX8_goesByRule (i := 72) rfl) (by decide) (fun c117 => ?_) (fun c117 => ?_)
                  · have k4 : κ ≠ 4 := fun z => c117 (by rw [z])
                    have e9 : ruL N κ b m rf (e + 1) s = if fillsP κ b m rf (e + 1) s (sumP N s 0) = true then fillP N s else 0 := if_neg k4
                    refine x_aload_n (pc := 132) cx (dA ddX8_goesByRule (i := 80) rfl) rfl ?_
                    refine x_iload_n (pc := 133) cx (dA ddX8_goesByRule (i := 81) rfl) rfl ?_
                    refine x_iload (pc := 134) cx (dA ddX8_goesByRule (i := 82) rfl) rfl ?_
                    refine x_iload_n (pc := 136) cx (dA ddX8_goesByRule (i := 83) rfl) rfl ?_
                    refine x_aload_n (pc := 137) cx (dA ddX8_goesByRule (i := 84) rfl) rfl ?_
                    refine gX8_76 (pc := 138) (rfA hM.2.2.2.2.2.2.2.2.2.2.2.2.2.2.2.2.2.2.2.2.1.1) cx (dA ddX8_goesByRule (i := 85) rfl) h0 ?_
                    refine x_iload (pc := 141) cx (dA ddX8_goesByRule (i := 86) rfl) rfl ?_
                    refine x_iaload (pc := 143) cx (dA ddX8_goesByRule (i := 87) rfl) hM.2.2.2.2.2.2.2.2.2.2.2.2.2.2.2.2.2.2.2.2.1.2 (by omega) (by decide) ?_
                    rw [hJ.1.2.1.2.1 s c107]
                    refine x_V4 (pc := 144) mX8_267 h0 (c_X8_fillsBy hM hr hr2 k4 (by omega) (by omega) (by omega)) cx (dA ddX8_goesByRule (i := 88) rfl) (kI ?_)
                    refine x_if_eq (pc := 147) (tgt := 160) cx (dA ddX8_goesByRule (i := 89) rfl) (by decide) (fun c147 => ?_) (fun c147 => ?_)
                    · have c147 := b2i_eq c147
                      rw [if_neg c147] at e9
                      refine x_iconst (pc := 160) (v := nI 0) cx (dA ddX8_goesByRule (i := 95) rfl) (by decide) ?_
                      refine x_istore (pc := 161) cx (dA ddX8_goesByRule (i := 96) rfl) (by decide) rfl ?_
                      refine x_iload (pc := 163) cx (dA ddX8_goesByRule (i := 97) rfl) rfl ?_
                      refine x_if_ne (pc := 165) (tgt := 178) cx (dA ddX8_goesByRule (i := 98) rfl) (by decide) (fun c165 => absurd (rfl : nI 0 = 0) c165) (fun c165 => ?_)
                      have l0 : ruL N κ b m rf (e + 1) s = 0 := e9
                      refine x_aload_n (pc := 168) cx (dA ddX8_goesByRule (i := 99) rfl) rfl ?_
                      refine gX8_82 (pc := 169) (rfA hM.2.2.2.2.2.2.2.2.2.2.2.2.2.2.2.2.2.2.2.2.2.2.1.1) cx (dA ddX8_goesByRule (i := 100) rfl) h0 ?_
                      refine x_iload (pc := 172) cx (dA ddX8_goesByRule (i := 101) rfl) rfl ?_
                      refine x_laload (pc := 174) cx (dA ddX8_goesByRule (i := 102) rfl) hM.2.2.2.2.2.2.2.2.2.2.2.2.2.2.2.2.2.2.2.2.2.2.1.2 (by omega) (by decide) ?_
                      rw [hw s c107]
                      refine x_goto (pc := 175) (tgt := 191) cx (dA ddX8_goesByRule (i := 103) rfl) (by decide) ?_
                      refine x_lstore (pc := 191) cx (dA ddX8_goesByRule (i := 112) rfl) (by decide) rfl ?_
                      refine x_aload_n (pc := 193) cx (dA ddX8_goesByRule (i := 113) rfl) rfl ?_
                      refine gX8_61 (pc := 194) (rfA hM.2.2.2.2.2.2.2.2.2.2.2.2.2.2.2.1.1) cx (dA ddX8_goesByRule (i := 114) rfl) h0 ?_
                      refine x_iload_n (pc := 197) cx (dA ddX8_goesByRule (i := 115) rfl) rfl ?_
                      refine x_aaload (pc := 198) cx (dA ddX8_goesByRule (i := 116) rfl) hM.2.2.2.2.2.2.2.2.2.2.2.2.2.2.2.1.2.1 (by decide) (by decide) (by omega) (by decide) ?_
                      rw [arA (hM.2.2.2.2.2.2.2.2.2.2.2.2.2.2.2.1.2.2 (e + 1) (by omega)).1]
                      refine x_iload (pc := 199) cx (dA ddX8_goesByRule (i := 117) rfl) rfl ?_
                      refine x_aload_n (pc := 201) cx (dA ddX8_goesByRule (i := 118) rfl) rfl ?_
                      refine gX8_45 (pc := 202) (rfA hM.2.2.2.2.2.2.2.2.2.2.2.1.1) cx (dA ddX8_goesByRule (i := 119) rfl) h0 ?_
                      refine x_iload_n (pc := 205) cx (dA ddX8_goesByRule (i := 120) rfl) rfl ?_
                      refine x_aaload (pc := 206) cx (dA ddX8_goesByRule (i := 121) rfl) hM.2.2.2.2.2.2.2.2.2.2.2.1.2.1 (by decide) (by decide) hh (by decide) ?_
                      rw [arA (hM.2.2.2.2.2.2.2.2.2.2.2.1.2.2 h hh).1]
                      refine x_iconst (pc := 207) (v := nI 3) cx (dA ddX8_goesByRule (i := 122) rfl) (by decide) ?_
                      refine x_iaload (pc := 208) cx (dA ddX8_goesByRule (i := 123) rfl) (hM.2.2.2.2.2.2.2.2.2.2.2.1.2.2 h hh).2 (by decide) (by decide) ?_
                      rw [(hR.same55 hh hJ.1.1) 3 (by omega)]
                      refine x_i2l (pc := 209) cx (dA ddX8_goesByRule (i := 124) rfl) ?_
                      rw [nI_l (by omega)]
                      refine x_aload_n (pc := 210) cx (dA ddX8_goesByRule (i := 125) rfl) rfl ?_
                      refine gX8_82 (pc := 211) (rfA hM.2.2.2.2.2.2.2.2.2.2.2.2.2.2.2.2.2.2.2.2.2.2.1.1) cx (dA ddX8_goesByRule (i := 126) rfl) h0 ?_
                      refine x_iload (pc := 214) cx (dA ddX8_goesByRule (i := 127) rfl) rfl ?_
                      refine x_laload (pc := 216) cx (dA ddX8_goesByRule (i := 128) rfl) hM.2.2.2.2.2.2.2.2.2.2.2.2.2.2.2.2.2.2.2.2.2.2.1.2 (by omega) (by decide) ?_
                      rw [hw s c107]
                      refine x_lmul (pc := 217) cx (dA ddX8_goesByRule (i := 129) rfl) ?_
                      refine x_iconst (pc := 218) (v := nI 4) cx (dA ddX8_goesByRule (i := 130) rfl) (by decide) ?_
                      refine x_aload_n (pc := 219) cx (dA ddX8_goesByRule (i := 131) rfl) rfl ?_
                      refine gX8_45 (pc := 220) (rfA hM.2.2.2.2.2.2.2.2.2.2.2.1.1) cx (dA ddX8_goesByRule (i := 132) rfl) h0 ?_
                      refine x_iload_n (pc := 223) cx (dA ddX8_goesByRule (i := 133) rfl) rfl ?_
                      refine x_aaload (pc := 224) cx (dA ddX8_goesByRule (i := 134) rfl) hM.2.2.2.2.2.2.2.2.2.2.2.1.2.1 (by decide) (by decide) hh (by decide) ?_
                      rw [arA (hM.2.2.2.2.2.2.2.2.2.2.2.1.2.2 h hh).1]
                      refine x_iconst (pc := 225) (v := nI 3) cx (dA ddX8_goesByRule (i := 135) rfl) (by decide) ?_
                      refine x_iaload (pc := 226) cx (dA ddX8_goesByRule (i := 136) rfl) (hM.2.2.2.2.2.2.2.2.2.2.2.1.2.2 h hh).2 (by decide) (by decide) ?_
                      rw [(hR.same55 hh hJ.1.1) 3 (by omega)]
                      refine x_isub (pc := 227) cx (dA ddX8_goesByRule (i := 137) rfl) ?_
                      rw [pk_sub (by omega)]
                      refine x_i2l (pc := 228) cx (dA ddX8_goesByRule (i := 138) rfl) ?_
                      rw [nI_l (by omega)]
                      refine x_lload (pc := 229) cx (dA ddX8_goesByRule (i := 139) rfl) rfl ?_
                      refine x_lmul (pc := 231) cx (dA ddX8_goesByRule (i := 140) rfl) ?_
                      refine x_ladd (pc := 232) cx (dA ddX8_goesByRule (i := 141) rfl) ?_
                      rw [lN_mul, lN_mul, lN_add, show N 3 * (swD N (e + 1) (rCs N κ b m rf e)) s + (4 - N 3) * (swD N (e + 1) (rCs N κ b m rf e)) s = rCs N κ b m rf (e + 1) s from by show _ = mixP N (boxP N (e + 1)) (swD N (e + 1) (rCs N κ b m rf e)) s (ruL N κ b m rf (e + 1) s); unfold mixP; rw [l0, if_pos rfl, Nat.sub_zero]; rfl]
                      refine x_lastore (pc := 233) cx (dA ddX8_goesByRule (i := 142) rfl) (hM.2.2.2.2.2.2.2.2.2.2.2.2.2.2.2.1.2.2 (e + 1) (by omega)).2 (by omega) (by decide) ?_
                      refine x_iinc (pc := 234) cx (dA ddX8_goesByRule (i := 143) rfl) rfl (iinc1 _) (by decide) rfl ?_
                      refine x_goto (pc := 237) (tgt := 100) cx (dA ddX8_goesByRule (i := 144) rfl) (by decide) ?_
                      exact x_enter (ih4 (by omega) _ (gbJ_s b4 (by omega) hJ) (fun t ht => (sAJ_ne (by omega)).trans (hw t ht))) ⟨.inr rfl, .inr rfl, .inr rfl, .inr rfl, .inr rfl, .inr rfl, trivial⟩
                    · have c147 := b2i_ne c147
                      rw [if_pos c147] at e9
                      refine x_aload_n (pc := 150) cx (dA ddX8_goesByRule (i := 90) rfl) rfl ?_
                      refine gX8_73 (pc := 151) (rfA hM.2.2.2.2.2.2.2.2.2.2.2.2.2.2.2.2.2.2.2.1.1) cx (dA ddX8_goesByRule (i := 91) rfl) h0 ?_
                      refine x_iload (pc := 154) cx (dA ddX8_goesByRule (i := 92) rfl) rfl ?_
                      refine x_iaload (pc := 156) cx (dA ddX8_goesByRule (i := 93) rfl) hM.2.2.2.2.2.2.2.2.2.2.2.2.2.2.2.2.2.2.2.1.2 (by omega) (by decide) ?_
                      rw [hJ.1.2.1.1 s c107, ← e9]
                      refine x_goto (pc := 157) (tgt := 161) cx (dA ddX8_goesByRule (i := 94) rfl) (by decide) ?_
                      refine x_istore (pc := 161) cx (dA ddX8_goesByRule (i := 96) rfl) (by decide) rfl ?_
                      refine x_iload (pc := 163) cx (dA ddX8_goesByRule (i := 97) rfl) rfl ?_
                      refine x_if_ne (pc := 165) (tgt := 178) cx (dA ddX8_goesByRule (i := 98) rfl) (by decide) (fun c165 => ?_) (fun c165 => ?_)
                      · have l0 : ¬ ruL N κ b m rf (e + 1) s = 0 := fun z => c165 (by rw [z]; rfl)
                        refine x_lload (pc := 178) cx (dA ddX8_goesByRule (i := 104) rfl) rfl ?_
                        refine x_aload_n (pc := 180) cx (dA ddX8_goesByRule (i := 105) rfl) rfl ?_
                        refine gX8_82 (pc := 181) (rfA hM.2.2.2.2.2.2.2.2.2.2.2.2.2.2.2.2.2.2.2.2.2.2.1.1) cx (dA ddX8_goesByRule (i := 106) rfl) h0 ?_
                        refine x_iload (pc := 184) cx (dA ddX8_goesByRule (i := 107) rfl) rfl ?_
                        refine x_iload (pc := 186) cx (dA ddX8_goesByRule (i := 108) rfl) rfl ?_
                        refine x_isub (pc := 188) cx (dA ddX8_goesByRule (i := 109) rfl) ?_
                        rw [pk_sub ls]
                        refine x_laload (pc := 189) cx (dA ddX8_goesByRule (i := 110) rfl) hM.2.2.2.2.2.2.2.2.2.2.2.2.2.2.2.2.2.2.2.2.2.2.1.2 (by omega) (by decide) ?_
                        rw [hw (s - ruL N κ b m rf (e + 1) s) (by omega)]
                        refine x_ladd (pc := 190) cx (dA ddX8_goesByRule (i := 111) rfl) ?_
                        rw [lN_add]
                        refine x_lstore (pc := 191) cx (dA ddX8_goesByRule (i := 112) rfl) (by decide) rfl ?_
                        refine x_aload_n (pc := 193) cx (dA ddX8_goesByRule (i := 113) rfl) rfl ?_
                        refine gX8_61 (pc := 194) (rfA hM.2.2.2.2.2.2.2.2.2.2.2.2.2.2.2.1.1) cx (dA ddX8_goesByRule (i := 114) rfl) h0 ?_
                        refine x_iload_n (pc := 197) cx (dA ddX8_goesByRule (i := 115) rfl) rfl ?_
                        refine x_aaload (pc := 198) cx (dA ddX8_goesByRule (i := 116) rfl) hM.2.2.2.2.2.2.2.2.2.2.2.2.2.2.2.1.2.1 (by decide) (by decide) (by omega) (by decide) ?_
                        rw [arA (hM.2.2.2.2.2.2.2.2.2.2.2.2.2.2.2.1.2.2 (e + 1) (by omega)).1]
                        refine x_iload (pc := 199) cx (dA ddX8_goesByRule (i := 117) rfl) rfl ?_
                        refine x_aload_n (pc := 201) cx (dA ddX8_goesByRule (i := 118) rfl) rfl ?_
                        refine gX8_45 (pc := 202) (rfA hM.2.2.2.2.2.2.2.2.2.2.2.1.1) cx (dA ddX8_goesByRule (i := 119) rfl) h0 ?_
                        refine x_iload_n (pc := 205) cx (dA ddX8_goesByRule (i := 120) rfl) rfl ?_
                        refine x_aaload (pc := 206) cx (dA ddX8_goesByRule (i := 121) rfl) hM.2.2.2.2.2.2.2.2.2.2.2.1.2.1 (by decide) (by decide) hh (by decide) ?_
                        rw [arA (hM.2.2.2.2.2.2.2.2.2.2.2.1.2.2 h hh).1]
                        refine x_iconst (pc := 207) (v := nI 3) cx (dA ddX8_goesByRule (i := 122) rfl) (by decide) ?_
                        refine x_iaload (pc := 208) cx (dA ddX8_goesByRule (i := 123) rfl) (hM.2.2.2.2.2.2.2.2.2.2.2.1.2.2 h hh).2 (by decide) (by decide) ?_
                        rw [(hR.same55 hh hJ.1.1) 3 (by omega)]
                        refine x_i2l (pc := 209) cx (dA ddX8_goesByRule (i := 124) rfl) ?_
                        rw [nI_l (by omega)]
                        refine x_aload_n (pc := 210) cx (dA ddX8_goesByRule (i := 125) rfl) rfl ?_
                        refine gX8_82 (pc := 211) (rfA hM.2.2.2.2.2.2.2.2.2.2.2.2.2.2.2.2.2.2.2.2.2.2.1.1) cx (dA ddX8_goesByRule (i := 126) rfl) h0 ?_
                        refine x_iload (pc := 214) cx (dA ddX8_goesByRule (i := 127) rfl) rfl ?_
                        refine x_laload (pc := 216) cx (dA ddX8_goesByRule (i := 128) rfl) hM.2.2.2.2.2.2.2.2.2.2.2.2.2.2.2.2.2.2.2.2.2.2.1.2 (by omega) (by decide) ?_
                        rw [hw s c107]
                        refine x_lmul (pc := 217) cx (dA ddX8_goesByRule (i := 129) rfl) ?_
                        refine x_iconst (pc := 218) (v := nI 4) cx (dA ddX8_goesByRule (i := 130) rfl) (by decide) ?_
                        refine x_aload_n (pc := 219) cx (dA ddX8_goesByRule (i := 131) rfl) rfl ?_
                        refine gX8_45 (pc := 220) (rfA hM.2.2.2.2.2.2.2.2.2.2.2.1.1) cx (dA ddX8_goesByRule (i := 132) rfl) h0 ?_
                        refine x_iload_n (pc := 223) cx (dA ddX8_goesByRule (i := 133) rfl) rfl ?_
                        refine x_aaload (pc := 224) cx (dA ddX8_goesByRule (i := 134) rfl) hM.2.2.2.2.2.2.2.2.2.2.2.1.2.1 (by decide) (by decide) hh (by decide) ?_
                        rw [arA (hM.2.2.2.2.2.2.2.2.2.2.2.1.2.2 h hh).1]
                        refine x_iconst (pc := 225) (v := nI 3) cx (dA ddX8_goesByRule (i := 135) rfl) (by decide) ?_
                        refine x_iaload (pc := 226) cx (dA ddX8_goesByRule (i := 136) rfl) (hM.2.2.2.2.2.2.2.2.2.2.2.1.2.2 h hh).2 (by decide) (by decide) ?_
                        rw [(hR.same55 hh hJ.1.1) 3 (by omega)]
                        refine x_isub (pc := 227) cx (dA ddX8_goesByRule (i := 137) rfl) ?_
                        rw [pk_sub (by omega)]
                        refine x_i2l (pc := 228) cx (dA ddX8_goesByRule (i := 138) rfl) ?_
                        rw [nI_l (by omega)]
                        refine x_lload (pc := 229) cx (dA ddX8_goesByRule (i := 139) rfl) rfl ?_
                        refine x_lmul (pc := 231) cx (dA ddX8_goesByRule (i := 140) rfl) ?_
                        refine x_ladd (pc := 232) cx (dA ddX8_goesByRule (i := 141) rfl) ?_
                        rw [lN_mul, lN_mul, lN_add, show N 3 * (swD N (e + 1) (rCs N κ b m rf e)) s + (4 - N 3) * (boxP N (e + 1) + (swD N (e + 1) (rCs N κ b m rf e)) (s - ruL N κ b m rf (e + 1) s)) = rCs N κ b m rf (e + 1) s from by show _ = mixP N (boxP N (e + 1)) (swD N (e + 1) (rCs N κ b m rf e)) s (ruL N κ b m rf (e + 1) s); unfold mixP; rw [if_neg l0, Nat.add_comm (boxP N (e + 1))]]
                        refine x_lastore (pc := 233) cx (dA ddX8_goesByRule (i := 142) rfl) (hM.2.2.2.2.2.2.2.2.2.2.2.2.2.2.2.1.2.2 (e + 1) (by omega)).2 (by omega) (by decide) ?_
                        refine x_iinc (pc := 234) cx (dA ddX8_goesByRule (i := 143) rfl) rfl (iinc1 _) (by decide) rfl ?_
                        refine x_goto (pc := 237) (tgt := 100) cx (dA ddX8_goesByRule (i := 144) rfl) (by decide) ?_
                        exact x_enter (ih4 (by omega) _ (gbJ_s b4 (by omega) hJ) (fun t ht => (sAJ_ne (by omega)).trans (hw t ht))) ⟨.inr rfl, .inr rfl, .inr rfl, .inr rfl, .inr rfl, .inr rfl, trivial⟩
                      · have l0 : ruL N κ b m rf (e + 1) s = 0 := nI_inj (b := 0) (by omega) (by decide) c165
                        refine x_aload_n (pc := 168) cx (dA ddX8_goesByRule (i := 99) rfl) rfl ?_
                        refine gX8_82 (pc := 169) (rfA hM.2.2.2.2.2.2.2.2.2.2.2.2.2.2.2.2.2.2.2.2.2.2.1.1) cx (dA ddX8_goesByRule (i := 100) rfl) h0 ?_
                        refine x_iload (pc := 172) cx (dA ddX8_goesByRule (i := 101) rfl) rfl ?_
                        refine x_laload (pc := 174) cx (dA ddX8_goesByRule (i := 102) rfl) hM.2.2.2.2.2.2.2.2.2.2.2.2.2.2.2.2.2.2.2.2.2.2.1.2 (by omega) (by decide) ?_
                        rw [hw s c107]
                        refine x_goto (pc := 175) (tgt := 191) cx (dA ddX8_goesByRule (i := 103) rfl) (by decide) ?_
                        refine x_lstore (pc := 191) cx (dA ddX8_goesByRule (i := 112) rfl) (by decide) rfl ?_
                        refine x_aload_n (pc := 193) cx (dA ddX8_goesByRule (i := 113) rfl) rfl ?_
                        refine gX8_61 (pc := 194) (rfA hM.2.2.2.2.2.2.2.2.2.2.2.2.2.2.2.1.1) cx (dA ddX8_goesByRule (i := 114) rfl) h0 ?_
                        refine x_iload_n (pc := 197) cx (dA ddX8_goesByRule (i := 115) rfl) rfl ?_
                        refine x_aaload (pc := 198) cx (dA ddX8_goesByRule (i := 116) rfl) hM.2.2.2.2.2.2.2.2.2.2.2.2.2.2.2.1.2.1 (by decide) (by decide) (by omega) (by decide) ?_
                        rw [arA (hM.2.2.2.2.2.2.2.2.2.2.2.2.2.2.2.1.2.2 (e + 1) (by omega)).1]
                        refine x_iload (pc := 199) cx (dA ddX8_goesByRule (i := 117) rfl) rfl ?_
                        refine x_aload_n (pc := 201) cx (dA ddX8_goesByRule (i := 118) rfl) rfl ?_
                        refine gX8_45 (pc := 202) (rfA hM.2.2.2.2.2.2.2.2.2.2.2.1.1) cx (dA ddX8_goesByRule (i := 119) rfl) h0 ?_
                        refine x_iload_n (pc := 205) cx (dA ddX8_goesByRule (i := 120) rfl) rfl ?_
                        refine x_aaload (pc := 206) cx (dA ddX8_goesByRule (i := 121) rfl) hM.2.2.2.2.2.2.2.2.2.2.2.1.2.1 (by decide) (by decide) hh (by decide) ?_
                        rw [arA (hM.2.2.2.2.2.2.2.2.2.2.2.1.2.2 h hh).1]
                        refine x_iconst (pc := 207) (v := nI 3) cx (dA ddX8_goesByRule (i := 122) rfl) (by decide) ?_
                        refine x_iaload (pc := 208) cx (dA ddX8_goesByRule (i := 123) rfl) (hM.2.2.2.2.2.2.2.2.2.2.2.1.2.2 h hh).2 (by decide) (by decide) ?_
                        rw [(hR.same55 hh hJ.1.1) 3 (by omega)]
                        refine x_i2l (pc := 209) cx (dA ddX8_goesByRule (i := 124) rfl) ?_
                        rw [nI_l (by omega)]
                        refine x_aload_n (pc := 210) cx (dA ddX8_goesByRule (i := 125) rfl) rfl ?_
                        refine gX8_82 (pc := 211) (rfA hM.2.2.2.2.2.2.2.2.2.2.2.2.2.2.2.2.2.2.2.2.2.2.1.1) cx (dA ddX8_goesByRule (i := 126) rfl) h0 ?_
                        refine x_iload (pc := 214) cx (dA ddX8_goesByRule (i := 127) rfl) rfl ?_
                        refine x_laload (pc := 216) cx (dA ddX8_goesByRule (i := 128) rfl) hM.2.2.2.2.2.2.2.2.2.2.2.2.2.2.2.2.2.2.2.2.2.2.1.2 (by omega) (by decide) ?_
                        rw [hw s c107]
                        refine x_lmul (pc := 217) cx (dA ddX8_goesByRule (i := 129) rfl) ?_
                        refine x_iconst (pc := 218) (v := nI 4) cx (dA ddX8_goesByRule (i := 130) rfl) (by decide) ?_
                        refine x_aload_n (pc := 219) cx (dA ddX8_goesByRule (i := 131) rfl) rfl ?_
                        refine gX8_45 (pc := 220) (rfA hM.2.2.2.2.2.2.2.2.2.2.2.1.1) cx (dA ddX8_goesByRule (i := 132) rfl) h0 ?_
                        refine x_iload_n (pc := 223) cx (dA ddX8_goesByRule (i := 133) rfl) rfl ?_
                        refine x_aaload (pc := 224) cx (dA ddX8_goesByRule (i := 134) rfl) hM.2.2.2.2.2.2.2.2.2.2.2.1.2.1 (by decide) (by decide) hh (by decide) ?_
                        rw [arA (hM.2.2.2.2.2.2.2.2.2.2.2.1.2.2 h hh).1]
                        refine x_iconst (pc := 225) (v := nI 3) cx (dA ddX8_goesByRule (i := 135) rfl) (by decide) ?_
                        refine x_iaload (pc := 226) cx (dA ddX8_goesByRule (i := 136) rfl) (hM.2.2.2.2.2.2.2.2.2.2.2.1.2.2 h hh).2 (by decide) (by decide) ?_
                        rw [(hR.same55 hh hJ.1.1) 3 (by omega)]
                        refine x_isub (pc := 227) cx (dA ddX8_goesByRule (i := 137) rfl) ?_
                        rw [pk_sub (by omega)]
                        refine x_i2l (pc := 228) cx (dA ddX8_goesByRule (i := 138) rfl) ?_
                        rw [nI_l (by omega)]
                        refine x_lload (pc := 229) cx (dA ddX8_goesByRule (i := 139) rfl) rfl ?_
                        refine x_lmul (pc := 231) cx (dA ddX8_goesByRule (i := 140) rfl) ?_
                        refine x_ladd (pc := 232) cx (dA ddX8_goesByRule (i := 141) rfl) ?_
                        rw [lN_mul, lN_mul, lN_add, show N 3 * (swD N (e + 1) (rCs N κ b m rf e)) s + (4 - N 3) * (swD N (e + 1) (rCs N κ b m rf e)) s = rCs N κ b m rf (e + 1) s from by show _ = mixP N (boxP N (e + 1)) (swD N (e + 1) (rCs N κ b m rf e)) s (ruL N κ b m rf (e + 1) s); unfold mixP; rw [l0, if_pos rfl, Nat.sub_zero]; rfl]
                        refine x_lastore (pc := 233) cx (dA ddX8_goesByRule (i := 142) rfl) (hM.2.2.2.2.2.2.2.2.2.2.2.2.2.2.2.1.2.2 (e + 1) (by omega)).2 (by omega) (by decide) ?_
                        refine x_iinc (pc := 234) cx (dA ddX8_goesByRule (i := 143) rfl) rfl (iinc1 _) (by decide) rfl ?_
                        refine x_goto (pc := 237) (tgt := 100) cx (dA ddX8_goesByRule (i := 144) rfl) (by decide) ?_
                        exact x_enter (ih4 (by omega) _ (gbJ_s b4 (by omega) hJ) (fun t ht => (sAJ_ne (by omega)).trans (hw t ht))) ⟨.inr rfl, .inr rfl, .inr rfl, .inr rfl, .inr rfl, .inr rfl, trivial⟩
                  · have k4 : κ = 4 := nI_inj (by omega) (by omega) c117
                    have e9 : ruL N κ b m rf (e + 1) s = ldP N (e + 1) s := if_pos k4
                    refine x_aload_n (pc := 120) cx (dA ddX8_goesByRule (i := 73) rfl) rfl ?_
                    refine gX8_58 (pc := 121) (rfA hM.2.2.2.2.2.2.2.2.2.2.2.2.2.2.1.1) cx (dA ddX8_goesByRule (i := 74) rfl) h0 ?_
                    refine x_iload_n (pc := 124) cx (dA ddX8_goesByRule (i := 75) rfl) rfl ?_
                    refine x_aaload (pc := 125) cx (dA ddX8_goesByRule (i := 76) rfl) hM.2.2.2.2.2.2.2.2.2.2.2.2.2.2.1.2.1 (by decide) (by decide) (by omega) (by decide) ?_
                    rw [arA (hM.2.2.2.2.2.2.2.2.2.2.2.2.2.2.1.2.2 (e + 1) (by omega)).1]
                    refine x_iload (pc := 126) cx (dA ddX8_goesByRule (i := 77) rfl) rfl ?_
                    refine x_iaload (pc := 128) cx (dA ddX8_goesByRule (i := 78) rfl) (hM.2.2.2.2.2.2.2.2.2.2.2.2.2.2.1.2.2 (e + 1) (by omega)).2 (by omega) (by decide) ?_
                    rw [show V5.2.2.1 (y + 47 + 1 + (e + 1)) s = nI (ldP N (e + 1) s) from ((hJ.1.1 _ (by omega)).2.2.1 s).trans (hK k4 (e + 1) (by omega) (by omega) s c107), ← e9]
                    refine x_goto (pc := 129) (tgt := 161) cx (dA ddX8_goesByRule (i := 79) rfl) (by decide) ?_
                    refine x_istore (pc := 161) cx (dA ddX8_goesByRule (i := 96) rfl) (by decide) rfl ?_
                    refine x_iload (pc := 163) cx (dA ddX8_goesByRule (i := 97) rfl) rfl ?_
                    refine x_if_ne (pc := 165) (tgt := 178) cx (dA ddX8_goesByRule (i := 98) rfl) (by decide) (fun c165 => ?_) (fun c165 => ?_)
                    · have l0 : ¬ ruL N κ b m rf (e + 1) s = 0 := fun z => c165 (by rw [z]; rfl)
                      refine x_lload (pc := 178) cx (dA ddX8_goesByRule (i := 104) rfl) rfl ?_
                      refine x_aload_n (pc := 180) cx (dA ddX8_goesByRule (i := 105) rfl) rfl ?_
                      refine gX8_82 (pc := 181) (rfA hM.2.2.2.2.2.2.2.2.2.2.2.2.2.2.2.2.2.2.2.2.2.2.1.1) cx (dA ddX8_goesByRule (i := 106) rfl) h0 ?_
                      refine x_iload (pc := 184) cx (dA ddX8_goesByRule (i := 107) rfl) rfl ?_
                      refine x_iload (pc := 186) cx (dA ddX8_goesByRule (i := 108) rfl) rfl ?_
                      refine x_isub (pc := 188) cx (dA ddX8_goesByRule (i := 109) rfl) ?_
                      rw [pk_sub ls]
                      refine x_laload (pc := 189) cx (dA ddX8_goesByRule (i := 110) rfl) hM.2.2.2.2.2.2.2.2.2.2.2.2.2.2.2.2.2.2.2.2.2.2.1.2 (by omega) (by decide) ?_
                      rw [hw (s - ruL N κ b m rf (e + 1) s) (by omega)]
                      refine x_ladd (pc := 190) cx (dA ddX8_goesByRule (i := 111) rfl) ?_
                      rw [lN_add]
                      refine x_lstore (pc := 191) cx (dA ddX8_goesByRule (i := 112) rfl) (by decide) rfl ?_
                      refine x_aload_n (pc := 193) cx (dA ddX8_goesByRule (i := 113) rfl) rfl ?_
                      refine gX8_61 (pc := 194) (rfA hM.2.2.2.2.2.2.2.2.2.2.2.2.2.2.2.1.1) cx (dA ddX8_goesByRule (i := 114) rfl) h0 ?_
                      refine x_iload_n (pc := 197) cx (dA ddX8_goesByRule (i := 115) rfl) rfl ?_
                      refine x_aaload (pc := 198) cx (dA ddX8_goesByRule (i := 116) rfl) hM.2.2.2.2.2.2.2.2.2.2.2.2.2.2.2.1.2.1 (by decide) (by decide) (by omega) (by decide) ?_
                      rw [arA (hM.2.2.2.2.2.2.2.2.2.2.2.2.2.2.2.1.2.2 (e + 1) (by omega)).1]
                      refine x_iload (pc := 199) cx (dA ddX8_goesByRule (i := 117) rfl) rfl ?_
                      refine x_aload_n (pc := 201) cx (dA ddX8_goesByRule (i := 118) rfl) rfl ?_
                      refine gX8_45 (pc := 202) (rfA hM.2.2.2.2.2.2.2.2.2.2.2.1.1) cx (dA ddX8_goesByRule (i := 119) rfl) h0 ?_
                      refine x_iload_n (pc := 205) cx (dA ddX8_goesByRule (i := 120) rfl) rfl ?_
                      refine x_aaload (pc := 206) cx (dA ddX8_goesByRule (i := 121) rfl) hM.2.2.2.2.2.2.2.2.2.2.2.1.2.1 (by decide) (by decide) hh (by decide) ?_
                      rw [arA (hM.2.2.2.2.2.2.2.2.2.2.2.1.2.2 h hh).1]
                      refine x_iconst (pc := 207) (v := nI 3) cx (dA ddX8_goesByRule (i := 122) rfl) (by decide) ?_
                      refine x_iaload (pc := 208) cx (dA ddX8_goesByRule (i := 123) rfl) (hM.2.2.2.2.2.2.2.2.2.2.2.1.2.2 h hh).2 (by decide) (by decide) ?_
                      rw [(hR.same55 hh hJ.1.1) 3 (by omega)]
                      refine x_i2l (pc := 209) cx (dA ddX8_goesByRule (i := 124) rfl) ?_
                      rw [nI_l (by omega)]
                      refine x_aload_n (pc := 210) cx (dA ddX8_goesByRule (i := 125) rfl) rfl ?_
                      refine gX8_82 (pc := 211) (rfA hM.2.2.2.2.2.2.2.2.2.2.2.2.2.2.2.2.2.2.2.2.2.2.1.1) cx (dA ddX8_goesByRule (i := 126) rfl) h0 ?_
                      refine x_iload (pc := 214) cx (dA ddX8_goesByRule (i := 127) rfl) rfl ?_
                      refine x_laload (pc := 216) cx (dA ddX8_goesByRule (i := 128) rfl) hM.2.2.2.2.2.2.2.2.2.2.2.2.2.2.2.2.2.2.2.2.2.2.1.2 (by omega) (by decide) ?_
                      rw [hw s c107]
                      refine x_lmul (pc := 217) cx (dA ddX8_goesByRule (i := 129) rfl) ?_
                      refine x_iconst (pc := 218) (v := nI 4) cx (dA ddX8_goesByRule (i := 130) rfl) (by decide) ?_
                      refine x_aload_n (pc := 219) cx (dA ddX8_goesByRule (i := 131) rfl) rfl ?_
                      refine gX8_45 (pc := 220) (rfA hM.2.2.2.2.2.2.2.2.2.2.2.1.1) cx (dA ddX8_goesByRule (i := 132) rfl) h0 ?_
                      refine x_iload_n (pc := 223) cx (dA ddX8_goesByRule (i := 133) rfl) rfl ?_
                      refine x_aaload (pc := 224) cx (dA ddX8_goesByRule (i := 134) rfl) hM.2.2.2.2.2.2.2.2.2.2.2.1.2.1 (by decide) (by decide) hh (by decide) ?_
                      rw [arA (hM.2.2.2.2.2.2.2.2.2.2.2.1.2.2 h hh).1]
                      refine x_iconst (pc := 225) (v := nI 3) cx (dA ddX8_goesByRule (i := 135) rfl) (by decide) ?_
                      refine x_iaload (pc := 226) cx (dA ddX8_goesByRule (i := 136) rfl) (hM.2.2.2.2.2.2.2.2.2.2.2.1.2.2 h hh).2 (by decide) (by decide) ?_
                      rw [(hR.same55 hh hJ.1.1) 3 (by omega)]
                      refine x_isub (pc := 227) cx (dA ddX8_goesByRule (i := 137) rfl) ?_
                      rw [pk_sub (by omega)]
                      refine x_i2l (pc := 228) cx (dA ddX8_goesByRule (i := 138) rfl) ?_
                      rw [nI_l (by omega)]
                      refine x_lload (pc := 229) cx (dA ddX8_goesByRule (i := 139) rfl) rfl ?_
                      refine x_lmul (pc := 231) cx (dA ddX8_goesByRule (i := 140) rfl) ?_
                      refine x_ladd (pc := 232) cx (dA ddX8_goesByRule (i := 141) rfl) ?_
                      rw [lN_mul, lN_mul, lN_add, show N 3 * (swD N (e + 1) (rCs N κ b m rf e)) s + (4 - N 3) * (boxP N (e + 1) + (swD N (e + 1) (rCs N κ b m rf e)) (s - ruL N κ b m rf (e + 1) s)) = rCs N κ b m rf (e + 1) s from by show _ = mixP N (boxP N (e + 1)) (swD N (e + 1) (rCs N κ b m rf e)) s (ruL N κ b m rf (e + 1) s); unfold mixP; rw [if_neg l0, Nat.add_comm (boxP N (e + 1))]]
                      refine x_lastore (pc := 233) cx (dA ddX8_goesByRule (i := 142) rfl) (hM.2.2.2.2.2.2.2.2.2.2.2.2.2.2.2.1.2.2 (e + 1) (by omega)).2 (by omega) (by decide) ?_
                      refine x_iinc (pc := 234) cx (dA ddX8_goesByRule (i := 143) rfl) rfl (iinc1 _) (by decide) rfl ?_
                      refine x_goto (pc := 237) (tgt := 100) cx (dA ddX8_goesByRule (i := 144) rfl) (by decide) ?_
                      exact x_enter (ih4 (by omega) _ (gbJ_s b4 (by omega) hJ) (fun t ht => (sAJ_ne (by omega)).trans (hw t ht))) ⟨.inr rfl, .inr rfl, .inr rfl, .inr rfl, .inr rfl, .inr rfl, trivial⟩
                    · have l0 : ruL N κ b m rf (e + 1) s = 0 := nI_inj (b := 0) (by omega) (by decide) c165
                      refine x_aload_n (pc := 168) cx (dA ddX8_goesByRule (i := 99) rfl) rfl ?_
                      refine gX8_82 (pc := 169) (rfA hM.2.2.2.2.2.2.2.2.2.2.2.2.2.2.2.2.2.2.2.2.2.2.1.1) cx (dA ddX8_goesByRule (i := 100) rfl) h0 ?_
                      refine x_iload (pc := 172) cx (dA ddX8_goesByRule (i := 101) rfl) rfl ?_
                      refine x_laload (pc := 174) cx (dA ddX8_goesByRule (i := 102) rfl) hM.2.2.2.2.2.2.2.2.2.2.2.2.2.2.2.2.2.2.2.2.2.2.1.2 (by omega) (by decide) ?_
                      rw [hw s c107]
                      refine x_goto (pc := 175) (tgt := 191) cx (dA ddX8_goesByRule (i := 103) rfl) (by decide) ?_
                      refine x_lstore (pc := 191) cx (dA ddX8_goesByRule (i := 112) rfl) (by decide) rfl ?_
                      refine x_aload_n (pc := 193) cx (dA ddX8_goesByRule (i := 113) rfl) rfl ?_
                      refine gX8_61 (pc := 194) (rfA hM.2.2.2.2.2.2.2.2.2.2.2.2.2.2.2.1.1) cx (dA ddX8_goesByRule (i := 114) rfl) h0 ?_
                      refine x_iload_n (pc := 197) cx (dA ddX8_goesByRule (i := 115) rfl) rfl ?_
                      refine x_aaload (pc := 198) cx (dA ddX8_goesByRule (i := 116) rfl) hM.2.2.2.2.2.2.2.2.2.2.2.2.2.2.2.1.2.1 (by decide) (by decide) (by omega) (by decide) ?_
                      rw [arA (hM.2.2.2.2.2.2.2.2.2.2.2.2.2.2.2.1.2.2 (e + 1) (by omega)).1]
                      refine x_iload (pc := 199) cx (dA ddX8_goesByRule (i := 117) rfl) rfl ?_
                      refine x_aload_n (pc := 201) cx (dA ddX8_goesByRule (i := 118) rfl) rfl ?_
                      refine gX8_45 (pc := 202) (rfA hM.2.2.2.2.2.2.2.2.2.2.2.1.1) cx (dA ddX8_goesByRule (i := 119) rfl) h0 ?_
                      refine x_iload_n (pc := 205) cx (dA ddX8_goesByRule (i := 120) rfl) rfl ?_
                      refine x_aaload (pc := 206) cx (dA ddX8_goesByRule (i := 121) rfl) hM.2.2.2.2.2.2.2.2.2.2.2.1.2.1 (by decide) (by decide) hh (by decide) ?_
                      rw [arA (hM.2.2.2.2.2.2.2.2.2.2.2.1.2.2 h hh).1]
                      refine x_iconst (pc := 207) (v := nI 3) cx (dA ddX8_goesByRule (i := 122) rfl) (by decide) ?_
                      refine x_iaload (pc := 208) cx (dA ddX8_goesByRule (i := 123) rfl) (hM.2.2.2.2.2.2.2.2.2.2.2.1.2.2 h hh).2 (by decide) (by decide) ?_
                      rw [(hR.same55 hh hJ.1.1) 3 (by omega)]
                      refine x_i2l (pc := 209) cx (dA ddX8_goesByRule (i := 124) rfl) ?_
                      rw [nI_l (by omega)]
                      refine x_aload_n (pc := 210) cx (dA ddX8_goesByRule (i := 125) rfl) rfl ?_
                      refine gX8_82 (pc := 211) (rfA hM.2.2.2.2.2.2.2.2.2.2.2.2.2.2.2.2.2.2.2.2.2.2.1.1) cx (dA ddX8_goesByRule (i := 126) rfl) h0 ?_
                      refine x_iload (pc := 214) cx (dA ddX8_goesByRule (i := 127) rfl) rfl ?_
                      refine x_laload (pc := 216) cx (dA ddX8_goesByRule (i := 128) rfl) hM.2.2.2.2.2.2.2.2.2.2.2.2.2.2.2.2.2.2.2.2.2.2.1.2 (by omega) (by decide) ?_
                      rw [hw s c107]
                      refine x_lmul (pc := 217) cx (dA ddX8_goesByRule (i := 129) rfl) ?_
                      refine x_iconst (pc := 218) (v := nI 4) cx (dA ddX8_goesByRule (i := 130) rfl) (by decide) ?_
                      refine x_aload_n (pc := 219) cx (dA ddX8_goesByRule (i := 131) rfl) rfl ?_
                      refine gX8_45 (pc := 220) (rfA hM.2.2.2.2.2.2.2.2.2.2.2.1.1) cx (dA ddX8_goesByRule (i := 132) rfl) h0 ?_
                      refine x_iload_n (pc := 223) cx (dA ddX8_goesByRule (i := 133) rfl) rfl ?_
                      refine x_aaload (pc := 224) cx (dA ddX8_goesByRule (i := 134) rfl) hM.2.2.2.2.2.2.2.2.2.2.2.1.2.1 (by decide) (by decide) hh (by decide) ?_
                      rw [arA (hM.2.2.2.2.2.2.2.2.2.2.2.1.2.2 h hh).1]
                      refine x_iconst (pc := 225) (v := nI 3) cx (dA ddX8_goesByRule (i := 135) rfl) (by decide) ?_
                      refine x_iaload (pc := 226) cx (dA ddX8_goesByRule (i := 136) rfl) (hM.2.2.2.2.2.2.2.2.2.2.2.1.2.2 h hh).2 (by decide) (by decide) ?_
                      rw [(hR.same55 hh hJ.1.1) 3 (by omega)]
                      refine x_isub (pc := 227) cx (dA ddX8_goesByRule (i := 137) rfl) ?_
                      rw [pk_sub (by omega)]
                      refine x_i2l (pc := 228) cx (dA ddX8_goesByRule (i := 138) rfl) ?_
                      rw [nI_l (by omega)]
                      refine x_lload (pc := 229) cx (dA ddX8_goesByRule (i := 139) rfl) rfl ?_
                      refine x_lmul (pc := 231) cx (dA ddX8_goesByRule (i := 140) rfl) ?_
                      refine x_ladd (pc := 232) cx (dA ddX8_goesByRule (i := 141) rfl) ?_
                      rw [lN_mul, lN_mul, lN_add, show N 3 * (swD N (e + 1) (rCs N κ b m rf e)) s + (4 - N 3) * (swD N (e + 1) (rCs N κ b m rf e)) s = rCs N κ b m rf (e + 1) s from by show _ = mixP N (boxP N (e + 1)) (swD N (e + 1) (rCs N κ b m rf e)) s (ruL N κ b m rf (e + 1) s); unfold mixP; rw [l0, if_pos rfl, Nat.sub_zero]; rfl]
                      refine x_lastore (pc := 233) cx (dA ddX8_goesByRule (i := 142) rfl) (hM.2.2.2.2.2.2.2.2.2.2.2.2.2.2.2.1.2.2 (e + 1) (by omega)).2 (by omega) (by decide) ?_
                      refine x_iinc (pc := 234) cx (dA ddX8_goesByRule (i := 143) rfl) rfl (iinc1 _) (by decide) rfl ?_
                      refine x_goto (pc := 237) (tgt := 100) cx (dA ddX8_goesByRule (i := 144) rfl) (by decide) ?_
                      exact x_enter (ih4 (by omega) _ (gbJ_s b4 (by omega) hJ) (fun t ht => (sAJ_ne (by omega)).trans (hw t ht))) ⟨.inr rfl, .inr rfl, .inr rfl, .inr rfl, .inr rfl, .inr rfl, trivial⟩
              exact x_enter (L100 0 (Nat.zero_le _) _ ⟨gbI_w (s := 5 ^ N 4) (f := (swD N (e + 1) (rCs N κ b m rf e))) b4 (by omega) hF, fun t ht => absurd ht (Nat.not_lt_zero _)⟩ (fun t ht => rAJ_at ht)) ⟨.inr rfl, .inr rfl, .inr rfl, .inr rfl, .inr rfl, .inr rfl, trivial⟩
            · have c57 := cleF (by omega) (by omega) c57
              refine x_aload_n (pc := 60) cx (dA ddX8_goesByRule (i := 38) rfl) rfl ?_
              refine gX8_82 (pc := 61) (rfA hM.2.2.2.2.2.2.2.2.2.2.2.2.2.2.2.2.2.2.2.2.2.2.1.1) cx (dA ddX8_goesByRule (i := 39) rfl) h0 ?_
              refine x_iload (pc := 64) cx (dA ddX8_goesByRule (i := 40) rfl) rfl ?_
              refine x_aload_n (pc := 66) cx (dA ddX8_goesByRule (i := 41) rfl) rfl ?_
              refine x_iload_n (pc := 67) cx (dA ddX8_goesByRule (i := 42) rfl) rfl ?_
              refine x_iload_n (pc := 68) cx (dA ddX8_goesByRule (i := 43) rfl) rfl ?_
              refine x_iload (pc := 69) cx (dA ddX8_goesByRule (i := 44) rfl) rfl ?_
              refine x_aload_n (pc := 71) cx (dA ddX8_goesByRule (i := 45) rfl) rfl ?_
              refine gX8_61 (pc := 72) (rfA hM.2.2.2.2.2.2.2.2.2.2.2.2.2.2.2.1.1) cx (dA ddX8_goesByRule (i := 46) rfl) h0 ?_
              refine x_iload_n (pc := 75) cx (dA ddX8_goesByRule (i := 47) rfl) rfl ?_
              refine x_iconst (pc := 76) (v := nI 1) cx (dA ddX8_goesByRule (i := 48) rfl) (by decide) ?_
              refine x_isub (pc := 77) cx (dA ddX8_goesByRule (i := 49) rfl) ?_
              rw [pk_sub (by omega), show e + 1 - 1 = e by omega]
              refine x_aaload (pc := 78) cx (dA ddX8_goesByRule (i := 50) rfl) hM.2.2.2.2.2.2.2.2.2.2.2.2.2.2.2.1.2.1 (by decide) (by decide) (by omega) (by decide) ?_
              rw [arA (hM.2.2.2.2.2.2.2.2.2.2.2.2.2.2.2.1.2.2 e (by omega)).1]
              refine x_V4 (pc := 79) mX8_253 h0 (c_X8_behind (V := (wtJ V3 y s (swD N (e + 1) (rCs N κ b m rf e)))) hM hh (hR.same55 hh (gbI_w (s := s) (f := (swD N (e + 1) (rCs N κ b m rf e))) b4 (by omega) hF).1) hB hN (gbI_w (s := s) (f := (swD N (e + 1) (rCs N κ b m rf e))) b4 (by omega) hF).2.1 (d := e + 1) (s := s) (by omega) (by omega) c57 (hM.2.2.2.2.2.2.2.2.2.2.2.2.2.2.2.1.2.2 e (by omega)).2 (f := rCs N κ b m rf e) (fun t ht => (gbI_w (s := s) (f := (swD N (e + 1) (rCs N κ b m rf e))) b4 (by omega) hF).2.2 e (by omega) t ht)) cx (dA ddX8_goesByRule (i := 51) rfl) (kJ ?_)
              refine x_lastore (pc := 82) cx (dA ddX8_goesByRule (i := 52) rfl) hM.2.2.2.2.2.2.2.2.2.2.2.2.2.2.2.2.2.2.2.2.2.2.1.2 (by omega) (by decide) ?_
              rw [show sAJ (wtJ V3 y s (swD N (e + 1) (rCs N κ b m rf e))) (y + 85) s (lN (swD N (e + 1) (rCs N κ b m rf e) s)) = wtJ V3 y (s + 1) (swD N (e + 1) (rCs N κ b m rf e)) from rAJ_s0 _ _ _ _ rfl]
              refine x_iinc (pc := 83) cx (dA ddX8_goesByRule (i := 53) rfl) rfl (iinc1 _) (by decide) rfl ?_
              refine x_goto (pc := 86) (tgt := 50) cx (dA ddX8_goesByRule (i := 54) rfl) (by decide) ?_
              exact x_enter (ih3 (by omega)) ⟨.inr rfl, .inr rfl, .inr rfl, .inr rfl, .inr rfl, trivial⟩
          have L := L50 0 (Nat.zero_le _)
          rw [show wtJ V3 y 0 (swD N (e + 1) (rCs N κ b m rf e)) = V3 from rAJ_0 _ _ _ _] at L
          exact x_enter L ⟨.inr rfl, .inr rfl, .inr rfl, .inr rfl, .inr rfl, trivial⟩
      exact x_enter (L35 0 (Nat.zero_le _) V1 (gbI_s hJ)) ⟨.inr rfl, .inr rfl, .inr rfl, .inr rfl, trivial⟩
    · have c8 := cleF (by omega) (by omega) c8
      have sl := sumP_lt hB (s := s) (w := 4) (by omega)
      refine x_aload_n (pc := 11) cx (dA ddX8_goesByRule (i := 7) rfl) rfl ?_
      refine gX8_61 (pc := 12) (rfA hM.2.2.2.2.2.2.2.2.2.2.2.2.2.2.2.1.1) cx (dA ddX8_goesByRule (i := 8) rfl) h0 ?_
      refine x_iconst (pc := 15) (v := nI 0) cx (dA ddX8_goesByRule (i := 9) rfl) (by decide) ?_
      refine x_aaload (pc := 16) cx (dA ddX8_goesByRule (i := 10) rfl) hM.2.2.2.2.2.2.2.2.2.2.2.2.2.2.2.1.2.1 (by decide) (by decide) (by decide) (by decide) ?_
      rw [arA (hM.2.2.2.2.2.2.2.2.2.2.2.2.2.2.2.1.2.2 0 (by decide)).1]
      refine x_iload_n (pc := 17) cx (dA ddX8_goesByRule (i := 11) rfl) rfl ?_
      refine x_aload_n (pc := 18) cx (dA ddX8_goesByRule (i := 12) rfl) rfl ?_
      refine x_iload_n (pc := 19) cx (dA ddX8_goesByRule (i := 13) rfl) rfl ?_
      refine x_iload_n (pc := 20) cx (dA ddX8_goesByRule (i := 14) rfl) rfl ?_
      refine x_iconst (pc := 21) (v := nI 4) cx (dA ddX8_goesByRule (i := 15) rfl) (by decide) ?_
      refine x_V3 (pc := 22) mX8_236 h0 (c_X8_sum (V := V1) hM hh (hR.same55 hh hJ.1.1) hB (s := s) (w := 4) (by omega) (by omega)) cx (dA ddX8_goesByRule (i := 16) rfl) (kI ?_)
      refine x_i2l (pc := 25) cx (dA ddX8_goesByRule (i := 17) rfl) ?_
      rw [nI_l (by omega)]
      refine x_lastore (pc := 26) cx (dA ddX8_goesByRule (i := 18) rfl) (hM.2.2.2.2.2.2.2.2.2.2.2.2.2.2.2.1.2.2 0 (by decide)).2 (by omega) (by decide) ?_
      refine x_iinc (pc := 27) cx (dA ddX8_goesByRule (i := 19) rfl) rfl (iinc1 _) (by decide) rfl ?_
      refine x_goto (pc := 30) (tgt := 2) cx (dA ddX8_goesByRule (i := 20) rfl) (by decide) ?_
      exact x_enter (ih (by omega) _ (gbJ_s b4 (by decide) hJ)) ⟨.inr rfl, .inr rfl, .inr rfl, .inr rfl, trivial⟩
  exact x_enter (L2 0 (Nat.zero_le _) V ⟨⟨SameB.refl _ _ _, hW, fun d hd => absurd hd (Nat.not_lt_zero _)⟩, fun t ht => absurd ht (Nat.not_lt_zero _)⟩) ⟨.inr rfl, .inr rfl, .inr rfl, .inr rfl, trivial⟩
