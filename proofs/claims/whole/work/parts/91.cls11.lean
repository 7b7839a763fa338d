theorem mx0 {A B : Nat} (ha : A < 2 ^ 62) (hb : B < 2 ^ 62) : (if lN A - lN B < lN 0 then lN 0 else lN A - lN B) = lN (A - B) := by
  have ls := lsub_toInt ha hb
  have e0 : (lN 0).toInt = 0 := rfl
  by_cases h : lN A - lN B < lN 0
  · rw [if_pos h]
    rw [Int64.lt_iff_toInt_lt, ls, e0] at h
    rw [show A - B = 0 by omega]
  · rw [if_neg h]
    rw [Int64.lt_iff_toInt_lt, ls, e0] at h
    exact lN_sub (by omega)
theorem RO.dra {Z : zP} {G : zG} {V V2 : zV} {x : Nat} {col : Nat → Nat} {S : SX} {l n : Nat} {g : Nat → Int32} (h : RO Z G V x col S V2) : RO Z G V x col S (rAI V2 (x + 65 + 1) l n g) := ⟨h.1.tg (S' := S) (T := fun a => a = x + 65 + 1) (gW.refl G x) (fun _ _ => rfl) h.1.2.2.2.1 (fun a _ _ hT => ⟨sameG.refl G a, (same4.refl V2 a).rAI hT⟩) (fun a ha e => by rcases h.1.out3 e with q | q <;> omega) (Or.inl ⟨fun a _ _ => by omega, rfl⟩) (Or.inl ⟨fun a _ _ => by omega, by omega, rfl⟩) (Or.inl ⟨by omega, by omega, rfl⟩) (Or.inl ⟨by omega, by omega, fun a ha e => by rcases h.1.out2 ha with q | q <;> omega, rfl⟩) (Or.inl ⟨by omega, rfl⟩) (fun i hi => Or.inl fun a _ _ => by omega) (Or.inl fun a _ _ => by omega) (Or.inl fun a _ _ => by omega), fun a ha => (h.2 a ha).rAI (by have o := h.1.out0 ha; omega)⟩
theorem c_X7_saved {l : Launch} {Z : zP} {G : zG} {V : zV} {x : Nat} {col : Nat → Nat} {S : SX} (hRC : RC Z G V x col S) {h o : Int32} : CT l Z yX7_saved cX7_saved 8 (some .long) 8 0 0 [.ref x, .int h, .int o] G V (pCJ Z G V x col (fSaved S h o)) := by
  refine CT.of (by decide +kernel) (Nat.le_of_ble_eq_true rfl) (fun X hX cx => ?_)
  subst hX
  show Wm Z X 8 G V 0 0 _ 0 [(0, some (.ref x)), (1, some (.int h)), (2, some (.int o))] []
  have hQ := hRC.1
  have h0 := hQ.1
  have hWd := hRC.2.2.2.2.1
  have c6 := hWd.2.1
  have hO := RO.refl hRC
  refine x_aload_n (pc := 0) cx (dA ddX7_saved (i := 0) rfl) rfl ?_
  refine x_iload_n (pc := 1) cx (dA ddX7_saved (i := 1) rfl) rfl ?_
  by_cases ch : okc S h
  · obtain ⟨i, hi, rfl, ti⟩ := i32_in ch
    have i6 : i < 6 := by omega
    have eXi : hX S (nI i) = S.1.2.1 i := hX_at (by omega)
    obtain ⟨-, aN, azN⟩ := hWd.2.2.1 i hi
    have aP := (hQ.2.2.2.2.2.2.2.2.2.2.2.2 i i6).2
    have aB := aN.1
    have a4 := aB.1
    have a06 := aN.2.1
    refine x_V1 (pc := 2) mX7_183 h0 (hO.po hi) cx (dA ddX7_saved (i := 2) rfl) (kRx fun V2 h2 => ?_)
    obtain ⟨hO, hT1⟩ := hO.tu i6 azN h2
    rw [show va_rf (some (x + 70 + 12 * i)) = .ref (x + 70 + 12 * i) from rfl]
    refine x_astore_n (pc := 5) cx (dA ddX7_saved (i := 3) rfl) (by decide) rfl ?_
    refine x_aload_n (pc := 6) cx (dA ddX7_saved (i := 4) rfl) rfl ?_
    refine x_iload_n (pc := 7) cx (dA ddX7_saved (i := 5) rfl) rfl ?_
    by_cases co : okc S o
    · obtain ⟨k, hk, rfl, tk⟩ := i32_in co
      have k6 : k < 6 := by omega
      have eXk : hX S (nI k) = S.1.2.1 k := hX_at (by omega)
      obtain ⟨-, bN, bzN⟩ := hWd.2.2.1 k hk
      have bP := (hQ.2.2.2.2.2.2.2.2.2.2.2.2 k k6).2
      have bB := bN.1
      have b4 := bB.1
      have b06 := bN.2.1
      refine x_V1 (pc := 8) mX7_183 h0 (hO.po hk) cx (dA ddX7_saved (i := 6) rfl) (kRx fun V2 h2 => ?_)
      have hS2 := h2.2
      obtain ⟨hO, hT2⟩ := hO.tu k6 bzN h2
      rw [show va_rf (some (x + 70 + 12 * k)) = .ref (x + 70 + 12 * k) from rfl]
      refine x_astore (pc := 11) cx (dA ddX7_saved (i := 7) rfl) (by decide) rfl ?_
      refine x_aload_n (pc := 13) cx (dA ddX7_saved (i := 8) rfl) rfl ?_
      refine x_ifnull_s (pc := 14) cx (dA ddX7_saved (i := 9) rfl) ?_
      refine x_aload (pc := 17) cx (dA ddX7_saved (i := 10) rfl) rfl ?_
      refine x_ifnull_s (pc := 19) cx (dA ddX7_saved (i := 11) rfl) ?_
      refine x_iload_n (pc := 22) cx (dA ddX7_saved (i := 12) rfl) rfl ?_
      refine x_iload_n (pc := 23) cx (dA ddX7_saved (i := 13) rfl) rfl ?_
      refine x_icmp_ne (pc := 24) (tgt := 35) cx (dA ddX7_saved (i := 14) rfl) (by decide) (fun c24 => ?_) (fun c24 => ?_)
      · have CA : okc S (nI i) ∧ okc S (nI k) ∧ nI i ≠ nI k := ⟨ch, co, c24⟩
        have hik : i ≠ k := fun e => c24 (by rw [e])
        have hT1 := hT1.same (fun a _ _ => hS2 a (by omega))
        refine x_aload_n (pc := 35) cx (dA ddX7_saved (i := 20) rfl) rfl ?_
        refine gX7_289 (pc := 36) (rfA aP.2.1) cx (dA ddX7_saved (i := 21) rfl) aP.1 ?_
        refine x_aload (pc := 39) cx (dA ddX7_saved (i := 22) rfl) rfl ?_
        refine gX7_289 (pc := 41) (rfA bP.2.1) cx (dA ddX7_saved (i := 23) rfl) bP.1 ?_
        refine x_V1 (pc := 44) mX7_278 aP.2.2.1.1 (c_X0_goesWith aP.2.2.1 hT1.1.2.1 aB bP.2.2.1 hT2.1.2.1 bB) cx (dA ddX7_saved (i := 24) rfl) (kI ?_)
        refine x_if_ne (pc := 47) (tgt := 58) cx (dA ddX7_saved (i := 25) rfl) (by decide) (fun c47 => ?_) (fun c47 => ?_)
        · have cj := b2i_ne c47
          have CJ : hX S (nI i) 0 = hX S (nI k) 0 ∧ hX S (nI i) 4 + hX S (nI k) 4 ≤ 3 := by rw [eXi, eXk]; exact cj
          have jOK : HOK (addO (S.1.2.1 i) (S.1.2.1 k) ((S.1.2.1 k) 4)) := addO_OK aN bN cj.2
          have jZ : NZ (addO (S.1.2.1 i) (S.1.2.1 k) ((S.1.2.1 k) 4)) := addO_NZ azN _ cj.2
          have j0 : (addO (S.1.2.1 i) (S.1.2.1 k) ((S.1.2.1 k) 4)) 0 = (S.1.2.1 i) 0 := addO_lo (by decide) (by omega) _
          refine x_aload_n (pc := 58) cx (dA ddX7_saved (i := 31) rfl) rfl ?_
          refine gX7_59 (pc := 59) (rfA hQ.2.2.2.2.2.2.2.2.2.2.1.1) cx (dA ddX7_saved (i := 32) rfl) h0 ?_
          refine x_aload_n (pc := 62) cx (dA ddX7_saved (i := 33) rfl) rfl ?_
          refine gX7_289 (pc := 63) (rfA aP.2.1) cx (dA ddX7_saved (i := 34) rfl) aP.1 ?_
          refine x_V1 (pc := 66) mX7_282 hQ.2.2.2.2.2.2.2.2.2.2.1.2.1 (c_X0_become hQ.2.2.2.2.2.2.2.2.2.2.1.2 aP.2.2.1) cx (dA ddX7_saved (i := 35) rfl) (kV ?_)
          rw [show rAI V2 (x + 65 + 1) 0 20 (fun j => V2.2.2.1 (x + 70 + 12 * i + 1 + 1) j) = setN V2 (x + 65) (S.1.2.1 i) from rAI_cg (fun j hj => hT1.1.2.1 j hj)]
          refine x_aload_n (pc := 69) cx (dA ddX7_saved (i := 36) rfl) rfl ?_
          refine gX7_59 (pc := 70) (rfA hQ.2.2.2.2.2.2.2.2.2.2.1.1) cx (dA ddX7_saved (i := 37) rfl) h0 ?_
          refine x_aload (pc := 73) cx (dA ddX7_saved (i := 38) rfl) rfl ?_
          refine gX7_289 (pc := 75) (rfA bP.2.1) cx (dA ddX7_saved (i := 39) rfl) bP.1 ?_
          refine x_V1 (pc := 78) mX7_286 hQ.2.2.2.2.2.2.2.2.2.2.1.2.1 (c_X0_addSortsOf hQ.2.2.2.2.2.2.2.2.2.2.1.2 bP.2.2.1 (by omega) (M := (S.1.2.1 k)) hT2.1.2.1 aB bB cj.2) cx (dA ddX7_saved (i := 40) rfl) (kV ?_)
          have hO : RO Z G V x col S (setN V2 (x + 65) (addO (S.1.2.1 i) (S.1.2.1 k) ((S.1.2.1 k) 4))) := hO.dra
          have hT1 : PlanT (setN V2 (x + 65) (addO (S.1.2.1 i) (S.1.2.1 k) ((S.1.2.1 k) 4))) (x + 70 + 12 * i) (S.1.2.1 i) := hT1.same (fun a _ _ => (same4.refl V2 a).rAI (by omega))
          have hT2 : PlanT (setN V2 (x + 65) (addO (S.1.2.1 i) (S.1.2.1 k) ((S.1.2.1 k) 4))) (x + 70 + 12 * k) (S.1.2.1 k) := hT2.same (fun a _ _ => (same4.refl V2 a).rAI (by omega))
          refine x_aload_n (pc := 81) cx (dA ddX7_saved (i := 41) rfl) rfl ?_
          refine gX7_53 (pc := 82) (rfA hQ.2.2.2.2.2.2.2.2.2.1.1) cx (dA ddX7_saved (i := 42) rfl) h0 ?_
          refine x_aload_n (pc := 85) cx (dA ddX7_saved (i := 43) rfl) rfl ?_
          refine gX7_59 (pc := 86) (rfA hQ.2.2.2.2.2.2.2.2.2.2.1.1) cx (dA ddX7_saved (i := 44) rfl) h0 ?_
          obtain ⟨N0, w1, w2, w3, w4⟩ := hO.1.2.2.2.2.2.2.2.2.2.2.2.2
          refine x_V1 (pc := 89) mX7_292 hQ.2.2.2.2.2.2.2.2.2.1.2.1 (c_X1_turnTo hQ.2.2.2.2.2.2.2.2.2.1.2 w1 w2 w3 w4 hQ.2.2.2.2.2.2.2.2.2.2.1.2 (fun j hj => rAI_at hj) jOK jZ (by omega)) cx (dA ddX7_saved (i := 45) rfl) (kVx fun V3 h3 => ?_)
          have hO := hO.pl (Or.inr (Or.inr rfl)) h3.2 (h3.1.pl jZ)
          have hTj := h3.1
          have hT1 := hT1.same (fun a _ _ => h3.2 a (by omega))
          have hT2 := hT2.same (fun a _ _ => h3.2 a (by omega))
          have hDV : HouseV V3 (x + 65) (addO (S.1.2.1 i) (S.1.2.1 k) ((S.1.2.1 k) 4)) := fun j hj => ((h3.2 (x + 65 + 1) (by omega)).2.2.1 j).trans (rAI_at hj)
          refine x_aload_n (pc := 92) cx (dA ddX7_saved (i := 46) rfl) rfl ?_
          refine gX7_59 (pc := 93) (rfA hQ.2.2.2.2.2.2.2.2.2.2.1.1) cx (dA ddX7_saved (i := 47) rfl) h0 ?_
          refine x_V0 (pc := 96) mX7_193 hQ.2.2.2.2.2.2.2.2.2.2.1.2.1 (c_X0_days hQ.2.2.2.2.2.2.2.2.2.2.1.2 hDV jOK.1) cx (dA ddX7_saved (i := 48) rfl) (kI ?_)
          rw [j0]
          refine x_istore (pc := 99) cx (dA ddX7_saved (i := 49) rfl) (by decide) rfl ?_
          refine x_aload_n (pc := 101) cx (dA ddX7_saved (i := 50) rfl) rfl ?_
          refine x_iload (pc := 102) cx (dA ddX7_saved (i := 51) rfl) rfl ?_
          refine x_iconst (pc := 104) (v := nI 0) cx (dA ddX7_saved (i := 52) rfl) (by decide) ?_
          obtain ⟨K, hC⟩ := hT1.2.1
          refine x_V2 (pc := 105) mX7_205 aP.1 (c_X1_leastCost aP hT1.1 hC (z := (S.1.2.1 i) 0) (by omega) (s := 0) (Nat.pow_pos (by decide))) cx (dA ddX7_saved (i := 53) rfl) (kJx fun V4 h4 => ?_)
          have s4 := (hT1.px h4).2
          obtain ⟨hO, hT1⟩ := hO.px i6 azN hT1 h4
          have hT2 := hT2.same (fun a _ _ => s4 a (by omega))
          have hTj := hTj.same (fun a _ _ => s4 a (by omega))
          refine x_iload (pc := 108) cx (dA ddX7_saved (i := 54) rfl) rfl ?_
          refine x_aload (pc := 110) cx (dA ddX7_saved (i := 55) rfl) rfl ?_
          refine gX7_239 (pc := 112) (congrArg Value.int hT2.1.2.2.2.1) cx (dA ddX7_saved (i := 56) rfl) bP.1 ?_
          refine x_imul (pc := 115) cx (dA ddX7_saved (i := 57) rfl) ?_
          rw [nI_cmul]
          have m1 : (S.1.2.1 i) 0 * (S.1.2.1 k) 4 ≤ 6 * 3 := Nat.mul_le_mul (by omega) (by omega)
          refine x_S1 (pc := 116) mX7_295 (c_X7_timesOf (m := (S.1.2.1 i) 0 * (S.1.2.1 k) 4) (by omega)) cx (dA ddX7_saved (i := 58) rfl) (kJ ?_)
          refine x_lmul (pc := 119) cx (dA ddX7_saved (i := 59) rfl) ?_
          rw [lN_mul]
          refine x_aload (pc := 120) cx (dA ddX7_saved (i := 60) rfl) rfl ?_
          refine x_iload (pc := 122) cx (dA ddX7_saved (i := 61) rfl) rfl ?_
          refine x_iconst (pc := 124) (v := nI 0) cx (dA ddX7_saved (i := 62) rfl) (by decide) ?_
          obtain ⟨K, hC⟩ := hT2.2.1
          refine x_V2 (pc := 125) mX7_205 bP.1 (c_X1_leastCost bP hT2.1 hC (z := (S.1.2.1 i) 0) (by omega) (s := 0) (Nat.pow_pos (by decide))) cx (dA ddX7_saved (i := 63) rfl) (kJx fun V5 h5 => ?_)
          have s5 := (hT2.px h5).2
          obtain ⟨hO, hT2⟩ := hO.px k6 bzN hT2 h5
          have hT1 := hT1.same (fun a _ _ => s5 a (by omega))
          have hTj := hTj.same (fun a _ _ => s5 a (by omega))
          refine x_iload (pc := 128) cx (dA ddX7_saved (i := 64) rfl) rfl ?_
          refine x_aload_n (pc := 130) cx (dA ddX7_saved (i := 65) rfl) rfl ?_
          refine gX7_239 (pc := 131) (congrArg Value.int hT1.1.2.2.2.1) cx (dA ddX7_saved (i := 66) rfl) aP.1 ?_
          refine x_imul (pc := 134) cx (dA ddX7_saved (i := 67) rfl) ?_
          rw [nI_cmul]
          have m2 : (S.1.2.1 i) 0 * (S.1.2.1 i) 4 ≤ 6 * 3 := Nat.mul_le_mul (by omega) (by omega)
          refine x_S1 (pc := 135) mX7_295 (c_X7_timesOf (m := (S.1.2.1 i) 0 * (S.1.2.1 i) 4) (by omega)) cx (dA ddX7_saved (i := 68) rfl) (kJ ?_)
          refine x_lmul (pc := 138) cx (dA ddX7_saved (i := 69) rfl) ?_
          rw [lN_mul]
          refine x_ladd (pc := 139) cx (dA ddX7_saved (i := 70) rfl) ?_
          rw [lN_add]
          refine x_lstore (pc := 140) cx (dA ddX7_saved (i := 71) rfl) (by decide) rfl ?_
          refine x_lconst (pc := 142) (v := lN 0) cx (dA ddX7_saved (i := 72) rfl) rfl ?_
          refine x_lload (pc := 143) cx (dA ddX7_saved (i := 73) rfl) rfl ?_
          refine x_aload_n (pc := 145) cx (dA ddX7_saved (i := 74) rfl) rfl ?_
          refine gX7_53 (pc := 146) (rfA hQ.2.2.2.2.2.2.2.2.2.1.1) cx (dA ddX7_saved (i := 75) rfl) h0 ?_
          refine x_iload (pc := 149) cx (dA ddX7_saved (i := 76) rfl) rfl ?_
          refine x_iconst (pc := 151) (v := nI 0) cx (dA ddX7_saved (i := 77) rfl) (by decide) ?_
          obtain ⟨K, hC⟩ := hTj.2.1
          refine x_V2 (pc := 152) mX7_205 hQ.2.2.2.2.2.2.2.2.2.1.2.1 (c_X1_leastCost hQ.2.2.2.2.2.2.2.2.2.1.2 hTj.1 hC (z := (S.1.2.1 i) 0) (by omega) (s := 0) (Nat.pow_pos (by decide))) cx (dA ddX7_saved (i := 78) rfl) (kJx fun V6 h6 => ?_)
          have t6 := hTj.px h6
          have hO := hO.pl (Or.inr (Or.inr rfl)) t6.2 (t6.1.pl jZ)
          have bn := sv_bd aN bN cj
          refine x_lsub (pc := 155) cx (dA ddX7_saved (i := 79) rfl) ?_
          refine x_mmaxL mX7_298.1 cx (dA ddX7_saved (i := 80) rfl) ?_
          rw [mx0 bn.1 bn.2]
          refine x_lreturn (pc := 159) cx (dA ddX7_saved (i := 81) rfl) (by first | exact Nat.le_of_ble_eq_true rfl | omega) (by first | exact Nat.le_of_ble_eq_true rfl | omega) ?_
          exact pCJ.q hO (by unfold fSaved; rw [if_pos CA, if_pos CJ, eXi, eXk]; rfl)
        · have cj := b2i_eq c47
          refine x_aload_n (pc := 50) cx (dA ddX7_saved (i := 26) rfl) rfl ?_
          refine x_bipush (pc := 51) (v := -5) cx (dA ddX7_saved (i := 27) rfl) (by decide) ?_
          refine x_V1 (pc := 53) mX7_74 h0 (c_X7_refuse hQ (i := 3) (by decide) rfl) cx (dA ddX7_saved (i := 28) rfl) (kI ?_)
          refine x_i2l (pc := 56) cx (dA ddX7_saved (i := 29) rfl) ?_
          refine x_lreturn (pc := 57) cx (dA ddX7_saved (i := 30) rfl) (by first | exact Nat.le_of_ble_eq_true rfl | omega) (by first | exact Nat.le_of_ble_eq_true rfl | omega) ?_
          exact pCJ.r hO (by decide) (by unfold fSaved; rw [if_pos CA, if_neg (by rw [eXi, eXk]; exact cj)])
      · refine x_aload_n (pc := 27) cx (dA ddX7_saved (i := 15) rfl) rfl ?_
        refine x_bipush (pc := 28) (v := -2) cx (dA ddX7_saved (i := 16) rfl) (by decide) ?_
        refine x_V1 (pc := 30) mX7_74 h0 (c_X7_refuse hQ (i := 0) (by decide) rfl) cx (dA ddX7_saved (i := 17) rfl) (kI ?_)
        refine x_i2l (pc := 33) cx (dA ddX7_saved (i := 18) rfl) ?_
        refine x_lreturn (pc := 34) cx (dA ddX7_saved (i := 19) rfl) (by first | exact Nat.le_of_ble_eq_true rfl | omega) (by first | exact Nat.le_of_ble_eq_true rfl | omega) ?_
        first | exact pCJ.r hO (by decide) (if_neg (fun q => ch q.1)) | exact pCJ.r hO (by decide) (if_neg (fun q => co q.2.1)) | exact pCJ.r hO (by decide) (if_neg (fun q => q.2.2 c24))
    · refine x_V1 (pc := 8) mX7_183 h0 (hO.pn co) cx (dA ddX7_saved (i := 6) rfl) (kR ?_)
      rw [show va_rf none = .null from rfl]
      refine x_astoreN (pc := 11) cx (dA ddX7_saved (i := 7) rfl) (by decide) rfl ?_
      refine x_aload_n (pc := 13) cx (dA ddX7_saved (i := 8) rfl) rfl ?_
      refine x_ifnull_s (pc := 14) cx (dA ddX7_saved (i := 9) rfl) ?_
      refine x_aloadN (pc := 17) cx (dA ddX7_saved (i := 10) rfl) rfl ?_
      refine x_ifnull_n (pc := 19) (tgt := 27) cx (dA ddX7_saved (i := 11) rfl) (by decide) ?_
      refine x_aload_n (pc := 27) cx (dA ddX7_saved (i := 15) rfl) rfl ?_
      refine x_bipush (pc := 28) (v := -2) cx (dA ddX7_saved (i := 16) rfl) (by decide) ?_
      refine x_V1 (pc := 30) mX7_74 h0 (c_X7_refuse hQ (i := 0) (by decide) rfl) cx (dA ddX7_saved (i := 17) rfl) (kI ?_)
      refine x_i2l (pc := 33) cx (dA ddX7_saved (i := 18) rfl) ?_
      refine x_lreturn (pc := 34) cx (dA ddX7_saved (i := 19) rfl) (by first | exact Nat.le_of_ble_eq_true rfl | omega) (by first | exact Nat.le_of_ble_eq_true rfl | omega) ?_
      first | exact pCJ.r hO (by decide) (if_neg (fun q => ch q.1)) | exact pCJ.r hO (by decide) (if_neg (fun q => co q.2.1)) | exact pCJ.r hO (by decide) (if_neg (fun q => q.2.2 c24))
  · refine x_V1 (pc := 2) mX7_183 h0 (hO.pn ch) cx (dA ddX7_saved (i := 2) rfl) (kR ?_)
    rw [show va_rf none = .null from rfl]
    refine x_astore_nN (pc := 5) cx (dA ddX7_saved (i := 3) rfl) (by decide) rfl ?_
    refine x_aload_n (pc := 6) cx (dA ddX7_saved (i := 4) rfl) rfl ?_
    refine x_iload_n (pc := 7) cx (dA ddX7_saved (i := 5) rfl) rfl ?_
    by_cases co : okc S o
    · obtain ⟨k, hk, rfl, tk⟩ := i32_in co
      have k6 : k < 6 := by omega
      have eXk : hX S (nI k) = S.1.2.1 k := hX_at (by omega)
      obtain ⟨-, bN, bzN⟩ := hWd.2.2.1 k hk
      have bP := (hQ.2.2.2.2.2.2.2.2.2.2.2.2 k k6).2
      have bB := bN.1
      have b4 := bB.1
      have b06 := bN.2.1
      refine x_V1 (pc := 8) mX7_183 h0 (hO.po hk) cx (dA ddX7_saved (i := 6) rfl) (kRx fun V2 h2 => ?_)
      have hS2 := h2.2
      obtain ⟨hO, hT2⟩ := hO.tu k6 bzN h2
      rw [show va_rf (some (x + 70 + 12 * k)) = .ref (x + 70 + 12 * k) from rfl]
      refine x_astore (pc := 11) cx (dA ddX7_saved (i := 7) rfl) (by decide) rfl ?_
      refine x_aload_nN (pc := 13) cx (dA ddX7_saved (i := 8) rfl) rfl ?_
      refine x_ifnull_n (pc := 14) (tgt := 27) cx (dA ddX7_saved (i := 9) rfl) (by decide) ?_
      refine x_aload_n (pc := 27) cx (dA ddX7_saved (i := 15) rfl) rfl ?_
      refine x_bipush (pc := 28) (v := -2) cx (dA ddX7_saved (i := 16) rfl) (by decide) ?_
      refine x_V1 (pc := 30) mX7_74 h0 (c_X7_refuse hQ (i := 0) (by decide) rfl) cx (dA ddX7_saved (i := 17) rfl) (kI ?_)
      refine x_i2l (pc := 33) cx (dA ddX7_saved (i := 18) rfl) ?_
      refine x_lreturn (pc := 34) cx (dA ddX7_saved (i := 19) rfl) (by first | exact Nat.le_of_ble_eq_true rfl | omega) (by first | exact Nat.le_of_ble_eq_true rfl | omega) ?_
      first | exact pCJ.r hO (by decide) (if_neg (fun q => ch q.1)) | exact pCJ.r hO (by decide) (if_neg (fun q => co q.2.1)) | exact pCJ.r hO (by decide) (if_neg (fun q => q.2.2 c24))
    · refine x_V1 (pc := 8) mX7_183 h0 (hO.pn co) cx (dA ddX7_saved (i := 6) rfl) (kR ?_)
      rw [show va_rf none = .null from rfl]
      refine x_astoreN (pc := 11) cx (dA ddX7_saved (i := 7) rfl) (by decide) rfl ?_
      refine x_aload_nN (pc := 13) cx (dA ddX7_saved (i := 8) rfl) rfl ?_
      refine x_ifnull_n (pc := 14) (tgt := 27) cx (dA ddX7_saved (i := 9) rfl) (by decide) ?_
      refine x_aload_n (pc := 27) cx (dA ddX7_saved (i := 15) rfl) rfl ?_
      refine x_bipush (pc := 28) (v := -2) cx (dA ddX7_saved (i := 16) rfl) (by decide) ?_
      refine x_V1 (pc := 30) mX7_74 h0 (c_X7_refuse hQ (i := 0) (by decide) rfl) cx (dA ddX7_saved (i := 17) rfl) (kI ?_)
      refine x_i2l (pc := 33) cx (dA ddX7_saved (i := 18) rfl) ?_
      refine x_lreturn (pc := 34) cx (dA ddX7_saved (i := 19) rfl) (by first | exact Nat.le_of_ble_eq_true rfl | omega) (by first | exact Nat.le_of_ble_eq_true rfl | omega) ?_
      first | exact pCJ.r hO (by decide) (if_neg (fun q => ch q.1)) | exact pCJ.r hO (by decide) (if_neg (fun q => co q.2.1)) | exact pCJ.r hO (by decide) (if_neg (fun q => q.2.2 c24))
