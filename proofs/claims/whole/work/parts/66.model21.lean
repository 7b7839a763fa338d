/-- rows of houses are taken from another -/
def tfR (V V1 : zV) (y z h : Nat) : Prop := (∀ x, x < y + 30 ∨ y + 30 + h ≤ x → same4 V V1 x) ∧ ∀ k, k < h → ∀ i, i < 20 → V1.2.2.1 (y + 29 + 1 + k) i = V.2.2.1 (z + 29 + 1 + k) i
def tfF (V : zV) (y z : Nat) : zV := sI (sI (sI (sI (sI (sI (sI (sI V 413 y (V.1 413 z)) 414 y (V.1 414 z)) 415 y (V.1 415 z)) 416 y (V.1 416 z)) 417 y (V.1 417 z)) 418 y (V.1 418 z)) 419 y (V.1 419 z)) 420 y (V.1 420 z)
theorem tfR_s {V V1 : zV} {y z h : Nat} (hd : z + 94 ≤ y ∨ y + 94 ≤ z) (hh : h < 8) (H : tfR V V1 y z h) : tfR V (rAI V1 (y + 29 + 1 + h) 0 20 (fun j => V1.2.2.1 (z + 29 + 1 + h) j)) y z (h + 1) := by
  refine ⟨fun x hx => (H.1 x (by omega)).rAI (by omega), fun k hk i hi => ?_⟩
  by_cases e : k = h
  · subst e
    exact (rAI_at hi).trans ((H.1 _ (by omega)).2.2.1 i)
  · exact (rAI_ne (by omega) i).trans (H.2 k (by omega) i hi)
theorem c_X8_takeFrom {l : Launch} {Z : zP} {G : zG} {V : zV} {y : Nat} (hM : ModelAt Z G y) {z : Nat} (hZ : ModelAt Z G z) (hd : z + 94 ≤ y ∨ y + 94 ≤ z) : CT l Z yX8_takeFrom cX8_takeFrom 4 none 0 0 0 [.ref y, .ref z] G V (pVx G (fun V' => ∃ V1, tfR (sI V 411 y (V.1 411 z)) V1 y z 8 ∧ V' = (sI (sI (sI (sI (sI (sI (sI (sI (rAI (sAI (sAI V1 (y + 14) 8 (V1.2.2.1 (z + 14) 8)) (y + 15) 8 (V1.2.2.1 (z + 15) 8)) (y + 16 + 1 + 8) 0 125 (fun j => V1.2.2.1 (z + 16 + 1 + 8) j)) 413 y (V1.1 413 z)) 414 y (V1.1 414 z)) 415 y (V1.1 415 z)) 416 y (V1.1 416 z)) 417 y (V1.1 417 z)) 418 y (V1.1 418 z)) 419 y (V1.1 419 z)) 420 y (V1.1 420 z)))) := by
  refine CT.of (by decide +kernel) (Nat.le_of_ble_eq_true rfl) (fun X hX cx => ?_)
  subst hX
  show Wm Z X 4 G V 0 0 _ 0 [(0, some (.ref y)), (1, some (.ref z))] []
  have h0 := hM.1
  have hz0 := hZ.1
  refine x_aload_n (pc := 0) cx (dA ddX8_takeFrom (i := 0) rfl) rfl ?_
  refine x_aload_n (pc := 1) cx (dA ddX8_takeFrom (i := 1) rfl) rfl ?_
  refine gX8_91 (pc := 2) rfl cx (dA ddX8_takeFrom (i := 2) rfl) hz0 ?_
  refine pX8_91 (pc := 5)  cx (dA ddX8_takeFrom (i := 3) rfl) h0 ?_
  refine x_iconst (pc := 8) (v := nI 0) cx (dA ddX8_takeFrom (i := 4) rfl) (by decide) ?_
  refine x_istore_n (pc := 9) cx (dA ddX8_takeFrom (i := 5) rfl) (by decide) rfl ?_
  have L10 : ∀ h, h ≤ 8 → ∀ V1, tfR (sI V 411 y (V.1 411 z)) V1 y z h → Wm Z X 4 G V1 0 0 (rQ Z X 0 0 (pVx G (fun V' => ∃ V1, tfR (sI V 411 y (V.1 411 z)) V1 y z 8 ∧ V' = (sI (sI (sI (sI (sI (sI (sI (sI (rAI (sAI (sAI V1 (y + 14) 8 (V1.2.2.1 (z + 14) 8)) (y + 15) 8 (V1.2.2.1 (z + 15) 8)) (y + 16 + 1 + 8) 0 125 (fun j => V1.2.2.1 (z + 16 + 1 + 8) j)) 413 y (V1.1 413 z)) 414 y (V1.1 414 z)) 415 y (V1.1 415 z)) 416 y (V1.1 416 z)) 417 y (V1.1 417 z)) 418 y (V1.1 418 z)) 419 y (V1.1 419 z)) 420 y (V1.1 420 z))))) 10 [(0, some (.ref y)), (1, some (.ref z)), (2, some (.int (nI h)))] [] := by
    refine lpU 8 (fun h hh ih => ?_)
    intro V1 hI
    refine x_iload_n (pc := 10) cx (dA ddX8_takeFrom (i := 6) rfl) rfl ?_
    refine x_bipush (pc := 11) (v := nI 8) cx (dA ddX8_takeFrom (i := 7) rfl) (by decide) ?_
    refine x_icmp_ge (pc := 13) (tgt := 52) cx (dA ddX8_takeFrom (i := 8) rfl) (by decide) (fun c13 => ?_) (fun c13 => ?_)
    · have c13 := cleT (by omega) (by omega) c13
      have eh : h = 8 := by omega
      subst eh
      refine x_aload_n (pc := 52) cx (dA ddX8_takeFrom (i := 30) rfl) rfl ?_
      refine gX8_28 (pc := 53) (rfA hM.2.2.2.2.2.2.1.1) cx (dA ddX8_takeFrom (i := 31) rfl) h0 ?_
      refine x_bipush (pc := 56) (v := nI 8) cx (dA ddX8_takeFrom (i := 32) rfl) (by decide) ?_
      refine x_aload_n (pc := 58) cx (dA ddX8_takeFrom (i := 33) rfl) rfl ?_
      refine gX8_28 (pc := 59) (rfA hZ.2.2.2.2.2.2.1.1) cx (dA ddX8_takeFrom (i := 34) rfl) hz0 ?_
      refine x_bipush (pc := 62) (v := nI 8) cx (dA ddX8_takeFrom (i := 35) rfl) (by decide) ?_
      refine x_iaload (pc := 64) cx (dA ddX8_takeFrom (i := 36) rfl) hZ.2.2.2.2.2.2.1.2 (by decide) (by decide) ?_
      refine x_iastore (pc := 65) cx (dA ddX8_takeFrom (i := 37) rfl) hM.2.2.2.2.2.2.1.2 (by decide) (by decide) ?_
      refine x_aload_n (pc := 66) cx (dA ddX8_takeFrom (i := 38) rfl) rfl ?_
      refine gX8_31 (pc := 67) (rfA hM.2.2.2.2.2.2.2.1.1) cx (dA ddX8_takeFrom (i := 39) rfl) h0 ?_
      refine x_bipush (pc := 70) (v := nI 8) cx (dA ddX8_takeFrom (i := 40) rfl) (by decide) ?_
      refine x_aload_n (pc := 72) cx (dA ddX8_takeFrom (i := 41) rfl) rfl ?_
      refine gX8_31 (pc := 73) (rfA hZ.2.2.2.2.2.2.2.1.1) cx (dA ddX8_takeFrom (i := 42) rfl) hz0 ?_
      refine x_bipush (pc := 76) (v := nI 8) cx (dA ddX8_takeFrom (i := 43) rfl) (by decide) ?_
      refine x_iaload (pc := 78) cx (dA ddX8_takeFrom (i := 44) rfl) hZ.2.2.2.2.2.2.2.1.2 (by decide) (by decide) ?_
      refine x_iastore (pc := 79) cx (dA ddX8_takeFrom (i := 45) rfl) hM.2.2.2.2.2.2.2.1.2 (by decide) (by decide) ?_
      rw [show (sAI V1 (y + 14) 8 (V1.2.2.1 (z + 14) 8)).2.2.1 (z + 15) 8 = V1.2.2.1 (z + 15) 8 from sAI_ne (by omega)]
      refine x_iconst (pc := 80) (v := nI 0) cx (dA ddX8_takeFrom (i := 46) rfl) (by decide) ?_
      refine x_istore_n (pc := 81) cx (dA ddX8_takeFrom (i := 47) rfl) (by decide) rfl ?_
      have L82 : ∀ i, i ≤ 125 → Wm Z X 4 G (rAI (sAI (sAI V1 (y + 14) 8 (V1.2.2.1 (z + 14) 8)) (y + 15) 8 (V1.2.2.1 (z + 15) 8)) (y + 16 + 1 + 8) 0 i (fun j => V1.2.2.1 (z + 16 + 1 + 8) j)) 0 0 (rQ Z X 0 0 (pVx G (fun V' => ∃ V1, tfR (sI V 411 y (V.1 411 z)) V1 y z 8 ∧ V' = (sI (sI (sI (sI (sI (sI (sI (sI (rAI (sAI (sAI V1 (y + 14) 8 (V1.2.2.1 (z + 14) 8)) (y + 15) 8 (V1.2.2.1 (z + 15) 8)) (y + 16 + 1 + 8) 0 125 (fun j => V1.2.2.1 (z + 16 + 1 + 8) j)) 413 y (V1.1 413 z)) 414 y (V1.1 414 z)) 415 y (V1.1 415 z)) 416 y (V1.1 416 z)) 417 y (V1.1 417 z)) 418 y (V1.1 418 z)) 419 y (V1.1 419 z)) 420 y (V1.1 420 z))))) 82 [(0, some (.ref y)), (1, some (.ref z)), (2, some (.int (nI i)))] [] := by
        refine lpU 125 (fun i hi ih3 => ?_)
        refine x_iload_n (pc := 82) cx (dA ddX8_takeFrom (i := 48) rfl) rfl ?_
        refine x_bipush (pc := 83) (v := nI 125) cx (dA ddX8_takeFrom (i := 49) rfl) (by decide) ?_
        refine x_icmp_ge (pc := 85) (tgt := 112) cx (dA ddX8_takeFrom (i := 50) rfl) (by decide) (fun c85 => ?_) (fun c85 => ?_)
        · have c85 := cleT (by omega) (by omega) c85
          have ei : i = 125 := by omega
          subst ei
          refine x_aload_n (pc := 112) cx (dA ddX8_takeFrom (i := 65) rfl) rfl ?_
          refine x_aload_n (pc := 113) cx (dA ddX8_takeFrom (i := 66) rfl) rfl ?_
          refine gX8_48 (pc := 114) (congrArg Value.int (show (rAI (sAI (sAI V1 (y + 14) 8 (V1.2.2.1 (z + 14) 8)) (y + 15) 8 (V1.2.2.1 (z + 15) 8)) (y + 16 + 1 + 8) 0 125 (fun j => V1.2.2.1 (z + 16 + 1 + 8) j)).1 413 z = V1.1 413 z from rfl)) cx (dA ddX8_takeFrom (i := 67) rfl) hz0 ?_
          refine pX8_48 (pc := 117)  cx (dA ddX8_takeFrom (i := 68) rfl) h0 ?_
          refine x_aload_n (pc := 120) cx (dA ddX8_takeFrom (i := 69) rfl) rfl ?_
          refine x_aload_n (pc := 121) cx (dA ddX8_takeFrom (i := 70) rfl) rfl ?_
          refine gX8_346 (pc := 122) (congrArg Value.int (show (sI (rAI (sAI (sAI V1 (y + 14) 8 (V1.2.2.1 (z + 14) 8)) (y + 15) 8 (V1.2.2.1 (z + 15) 8)) (y + 16 + 1 + 8) 0 125 (fun j => V1.2.2.1 (z + 16 + 1 + 8) j)) 413 y (V1.1 413 z)).1 414 z = V1.1 414 z from (sI_na (by omega)).trans (rfl))) cx (dA ddX8_takeFrom (i := 71) rfl) hz0 ?_
          refine pX8_346 (pc := 125)  cx (dA ddX8_takeFrom (i := 72) rfl) h0 ?_
          refine x_aload_n (pc := 128) cx (dA ddX8_takeFrom (i := 73) rfl) rfl ?_
          refine x_aload_n (pc := 129) cx (dA ddX8_takeFrom (i := 74) rfl) rfl ?_
          refine gX8_349 (pc := 130) (congrArg Value.int (show (sI (sI (rAI (sAI (sAI V1 (y + 14) 8 (V1.2.2.1 (z + 14) 8)) (y + 15) 8 (V1.2.2.1 (z + 15) 8)) (y + 16 + 1 + 8) 0 125 (fun j => V1.2.2.1 (z + 16 + 1 + 8) j)) 413 y (V1.1 413 z)) 414 y (V1.1 414 z)).1 415 z = V1.1 415 z from (sI_na (by omega)).trans ((sI_na (by omega)).trans (rfl)))) cx (dA ddX8_takeFrom (i := 75) rfl) hz0 ?_
          refine pX8_349 (pc := 133)  cx (dA ddX8_takeFrom (i := 76) rfl) h0 ?_
          refine x_aload_n (pc := 136) cx (dA ddX8_takeFrom (i := 77) rfl) rfl ?_
          refine x_aload_n (pc := 137) cx (dA ddX8_takeFrom (i := 78) rfl) rfl ?_
          refine gX8_352 (pc := 138) (congrArg Value.int (show (sI (sI (sI (rAI (sAI (sAI V1 (y + 14) 8 (V1.2.2.1 (z + 14) 8)) (y + 15) 8 (V1.2.2.1 (z + 15) 8)) (y + 16 + 1 + 8) 0 125 (fun j => V1.2.2.1 (z + 16 + 1 + 8) j)) 413 y (V1.1 413 z)) 414 y (V1.1 414 z)) 415 y (V1.1 415 z)).1 416 z = V1.1 416 z from (sI_na (by omega)).trans ((sI_na (by omega)).trans ((sI_na (by omega)).trans (rfl))))) cx (dA ddX8_takeFrom (i := 79) rfl) hz0 ?_
          refine pX8_352 (pc := 141)  cx (dA ddX8_takeFrom (i := 80) rfl) h0 ?_
          refine x_aload_n (pc := 144) cx (dA ddX8_takeFrom (i := 81) rfl) rfl ?_
          refine x_aload_n (pc := 145) cx (dA ddX8_takeFrom (i := 82) rfl) rfl ?_
          refine gX8_355 (pc := 146) (congrArg Value.int (show (sI (sI (sI (sI (rAI (sAI (sAI V1 (y + 14) 8 (V1.2.2.1 (z + 14) 8)) (y + 15) 8 (V1.2.2.1 (z + 15) 8)) (y + 16 + 1 + 8) 0 125 (fun j => V1.2.2.1 (z + 16 + 1 + 8) j)) 413 y (V1.1 413 z)) 414 y (V1.1 414 z)) 415 y (V1.1 415 z)) 416 y (V1.1 416 z)).1 417 z = V1.1 417 z from (sI_na (by omega)).trans ((sI_na (by omega)).trans ((sI_na (by omega)).trans ((sI_na (by omega)).trans (rfl)))))) cx (dA ddX8_takeFrom (i := 83) rfl) hz0 ?_
          refine pX8_355 (pc := 149)  cx (dA ddX8_takeFrom (i := 84) rfl) h0 ?_
          refine x_aload_n (pc := 152) cx (dA ddX8_takeFrom (i := 85) rfl) rfl ?_
          refine x_aload_n (pc := 153) cx (dA ddX8_takeFrom (i := 86) rfl) rfl ?_
          refine gX8_358 (pc := 154) (congrArg Value.int (show (sI (sI (sI (sI (sI (rAI (sAI (sAI V1 (y + 14) 8 (V1.2.2.1 (z + 14) 8)) (y + 15) 8 (V1.2.2.1 (z + 15) 8)) (y + 16 + 1 + 8) 0 125 (fun j => V1.2.2.1 (z + 16 + 1 + 8) j)) 413 y (V1.1 413 z)) 414 y (V1.1 414 z)) 415 y (V1.1 415 z)) 416 y (V1.1 416 z)) 417 y (V1.1 417 z)).1 418 z = V1.1 418 z from (sI_na (by omega)).trans ((sI_na (by omega)).trans ((sI_na (by omega)).trans ((sI_na (by omega)).trans ((sI_na (by omega)).trans (rfl))))))) cx (dA ddX8_takeFrom (i := 87) rfl) hz0 ?_
          refine pX8_358 (pc := 157)  cx (dA ddX8_takeFrom (i := 88) rfl) h0 ?_
          refine x_aload_n (pc := 160) cx (dA ddX8_takeFrom (i := 89) rfl) rfl ?_
          refine x_aload_n (pc := 161) cx (dA ddX8_takeFrom (i := 90) rfl) rfl ?_
          refine gX8_361 (pc := 162) (congrArg Value.int (show (sI (sI (sI (sI (sI (sI (rAI (sAI (sAI V1 (y + 14) 8 (V1.2.2.1 (z + 14) 8)) (y + 15) 8 (V1.2.2.1 (z + 15) 8)) (y + 16 + 1 + 8) 0 125 (fun j => V1.2.2.1 (z + 16 + 1 + 8) j)) 413 y (V1.1 413 z)) 414 y (V1.1 414 z)) 415 y (V1.1 415 z)) 416 y (V1.1 416 z)) 417 y (V1.1 417 z)) 418 y (V1.1 418 z)).1 419 z = V1.1 419 z from (sI_na (by omega)).trans ((sI_na (by omega)).trans ((sI_na (by omega)).trans ((sI_na (by omega)).trans ((sI_na (by omega)).trans ((sI_na (by omega)).trans (rfl)))))))) cx (dA ddX8_takeFrom (i := 91) rfl) hz0 ?_
          refine pX8_361 (pc := 165)  cx (dA ddX8_takeFrom (i := 92) rfl) h0 ?_
          refine x_aload_n (pc := 168) cx (dA ddX8_takeFrom (i := 93) rfl) rfl ?_
          refine x_aload_n (pc := 169) cx (dA ddX8_takeFrom (i := 94) rfl) rfl ?_
          refine gX8_364 (pc := 170) (congrArg Value.int (show (sI (sI (sI (sI (sI (sI (sI (rAI (sAI (sAI V1 (y + 14) 8 (V1.2.2.1 (z + 14) 8)) (y + 15) 8 (V1.2.2.1 (z + 15) 8)) (y + 16 + 1 + 8) 0 125 (fun j => V1.2.2.1 (z + 16 + 1 + 8) j)) 413 y (V1.1 413 z)) 414 y (V1.1 414 z)) 415 y (V1.1 415 z)) 416 y (V1.1 416 z)) 417 y (V1.1 417 z)) 418 y (V1.1 418 z)) 419 y (V1.1 419 z)).1 420 z = V1.1 420 z from (sI_na (by omega)).trans ((sI_na (by omega)).trans ((sI_na (by omega)).trans ((sI_na (by omega)).trans ((sI_na (by omega)).trans ((sI_na (by omega)).trans ((sI_na (by omega)).trans (rfl))))))))) cx (dA ddX8_takeFrom (i := 95) rfl) hz0 ?_
          refine pX8_364 (pc := 173)  cx (dA ddX8_takeFrom (i := 96) rfl) h0 ?_
          refine x_return (pc := 176) cx (dA ddX8_takeFrom (i := 97) rfl) (by first | exact Nat.le_of_ble_eq_true rfl | omega) (by first | exact Nat.le_of_ble_eq_true rfl | omega) ?_
          exact ⟨rfl, rfl, V1, hI, rfl⟩
        · have c85 := cleF (by omega) (by omega) c85
          refine x_aload_n (pc := 88) cx (dA ddX8_takeFrom (i := 51) rfl) rfl ?_
          refine gX8_36 (pc := 89) (rfA hM.2.2.2.2.2.2.2.2.1.1) cx (dA ddX8_takeFrom (i := 52) rfl) h0 ?_
          refine x_bipush (pc := 92) (v := nI 8) cx (dA ddX8_takeFrom (i := 53) rfl) (by decide) ?_
          refine x_aaload (pc := 94) cx (dA ddX8_takeFrom (i := 54) rfl) hM.2.2.2.2.2.2.2.2.1.2.1 (by decide) (by decide) (by decide) (by decide) ?_
          rw [arA (hM.2.2.2.2.2.2.2.2.1.2.2 8 (by decide)).1]
          refine x_iload_n (pc := 95) cx (dA ddX8_takeFrom (i := 55) rfl) rfl ?_
          refine x_aload_n (pc := 96) cx (dA ddX8_takeFrom (i := 56) rfl) rfl ?_
          refine gX8_36 (pc := 97) (rfA hZ.2.2.2.2.2.2.2.2.1.1) cx (dA ddX8_takeFrom (i := 57) rfl) hz0 ?_
          refine x_bipush (pc := 100) (v := nI 8) cx (dA ddX8_takeFrom (i := 58) rfl) (by decide) ?_
          refine x_aaload (pc := 102) cx (dA ddX8_takeFrom (i := 59) rfl) hZ.2.2.2.2.2.2.2.2.1.2.1 (by decide) (by decide) (by decide) (by decide) ?_
          rw [arA (hZ.2.2.2.2.2.2.2.2.1.2.2 8 (by decide)).1]
          refine x_iload_n (pc := 103) cx (dA ddX8_takeFrom (i := 60) rfl) rfl ?_
          refine x_iaload (pc := 104) cx (dA ddX8_takeFrom (i := 61) rfl) (hZ.2.2.2.2.2.2.2.2.1.2.2 8 (by decide)).2 (by omega) (by decide) ?_
          refine x_iastore (pc := 105) cx (dA ddX8_takeFrom (i := 62) rfl) (hM.2.2.2.2.2.2.2.2.1.2.2 8 (by decide)).2 (by omega) (by decide) ?_
          rw [show sAI (rAI (sAI (sAI V1 (y + 14) 8 (V1.2.2.1 (z + 14) 8)) (y + 15) 8 (V1.2.2.1 (z + 15) 8)) (y + 16 + 1 + 8) 0 i (fun j => V1.2.2.1 (z + 16 + 1 + 8) j)) (y + 16 + 1 + 8) i ((rAI (sAI (sAI V1 (y + 14) 8 (V1.2.2.1 (z + 14) 8)) (y + 15) 8 (V1.2.2.1 (z + 15) 8)) (y + 16 + 1 + 8) 0 i (fun j => V1.2.2.1 (z + 16 + 1 + 8) j)).2.2.1 (z + 16 + 1 + 8) i) = (rAI (sAI (sAI V1 (y + 14) 8 (V1.2.2.1 (z + 14) 8)) (y + 15) 8 (V1.2.2.1 (z + 15) 8)) (y + 16 + 1 + 8) 0 (i + 1) (fun j => V1.2.2.1 (z + 16 + 1 + 8) j)) from rAI_s0 _ _ _ _ ((rAI_ne (by omega) i).trans ((sAI_ne (by omega)).trans (sAI_ne (by omega))))]
          refine x_iinc (pc := 106) cx (dA ddX8_takeFrom (i := 63) rfl) rfl (iinc1 _) (by decide) rfl ?_
          refine x_goto (pc := 109) (tgt := 82) cx (dA ddX8_takeFrom (i := 64) rfl) (by decide) ?_
          exact x_enter (ih3 (by omega)) ⟨.inr rfl, .inr rfl, .inr rfl, trivial⟩
      have L := L82 0 (Nat.zero_le _)
      rw [show (rAI (sAI (sAI V1 (y + 14) 8 (V1.2.2.1 (z + 14) 8)) (y + 15) 8 (V1.2.2.1 (z + 15) 8)) (y + 16 + 1 + 8) 0 0 (fun j => V1.2.2.1 (z + 16 + 1 + 8) j)) = (sAI (sAI V1 (y + 14) 8 (V1.2.2.1 (z + 14) 8)) (y + 15) 8 (V1.2.2.1 (z + 15) 8)) from rAI_0 _ _ _ _] at L
      exact x_enter L ⟨.inr rfl, .inr rfl, .inr rfl, trivial⟩
    · have c13 := cleF (by omega) (by omega) c13
      refine x_iconst (pc := 16) (v := nI 0) cx (dA ddX8_takeFrom (i := 9) rfl) (by decide) ?_
      refine x_istore_n (pc := 17) cx (dA ddX8_takeFrom (i := 10) rfl) (by decide) rfl ?_
      have L18 : ∀ i, i ≤ 20 → Wm Z X 4 G (rAI V1 (y + 29 + 1 + h) 0 i (fun j => V1.2.2.1 (z + 29 + 1 + h) j)) 0 0 (rQ Z X 0 0 (pVx G (fun V' => ∃ V1, tfR (sI V 411 y (V.1 411 z)) V1 y z 8 ∧ V' = (sI (sI (sI (sI (sI (sI (sI (sI (rAI (sAI (sAI V1 (y + 14) 8 (V1.2.2.1 (z + 14) 8)) (y + 15) 8 (V1.2.2.1 (z + 15) 8)) (y + 16 + 1 + 8) 0 125 (fun j => V1.2.2.1 (z + 16 + 1 + 8) j)) 413 y (V1.1 413 z)) 414 y (V1.1 414 z)) 415 y (V1.1 415 z)) 416 y (V1.1 416 z)) 417 y (V1.1 417 z)) 418 y (V1.1 418 z)) 419 y (V1.1 419 z)) 420 y (V1.1 420 z))))) 18 [(0, some (.ref y)), (1, some (.ref z)), (2, some (.int (nI h))), (3, some (.int (nI i)))] [] := by
        refine lpU 20 (fun i hi ih2 => ?_)
        refine x_iload_n (pc := 18) cx (dA ddX8_takeFrom (i := 11) rfl) rfl ?_
        refine x_bipush (pc := 19) (v := nI 20) cx (dA ddX8_takeFrom (i := 12) rfl) (by decide) ?_
        refine x_icmp_ge (pc := 21) (tgt := 46) cx (dA ddX8_takeFrom (i := 13) rfl) (by decide) (fun c21 => ?_) (fun c21 => ?_)
        · have c21 := cleT (by omega) (by omega) c21
          have ei : i = 20 := by omega
          subst ei
          refine x_iinc (pc := 46) cx (dA ddX8_takeFrom (i := 28) rfl) rfl (iinc1 _) (by decide) rfl ?_
          refine x_goto (pc := 49) (tgt := 10) cx (dA ddX8_takeFrom (i := 29) rfl) (by decide) ?_
          exact x_enter (ih (by omega) _ (tfR_s hd (by omega) hI)) ⟨.inr rfl, .inr rfl, .inr rfl, trivial⟩
        · have c21 := cleF (by omega) (by omega) c21
          refine x_aload_n (pc := 24) cx (dA ddX8_takeFrom (i := 14) rfl) rfl ?_
          refine gX8_45 (pc := 25) (rfA hM.2.2.2.2.2.2.2.2.2.2.2.1.1) cx (dA ddX8_takeFrom (i := 15) rfl) h0 ?_
          refine x_iload_n (pc := 28) cx (dA ddX8_takeFrom (i := 16) rfl) rfl ?_
          refine x_aaload (pc := 29) cx (dA ddX8_takeFrom (i := 17) rfl) hM.2.2.2.2.2.2.2.2.2.2.2.1.2.1 (by decide) (by decide) (by omega) (by decide) ?_
          rw [arA (hM.2.2.2.2.2.2.2.2.2.2.2.1.2.2 h (by omega)).1]
          refine x_iload_n (pc := 30) cx (dA ddX8_takeFrom (i := 18) rfl) rfl ?_
          refine x_aload_n (pc := 31) cx (dA ddX8_takeFrom (i := 19) rfl) rfl ?_
          refine gX8_45 (pc := 32) (rfA hZ.2.2.2.2.2.2.2.2.2.2.2.1.1) cx (dA ddX8_takeFrom (i := 20) rfl) hz0 ?_
          refine x_iload_n (pc := 35) cx (dA ddX8_takeFrom (i := 21) rfl) rfl ?_
          refine x_aaload (pc := 36) cx (dA ddX8_takeFrom (i := 22) rfl) hZ.2.2.2.2.2.2.2.2.2.2.2.1.2.1 (by decide) (by decide) (by omega) (by decide) ?_
          rw [arA (hZ.2.2.2.2.2.2.2.2.2.2.2.1.2.2 h (by omega)).1]
          refine x_iload_n (pc := 37) cx (dA ddX8_takeFrom (i := 23) rfl) rfl ?_
          refine x_iaload (pc := 38) cx (dA ddX8_takeFrom (i := 24) rfl) (hZ.2.2.2.2.2.2.2.2.2.2.2.1.2.2 h (by omega)).2 (by omega) (by decide) ?_
          refine x_iastore (pc := 39) cx (dA ddX8_takeFrom (i := 25) rfl) (hM.2.2.2.2.2.2.2.2.2.2.2.1.2.2 h (by omega)).2 (by omega) (by decide) ?_
          rw [show sAI (rAI V1 (y + 29 + 1 + h) 0 i (fun j => V1.2.2.1 (z + 29 + 1 + h) j)) (y + 29 + 1 + h) i ((rAI V1 (y + 29 + 1 + h) 0 i (fun j => V1.2.2.1 (z + 29 + 1 + h) j)).2.2.1 (z + 29 + 1 + h) i) = (rAI V1 (y + 29 + 1 + h) 0 (i + 1) (fun j => V1.2.2.1 (z + 29 + 1 + h) j)) from rAI_s0 _ _ _ _ (rAI_ne (by omega) i)]
          refine x_iinc (pc := 40) cx (dA ddX8_takeFrom (i := 26) rfl) rfl (iinc1 _) (by decide) rfl ?_
          refine x_goto (pc := 43) (tgt := 18) cx (dA ddX8_takeFrom (i := 27) rfl) (by decide) ?_
          exact x_enter (ih2 (by omega)) ⟨.inr rfl, .inr rfl, .inr rfl, .inr rfl, trivial⟩
      have L := L18 0 (Nat.zero_le _)
      rw [show (rAI V1 (y + 29 + 1 + h) 0 0 (fun j => V1.2.2.1 (z + 29 + 1 + h) j)) = V1 from rAI_0 _ _ _ _] at L
      exact x_enter L ⟨.inr rfl, .inr rfl, .inr rfl, .inr rfl, trivial⟩
  exact x_enter (L10 0 (Nat.zero_le _) (sI V 411 y (V.1 411 z)) ⟨fun x _ => same4.refl _ x, fun k hk => absurd hk (Nat.not_lt_zero _)⟩) ⟨.inr rfl, .inr rfl, .inr rfl, trivial⟩
