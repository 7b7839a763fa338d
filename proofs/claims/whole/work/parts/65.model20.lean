theorem addI_lo {N M : Nat → Nat} {s j : Nat} (hj : j < 5 + 5 * N 4) : ∀ w, addI N M s w j = N j
  | 0 => rfl
  | w + 1 => (numP_ne (by omega)).trans (addI_lo hj w)
theorem addI_hi {N M : Nat → Nat} {s w : Nat} : ∀ {n : Nat}, w < n → addI N M s n (5 + 5 * N 4 + w) = M (5 + 5 * s + w)
  | 0, h => absurd h (Nat.not_lt_zero _)
  | n + 1, h => by
    show numP (addI N M s n) (5 + 5 * N 4 + n) (M (5 + 5 * s + n)) _ = _
    by_cases e : w = n
    · subst e; exact numP_eq
    · rw [numP_ne (by omega)]
      exact addI_hi (by omega)
theorem addO_lo {N M : Nat → Nat} {j : Nat} (h4 : j ≠ 4) (hj : j < 5 + 5 * N 4) : ∀ s, addO N M s j = N j
  | 0 => rfl
  | s + 1 => by
    show numP (addI (addO N M s) M s 5) 4 _ j = _
    rw [numP_ne h4, addI_lo (by rw [addO_4]; omega)]
    exact addO_lo h4 hj s
theorem addO_hi {N M : Nat → Nat} {t w : Nat} (hw : w < 5) : ∀ {s : Nat}, t < s → addO N M s (5 + 5 * (N 4 + t) + w) = M (5 + 5 * t + w)
  | 0, h => absurd h (Nat.not_lt_zero _)
  | s + 1, h => by
    show numP (addI (addO N M s) M s 5) 4 _ _ = _
    rw [numP_ne (by omega)]
    by_cases e : t = s
    · subst e
      have e4 := addO_4 (N := N) (M := M) t
      have h5 := addI_hi (N := addO N M t) (M := M) (s := t) (w := w) (n := 5) hw
      rw [e4] at h5
      exact h5
    · rw [addI_lo (by rw [addO_4]; omega)]
      exact addO_hi hw (by omega)
theorem addO_OK {N M : Nat → Nat} (hN : HOK N) (hM : HOK M) (h3 : N 4 + M 4 ≤ 3) : HOK (addO N M (M 4)) := by
  refine ⟨addO_B hN.1 hM.1 h3 _ (Nat.le_refl _), ?_, ?_, ?_, fun k hk w hw => ?_⟩
  · rw [addO_lo (by decide) (by omega)]; exact hN.2.1
  · rw [addO_lo (by decide) (by omega)]; exact hN.2.2.1
  · rw [addO_lo (by decide) (by omega)]; exact hN.2.2.2.1
  · rw [addO_4] at hk
    by_cases q : k < N 4
    · rw [addO_lo (by omega) (by omega)]
      exact hN.2.2.2.2 k q w hw
    · have h := addO_hi (N := N) (M := M) (t := k - N 4) (w := w) hw (s := M 4) (by omega)
      rw [show N 4 + (k - N 4) = k by omega] at h
      rw [h]
      exact hM.2.2.2.2 _ (by omega) w hw
theorem addI_NZ {N M : Nat → Nat} {s : Nat} (hN : NZ N) (h : N 4 < 3) : ∀ w, w ≤ 5 → NZ (addI N M s w)
  | 0, _ => hN
  | w + 1, hw => fun j hj => by
    show numP (addI N M s w) (5 + 5 * N 4 + w) _ j = 0
    rw [numP_ne (by omega)]
    exact addI_NZ hN h w (by omega) j hj
theorem addO_NZ {N M : Nat → Nat} (hN : NZ N) : ∀ s, N 4 + s ≤ 3 → NZ (addO N M s)
  | 0, _ => hN
  | s + 1, h => fun j hj => by
    show numP (addI (addO N M s) M s 5) 4 _ j = 0
    rw [numP_ne (by omega)]
    exact addI_NZ (addO_NZ hN s (by omega)) (by rw [addO_4]; omega) 5 (Nat.le_refl _) j hj
theorem joint_MH {V2 : zV} {y s : Nat} {N M : Nat → Nat} (h3 : N 4 + M 4 ≤ 3) (h1 : ∀ j, j ≠ 4 → j < 5 + 5 * N 4 → V2.2.2.1 (y + 29 + 1 + s) j = nI (N j)) (h2 : ∀ i, i < 5 * M 4 → V2.2.2.1 (y + 29 + 1 + s) (5 + 5 * N 4 + i) = nI (M (5 + i))) (h4 : V2.2.2.1 (y + 29 + 1 + s) 4 = nI (N 4 + M 4)) : MH V2 y s (addO N M (M 4)) := by
  intro j hj
  rw [addO_4] at hj
  by_cases e : j = 4
  · subst e; rw [h4, addO_4]
  · by_cases q : j < 5 + 5 * N 4
    · rw [h1 j e q, addO_lo e q]
    · have h := addO_hi (N := N) (M := M) (t := (j - (5 + 5 * N 4)) / 5) (w := (j - (5 + 5 * N 4)) % 5) (Nat.mod_lt _ (by decide)) (s := M 4) (by omega)
      have e1 : 5 + 5 * (N 4 + (j - (5 + 5 * N 4)) / 5) + (j - (5 + 5 * N 4)) % 5 = j := by omega
      have e2 : 5 + 5 * ((j - (5 + 5 * N 4)) / 5) + (j - (5 + 5 * N 4)) % 5 = 5 + (j - (5 + 5 * N 4)) := by omega
      rw [e1, e2] at h
      have h5 := h2 (j - (5 + 5 * N 4)) (by omega)
      rw [show 5 + 5 * N 4 + (j - (5 + 5 * N 4)) = j by omega] at h5
      rw [h5, h]
theorem c_X8_mayJoin {l : Launch} {Z : zP} {G : zG} {V : zV} {y : Nat} (hM : ModelAt Z G y) {h : Nat} (hh : h < 8) {N : Nat → Nat} (hR : MH V y h N) (hB : HouseB N) {o : Nat} (ho : o < 8) {M : Nat → Nat} (oR : MH V y o M) (oB : HouseB M) : CT l Z yX8_mayJoin cX8_mayJoin 3 (some .boolean) 1 0 0 [.ref y, .int (nI h), .int (nI o)] G V (pI (b2i (N 0 = M 0 ∧ N 4 + M 4 ≤ 3)) G V) := by
  refine CT.of (by decide +kernel) (Nat.le_of_ble_eq_true rfl) (fun X hX cx => ?_)
  subst hX
  show Wm Z X 3 G V 0 0 _ 0 [(0, some (.ref y)), (1, some (.int (nI h))), (2, some (.int (nI o)))] []
  have h0 := hM.1
  have b4 := hB.1
  have o4 := oB.1
  have b0 := hB.2 0 (by decide)
  have o0 := oB.2 0 (by decide)
  refine x_aload_n (pc := 0) cx (dA ddX8_mayJoin (i := 0) rfl) rfl ?_
  refine gX8_45 (pc := 1) (rfA hM.2.2.2.2.2.2.2.2.2.2.2.1.1) cx (dA ddX8_mayJoin (i := 1) rfl) h0 ?_
  refine x_iload_n (pc := 4) cx (dA ddX8_mayJoin (i := 2) rfl) rfl ?_
  refine x_aaload (pc := 5) cx (dA ddX8_mayJoin (i := 3) rfl) hM.2.2.2.2.2.2.2.2.2.2.2.1.2.1 (by decide) (by decide) hh (by decide) ?_
  rw [arA (hM.2.2.2.2.2.2.2.2.2.2.2.1.2.2 h hh).1]
  refine x_iconst (pc := 6) (v := nI 0) cx (dA ddX8_mayJoin (i := 4) rfl) (by decide) ?_
  refine x_iaload (pc := 7) cx (dA ddX8_mayJoin (i := 5) rfl) (hM.2.2.2.2.2.2.2.2.2.2.2.1.2.2 h hh).2 (by decide) (by decide) ?_
  rw [hR 0 (by omega)]
  refine x_aload_n (pc := 8) cx (dA ddX8_mayJoin (i := 6) rfl) rfl ?_
  refine gX8_45 (pc := 9) (rfA hM.2.2.2.2.2.2.2.2.2.2.2.1.1) cx (dA ddX8_mayJoin (i := 7) rfl) h0 ?_
  refine x_iload_n (pc := 12) cx (dA ddX8_mayJoin (i := 8) rfl) rfl ?_
  refine x_aaload (pc := 13) cx (dA ddX8_mayJoin (i := 9) rfl) hM.2.2.2.2.2.2.2.2.2.2.2.1.2.1 (by decide) (by decide) ho (by decide) ?_
  rw [arA (hM.2.2.2.2.2.2.2.2.2.2.2.1.2.2 o ho).1]
  refine x_iconst (pc := 14) (v := nI 0) cx (dA ddX8_mayJoin (i := 10) rfl) (by decide) ?_
  refine x_iaload (pc := 15) cx (dA ddX8_mayJoin (i := 11) rfl) (hM.2.2.2.2.2.2.2.2.2.2.2.1.2.2 o ho).2 (by decide) (by decide) ?_
  rw [oR 0 (by omega)]
  refine x_icmp_ne (pc := 16) (tgt := 38) cx (dA ddX8_mayJoin (i := 12) rfl) (by decide) (fun c16 => ?_) (fun c16 => ?_)
  · have c16 := ceqF (by omega) (by omega) c16
    refine x_iconst (pc := 38) (v := nI 0) cx (dA ddX8_mayJoin (i := 24) rfl) (by decide) ?_
    refine x_zreturn (pc := 39) cx (dA ddX8_mayJoin (i := 25) rfl) (by first | exact Nat.le_of_ble_eq_true rfl | omega) (by first | exact Nat.le_of_ble_eq_true rfl | omega) rfl ?_
    refine rI ?_
    first | exact (b2i_t (by omega)).symm | exact (b2i_f (by omega)).symm
  · have c16 := ceqT (by omega) (by omega) c16
    refine x_aload_n (pc := 19) cx (dA ddX8_mayJoin (i := 13) rfl) rfl ?_
    refine x_iload_n (pc := 20) cx (dA ddX8_mayJoin (i := 14) rfl) rfl ?_
    refine x_V1 (pc := 21) mX8_98 h0 (c_X8_sorts hM hh hR hB) cx (dA ddX8_mayJoin (i := 15) rfl) (kI ?_)
    refine x_aload_n (pc := 24) cx (dA ddX8_mayJoin (i := 16) rfl) rfl ?_
    refine x_iload_n (pc := 25) cx (dA ddX8_mayJoin (i := 17) rfl) rfl ?_
    refine x_V1 (pc := 26) mX8_98 h0 (c_X8_sorts hM ho oR oB) cx (dA ddX8_mayJoin (i := 18) rfl) (kI ?_)
    refine x_iadd (pc := 29) cx (dA ddX8_mayJoin (i := 19) rfl) ?_
    refine x_iconst (pc := 30) (v := nI 3) cx (dA ddX8_mayJoin (i := 20) rfl) (by decide) ?_
    rw [nI_add]
    refine x_icmp_gt (pc := 31) (tgt := 38) cx (dA ddX8_mayJoin (i := 21) rfl) (by decide) (fun c31 => ?_) (fun c31 => ?_)
    · have c31 := cltT (by omega) (by omega) c31
      refine x_iconst (pc := 38) (v := nI 0) cx (dA ddX8_mayJoin (i := 24) rfl) (by decide) ?_
      refine x_zreturn (pc := 39) cx (dA ddX8_mayJoin (i := 25) rfl) (by first | exact Nat.le_of_ble_eq_true rfl | omega) (by first | exact Nat.le_of_ble_eq_true rfl | omega) rfl ?_
      refine rI ?_
      first | exact (b2i_t (by omega)).symm | exact (b2i_f (by omega)).symm
    · have c31 := cltF (by omega) (by omega) c31
      refine x_iconst (pc := 34) (v := nI 1) cx (dA ddX8_mayJoin (i := 22) rfl) (by decide) ?_
      refine x_goto (pc := 35) (tgt := 39) cx (dA ddX8_mayJoin (i := 23) rfl) (by decide) ?_
      refine x_zreturn (pc := 39) cx (dA ddX8_mayJoin (i := 25) rfl) (by first | exact Nat.le_of_ble_eq_true rfl | omega) (by first | exact Nat.le_of_ble_eq_true rfl | omega) rfl ?_
      refine rI ?_
      first | exact (b2i_t (by omega)).symm | exact (b2i_f (by omega)).symm
theorem c_X8_joinTo {l : Launch} {Z : zP} {G : zG} {V : zV} {y : Nat} (hM : ModelAt Z G y) {h : Nat} (hh : h < 8) {N : Nat → Nat} (hR : MH V y h N) (hB : HouseB N) {o : Nat} (ho : o < 8) {M : Nat → Nat} (oR : MH V y o M) (oB : HouseB M) (h3 : N 4 + M 4 ≤ 3) {s : Nat} (hs : s < 8) (sh : s ≠ h) (so : s ≠ o) : CT l Z yX8_joinTo cX8_joinTo 5 none 1 0 0 [.ref y, .int (nI h), .int (nI o), .int (nI s)] G V (pVx G (fun V' => MH V' y s (addO N M (M 4)) ∧ ∀ x, x ≠ (y + 29 + 1 + s) → same4 V V' x)) := by
  refine CT.of (by decide +kernel) (Nat.le_of_ble_eq_true rfl) (fun X hX cx => ?_)
  subst hX
  show Wm Z X 5 G V 0 0 _ 0 [(0, some (.ref y)), (1, some (.int (nI h))), (2, some (.int (nI o))), (3, some (.int (nI s)))] []
  have h0 := hM.1
  have b4 := hB.1
  have o4 := oB.1
  refine x_iconst (pc := 0) (v := nI 0) cx (dA ddX8_joinTo (i := 0) rfl) (by decide) ?_
  refine x_istore (pc := 1) cx (dA ddX8_joinTo (i := 1) rfl) (by decide) rfl ?_
  have L3 : ∀ i, i ≤ 20 → Wm Z X 5 G (rAI V (y + 29 + 1 + s) 0 i (fun j => V.2.2.1 (y + 29 + 1 + h) j)) 0 0 (rQ Z X 0 0 (pVx G (fun V' => MH V' y s (addO N M (M 4)) ∧ ∀ x, x ≠ (y + 29 + 1 + s) → same4 V V' x))) 3 [(0, some (.ref y)), (1, some (.int (nI h))), (2, some (.int (nI o))), (3, some (.int (nI s))), (4, some (.int (nI i)))] [] := by
    refine lpU 20 (fun i hi ih => ?_)
    refine x_iload (pc := 3) cx (dA ddX8_joinTo (i := 2) rfl) rfl ?_
    refine x_bipush (pc := 5) (v := nI 20) cx (dA ddX8_joinTo (i := 3) rfl) (by decide) ?_
    refine x_icmp_ge (pc := 7) (tgt := 34) cx (dA ddX8_joinTo (i := 4) rfl) (by decide) (fun c7 => ?_) (fun c7 => ?_)
    · have c7 := cleT (by omega) (by omega) c7
      have ei : i = 20 := by omega
      subst ei
      refine x_iconst (pc := 34) (v := nI 0) cx (dA ddX8_joinTo (i := 19) rfl) (by decide) ?_
      refine x_istore (pc := 35) cx (dA ddX8_joinTo (i := 20) rfl) (by decide) rfl ?_
      have L37 : ∀ i, i ≤ 5 * M 4 → Wm Z X 5 G (rAI (rAI V (y + 29 + 1 + s) 0 20 (fun j => V.2.2.1 (y + 29 + 1 + h) j)) (y + 29 + 1 + s) (5 + 5 * N 4) i (fun j => V.2.2.1 (y + 29 + 1 + o) (5 + j))) 0 0 (rQ Z X 0 0 (pVx G (fun V' => MH V' y s (addO N M (M 4)) ∧ ∀ x, x ≠ (y + 29 + 1 + s) → same4 V V' x))) 37 [(0, some (.ref y)), (1, some (.int (nI h))), (2, some (.int (nI o))), (3, some (.int (nI s))), (4, some (.int (nI i)))] [] := by
        refine lpU (5 * M 4) (fun i hi ih2 => ?_)
        refine x_iload (pc := 37) cx (dA ddX8_joinTo (i := 21) rfl) rfl ?_
        refine x_iconst (pc := 39) (v := nI 5) cx (dA ddX8_joinTo (i := 22) rfl) (by decide) ?_
        refine x_aload_n (pc := 40) cx (dA ddX8_joinTo (i := 23) rfl) rfl ?_
        refine x_iload_n (pc := 41) cx (dA ddX8_joinTo (i := 24) rfl) rfl ?_
        refine x_V1 (pc := 42) mX8_98 h0 (c_X8_sorts (V := (rAI (rAI V (y + 29 + 1 + s) 0 20 (fun j => V.2.2.1 (y + 29 + 1 + h) j)) (y + 29 + 1 + s) (5 + 5 * N 4) i (fun j => V.2.2.1 (y + 29 + 1 + o) (5 + j)))) hM ho (show MH (rAI (rAI V (y + 29 + 1 + s) 0 20 (fun j => V.2.2.1 (y + 29 + 1 + h) j)) (y + 29 + 1 + s) (5 + 5 * N 4) i (fun j => V.2.2.1 (y + 29 + 1 + o) (5 + j))) y o M from fun j hj => by rw [show (rAI (rAI V (y + 29 + 1 + s) 0 20 (fun j => V.2.2.1 (y + 29 + 1 + h) j)) (y + 29 + 1 + s) (5 + 5 * N 4) i (fun j => V.2.2.1 (y + 29 + 1 + o) (5 + j))).2.2.1 (y + 29 + 1 + o) j = V.2.2.1 (y + 29 + 1 + o) j from (rAI_ne (by omega) j).trans (rAI_ne (by omega) j)]; exact oR j hj) oB) cx (dA ddX8_joinTo (i := 25) rfl) (kI ?_)
        refine x_imul (pc := 45) cx (dA ddX8_joinTo (i := 26) rfl) ?_
        rw [nI_cmul]
        refine x_icmp_ge (pc := 46) (tgt := 85) cx (dA ddX8_joinTo (i := 27) rfl) (by decide) (fun c46 => ?_) (fun c46 => ?_)
        · have c46 := cleT (by omega) (by omega) c46
          have ei : i = 5 * M 4 := by omega
          subst ei
          refine x_aload_n (pc := 85) cx (dA ddX8_joinTo (i := 52) rfl) rfl ?_
          refine gX8_45 (pc := 86) (rfA hM.2.2.2.2.2.2.2.2.2.2.2.1.1) cx (dA ddX8_joinTo (i := 53) rfl) h0 ?_
          refine x_iload_n (pc := 89) cx (dA ddX8_joinTo (i := 54) rfl) rfl ?_
          refine x_aaload (pc := 90) cx (dA ddX8_joinTo (i := 55) rfl) hM.2.2.2.2.2.2.2.2.2.2.2.1.2.1 (by decide) (by decide) hs (by decide) ?_
          rw [arA (hM.2.2.2.2.2.2.2.2.2.2.2.1.2.2 s hs).1]
          refine x_iconst (pc := 91) (v := nI 4) cx (dA ddX8_joinTo (i := 56) rfl) (by decide) ?_
          refine x_aload_n (pc := 92) cx (dA ddX8_joinTo (i := 57) rfl) rfl ?_
          refine x_iload_n (pc := 93) cx (dA ddX8_joinTo (i := 58) rfl) rfl ?_
          refine x_V1 (pc := 94) mX8_98 h0 (c_X8_sorts (V := (rAI (rAI V (y + 29 + 1 + s) 0 20 (fun j => V.2.2.1 (y + 29 + 1 + h) j)) (y + 29 + 1 + s) (5 + 5 * N 4) (5 * M 4) (fun j => V.2.2.1 (y + 29 + 1 + o) (5 + j)))) hM hh (show MH (rAI (rAI V (y + 29 + 1 + s) 0 20 (fun j => V.2.2.1 (y + 29 + 1 + h) j)) (y + 29 + 1 + s) (5 + 5 * N 4) (5 * M 4) (fun j => V.2.2.1 (y + 29 + 1 + o) (5 + j))) y h N from fun j hj => by rw [show (rAI (rAI V (y + 29 + 1 + s) 0 20 (fun j => V.2.2.1 (y + 29 + 1 + h) j)) (y + 29 + 1 + s) (5 + 5 * N 4) (5 * M 4) (fun j => V.2.2.1 (y + 29 + 1 + o) (5 + j))).2.2.1 (y + 29 + 1 + h) j = V.2.2.1 (y + 29 + 1 + h) j from (rAI_ne (by omega) j).trans (rAI_ne (by omega) j)]; exact hR j hj) hB) cx (dA ddX8_joinTo (i := 59) rfl) (kI ?_)
          refine x_aload_n (pc := 97) cx (dA ddX8_joinTo (i := 60) rfl) rfl ?_
          refine x_iload_n (pc := 98) cx (dA ddX8_joinTo (i := 61) rfl) rfl ?_
          refine x_V1 (pc := 99) mX8_98 h0 (c_X8_sorts (V := (rAI (rAI V (y + 29 + 1 + s) 0 20 (fun j => V.2.2.1 (y + 29 + 1 + h) j)) (y + 29 + 1 + s) (5 + 5 * N 4) (5 * M 4) (fun j => V.2.2.1 (y + 29 + 1 + o) (5 + j)))) hM ho (show MH (rAI (rAI V (y + 29 + 1 + s) 0 20 (fun j => V.2.2.1 (y + 29 + 1 + h) j)) (y + 29 + 1 + s) (5 + 5 * N 4) (5 * M 4) (fun j => V.2.2.1 (y + 29 + 1 + o) (5 + j))) y o M from fun j hj => by rw [show (rAI (rAI V (y + 29 + 1 + s) 0 20 (fun j => V.2.2.1 (y + 29 + 1 + h) j)) (y + 29 + 1 + s) (5 + 5 * N 4) (5 * M 4) (fun j => V.2.2.1 (y + 29 + 1 + o) (5 + j))).2.2.1 (y + 29 + 1 + o) j = V.2.2.1 (y + 29 + 1 + o) j from (rAI_ne (by omega) j).trans (rAI_ne (by omega) j)]; exact oR j hj) oB) cx (dA ddX8_joinTo (i := 62) rfl) (kI ?_)
          refine x_iadd (pc := 102) cx (dA ddX8_joinTo (i := 63) rfl) ?_
          rw [nI_add]
          refine x_iastore (pc := 103) cx (dA ddX8_joinTo (i := 64) rfl) (hM.2.2.2.2.2.2.2.2.2.2.2.1.2.2 s hs).2 (by decide) (by decide) ?_
          refine x_return (pc := 104) cx (dA ddX8_joinTo (i := 65) rfl) (by first | exact Nat.le_of_ble_eq_true rfl | omega) (by first | exact Nat.le_of_ble_eq_true rfl | omega) ?_
          refine ⟨rfl, rfl, joint_MH h3 (fun j h4 hj => ?_) (fun i hi => ?_) sAI_eq, fun x hx => ((same4.refl V x).rAI hx |>.rAI hx).sAI hx⟩
          · rw [sAI_nj h4]
            exact (rAI_out (by omega)).trans ((rAI_at (by omega)).trans (hR j hj))
          · rw [sAI_nj (by omega)]
            refine (rAI_off (by omega) (by omega)).trans ?_
            rw [show 5 + 5 * N 4 + i - (5 + 5 * N 4) = i by omega]
            exact oR _ (by omega)
        · have c46 := cleF (by omega) (by omega) c46
          refine x_aload_n (pc := 49) cx (dA ddX8_joinTo (i := 28) rfl) rfl ?_
          refine gX8_45 (pc := 50) (rfA hM.2.2.2.2.2.2.2.2.2.2.2.1.1) cx (dA ddX8_joinTo (i := 29) rfl) h0 ?_
          refine x_iload_n (pc := 53) cx (dA ddX8_joinTo (i := 30) rfl) rfl ?_
          refine x_aaload (pc := 54) cx (dA ddX8_joinTo (i := 31) rfl) hM.2.2.2.2.2.2.2.2.2.2.2.1.2.1 (by decide) (by decide) hs (by decide) ?_
          rw [arA (hM.2.2.2.2.2.2.2.2.2.2.2.1.2.2 s hs).1]
          refine x_iconst (pc := 55) (v := nI 5) cx (dA ddX8_joinTo (i := 32) rfl) (by decide) ?_
          refine x_iconst (pc := 56) (v := nI 5) cx (dA ddX8_joinTo (i := 33) rfl) (by decide) ?_
          refine x_aload_n (pc := 57) cx (dA ddX8_joinTo (i := 34) rfl) rfl ?_
          refine x_iload_n (pc := 58) cx (dA ddX8_joinTo (i := 35) rfl) rfl ?_
          refine x_V1 (pc := 59) mX8_98 h0 (c_X8_sorts (V := (rAI (rAI V (y + 29 + 1 + s) 0 20 (fun j => V.2.2.1 (y + 29 + 1 + h) j)) (y + 29 + 1 + s) (5 + 5 * N 4) i (fun j => V.2.2.1 (y + 29 + 1 + o) (5 + j)))) hM hh (show MH (rAI (rAI V (y + 29 + 1 + s) 0 20 (fun j => V.2.2.1 (y + 29 + 1 + h) j)) (y + 29 + 1 + s) (5 + 5 * N 4) i (fun j => V.2.2.1 (y + 29 + 1 + o) (5 + j))) y h N from fun j hj => by rw [show (rAI (rAI V (y + 29 + 1 + s) 0 20 (fun j => V.2.2.1 (y + 29 + 1 + h) j)) (y + 29 + 1 + s) (5 + 5 * N 4) i (fun j => V.2.2.1 (y + 29 + 1 + o) (5 + j))).2.2.1 (y + 29 + 1 + h) j = V.2.2.1 (y + 29 + 1 + h) j from (rAI_ne (by omega) j).trans (rAI_ne (by omega) j)]; exact hR j hj) hB) cx (dA ddX8_joinTo (i := 36) rfl) (kI ?_)
          refine x_imul (pc := 62) cx (dA ddX8_joinTo (i := 37) rfl) ?_
          rw [nI_cmul]
          refine x_iadd (pc := 63) cx (dA ddX8_joinTo (i := 38) rfl) ?_
          rw [nI_add]
          refine x_iload (pc := 64) cx (dA ddX8_joinTo (i := 39) rfl) rfl ?_
          refine x_iadd (pc := 66) cx (dA ddX8_joinTo (i := 40) rfl) ?_
          rw [nI_add]
          refine x_aload_n (pc := 67) cx (dA ddX8_joinTo (i := 41) rfl) rfl ?_
          refine gX8_45 (pc := 68) (rfA hM.2.2.2.2.2.2.2.2.2.2.2.1.1) cx (dA ddX8_joinTo (i := 42) rfl) h0 ?_
          refine x_iload_n (pc := 71) cx (dA ddX8_joinTo (i := 43) rfl) rfl ?_
          refine x_aaload (pc := 72) cx (dA ddX8_joinTo (i := 44) rfl) hM.2.2.2.2.2.2.2.2.2.2.2.1.2.1 (by decide) (by decide) ho (by decide) ?_
          rw [arA (hM.2.2.2.2.2.2.2.2.2.2.2.1.2.2 o ho).1]
          refine x_iconst (pc := 73) (v := nI 5) cx (dA ddX8_joinTo (i := 45) rfl) (by decide) ?_
          refine x_iload (pc := 74) cx (dA ddX8_joinTo (i := 46) rfl) rfl ?_
          refine x_iadd (pc := 76) cx (dA ddX8_joinTo (i := 47) rfl) ?_
          rw [nI_add]
          refine x_iaload (pc := 77) cx (dA ddX8_joinTo (i := 48) rfl) (hM.2.2.2.2.2.2.2.2.2.2.2.1.2.2 o ho).2 (by omega) (by decide) ?_
          refine x_iastore (pc := 78) cx (dA ddX8_joinTo (i := 49) rfl) (hM.2.2.2.2.2.2.2.2.2.2.2.1.2.2 s hs).2 (by omega) (by decide) ?_
          rw [show sAI (rAI (rAI V (y + 29 + 1 + s) 0 20 (fun j => V.2.2.1 (y + 29 + 1 + h) j)) (y + 29 + 1 + s) (5 + 5 * N 4) i (fun j => V.2.2.1 (y + 29 + 1 + o) (5 + j))) (y + 29 + 1 + s) (5 + 5 * N 4 + i) ((rAI (rAI V (y + 29 + 1 + s) 0 20 (fun j => V.2.2.1 (y + 29 + 1 + h) j)) (y + 29 + 1 + s) (5 + 5 * N 4) i (fun j => V.2.2.1 (y + 29 + 1 + o) (5 + j))).2.2.1 (y + 29 + 1 + o) (5 + i)) = (rAI (rAI V (y + 29 + 1 + s) 0 20 (fun j => V.2.2.1 (y + 29 + 1 + h) j)) (y + 29 + 1 + s) (5 + 5 * N 4) (i + 1) (fun j => V.2.2.1 (y + 29 + 1 + o) (5 + j))) from rAI_s _ _ _ _ _ ((rAI_ne (by omega) _).trans (rAI_ne (by omega) _))]
          refine x_iinc (pc := 79) cx (dA ddX8_joinTo (i := 50) rfl) rfl (iinc1 _) (by decide) rfl ?_
          refine x_goto (pc := 82) (tgt := 37) cx (dA ddX8_joinTo (i := 51) rfl) (by decide) ?_
          exact x_enter (ih2 (by omega)) ⟨.inr rfl, .inr rfl, .inr rfl, .inr rfl, .inr rfl, trivial⟩
      have L := L37 0 (Nat.zero_le _)
      rw [show (rAI (rAI V (y + 29 + 1 + s) 0 20 (fun j => V.2.2.1 (y + 29 + 1 + h) j)) (y + 29 + 1 + s) (5 + 5 * N 4) 0 (fun j => V.2.2.1 (y + 29 + 1 + o) (5 + j))) = (rAI V (y + 29 + 1 + s) 0 20 (fun j => V.2.2.1 (y + 29 + 1 + h) j)) from rAI_0 _ _ _ _] at L
      exact x_enter L ⟨.inr rfl, .inr rfl, .inr rfl, .inr rfl, .inr rfl, trivial⟩
    · have c7 := cleF (by omega) (by omega) c7
      refine x_aload_n (pc := 10) cx (dA ddX8_joinTo (i := 5) rfl) rfl ?_
      refine gX8_45 (pc := 11) (rfA hM.2.2.2.2.2.2.2.2.2.2.2.1.1) cx (dA ddX8_joinTo (i := 6) rfl) h0 ?_
      refine x_iload_n (pc := 14) cx (dA ddX8_joinTo (i := 7) rfl) rfl ?_
      refine x_aaload (pc := 15) cx (dA ddX8_joinTo (i := 8) rfl) hM.2.2.2.2.2.2.2.2.2.2.2.1.2.1 (by decide) (by decide) hs (by decide) ?_
      rw [arA (hM.2.2.2.2.2.2.2.2.2.2.2.1.2.2 s hs).1]
      refine x_iload (pc := 16) cx (dA ddX8_joinTo (i := 9) rfl) rfl ?_
      refine x_aload_n (pc := 18) cx (dA ddX8_joinTo (i := 10) rfl) rfl ?_
      refine gX8_45 (pc := 19) (rfA hM.2.2.2.2.2.2.2.2.2.2.2.1.1) cx (dA ddX8_joinTo (i := 11) rfl) h0 ?_
      refine x_iload_n (pc := 22) cx (dA ddX8_joinTo (i := 12) rfl) rfl ?_
      refine x_aaload (pc := 23) cx (dA ddX8_joinTo (i := 13) rfl) hM.2.2.2.2.2.2.2.2.2.2.2.1.2.1 (by decide) (by decide) hh (by decide) ?_
      rw [arA (hM.2.2.2.2.2.2.2.2.2.2.2.1.2.2 h hh).1]
      refine x_iload (pc := 24) cx (dA ddX8_joinTo (i := 14) rfl) rfl ?_
      refine x_iaload (pc := 26) cx (dA ddX8_joinTo (i := 15) rfl) (hM.2.2.2.2.2.2.2.2.2.2.2.1.2.2 h hh).2 (by omega) (by decide) ?_
      refine x_iastore (pc := 27) cx (dA ddX8_joinTo (i := 16) rfl) (hM.2.2.2.2.2.2.2.2.2.2.2.1.2.2 s hs).2 (by omega) (by decide) ?_
      rw [show sAI (rAI V (y + 29 + 1 + s) 0 i (fun j => V.2.2.1 (y + 29 + 1 + h) j)) (y + 29 + 1 + s) i ((rAI V (y + 29 + 1 + s) 0 i (fun j => V.2.2.1 (y + 29 + 1 + h) j)).2.2.1 (y + 29 + 1 + h) i) = (rAI V (y + 29 + 1 + s) 0 (i + 1) (fun j => V.2.2.1 (y + 29 + 1 + h) j)) from rAI_s0 _ _ _ _ (rAI_ne (by omega) i)]
      refine x_iinc (pc := 28) cx (dA ddX8_joinTo (i := 17) rfl) rfl (iinc1 _) (by decide) rfl ?_
      refine x_goto (pc := 31) (tgt := 3) cx (dA ddX8_joinTo (i := 18) rfl) (by decide) ?_
      exact x_enter (ih (by omega)) ⟨.inr rfl, .inr rfl, .inr rfl, .inr rfl, .inr rfl, trivial⟩
  have L := L3 0 (Nat.zero_le _)
  rw [show (rAI V (y + 29 + 1 + s) 0 0 (fun j => V.2.2.1 (y + 29 + 1 + h) j)) = V from rAI_0 _ _ _ _] at L
  exact x_enter L ⟨.inr rfl, .inr rfl, .inr rfl, .inr rfl, .inr rfl, trivial⟩
theorem c_X8_mayBy {l : Launch} {Z : zP} {G : zG} {V : zV} {κ x : Int32} (h1 : 1 ≤ κ.toInt) (h5 : κ.toInt ≤ 5) : CT l Z yX8_mayBy cX8_mayBy 2 (some .boolean) 1 0 0 [.int κ, .int x] G V (pI (b2i (mayP κ x)) G V) := by
  refine CT.of (by decide +kernel) (Nat.le_of_ble_eq_true rfl) (fun X hX cx => ?_)
  subst hX
  show Wm Z X 2 G V 0 0 _ 0 [(0, some (.int κ)), (1, some (.int x))] []
  refine x_iload_n (pc := 0) cx (dA ddX8_mayBy (i := 0) rfl) rfl ?_
  by_cases c1_0 : κ = 1
  · refine x_tabIn (pc := 1) (v := 1) (tgt := 32) cx (dA ddX8_mayBy (i := 1) rfl) (by rw [c1_0]; decide) (by decide) (by decide) rfl (by decide) ?_
    refine x_iload_n (pc := 32) cx (dA ddX8_mayBy (i := 2) rfl) rfl ?_
    refine x_i2l (pc := 33) cx (dA ddX8_mayBy (i := 3) rfl) ?_
    refine x_lconst (pc := 34) (v := lN 0) cx (dA ddX8_mayBy (i := 4) rfl) rfl ?_
    refine x_ldc2 (pc := 35) cx klX8_126 (dA ddX8_mayBy (i := 5) rfl) ?_
    refine x_S3 (pc := 38) mX8_94 c_X8_in cx (dA ddX8_mayBy (i := 6) rfl) (kI ?_)
    rw [show (lN 0).toInt = 0 from rfl, show (lN 99).toInt = 99 from rfl, tl_toInt]
    refine x_zreturn (pc := 41) cx (dA ddX8_mayBy (i := 7) rfl) (by first | exact Nat.le_of_ble_eq_true rfl | omega) (by first | exact Nat.le_of_ble_eq_true rfl | omega) b2i_nar ?_
    have kv : κ.toInt = 1 := by rw [c1_0]; rfl
    refine rI (b2i_congr ?_)
    unfold mayP
    omega
  by_cases c1_1 : κ = 2
  · refine x_tabIn (pc := 1) (v := 2) (tgt := 42) cx (dA ddX8_mayBy (i := 1) rfl) (by rw [c1_1]; decide) (by decide) (by decide) rfl (by decide) ?_
    refine x_iload_n (pc := 42) cx (dA ddX8_mayBy (i := 8) rfl) rfl ?_
    refine x_i2l (pc := 43) cx (dA ddX8_mayBy (i := 9) rfl) ?_
    refine x_lconst (pc := 44) (v := lN 1) cx (dA ddX8_mayBy (i := 10) rfl) rfl ?_
    refine x_ldc2 (pc := 45) cx klX8_128 (dA ddX8_mayBy (i := 11) rfl) ?_
    refine x_S3 (pc := 48) mX8_94 c_X8_in cx (dA ddX8_mayBy (i := 12) rfl) (kI ?_)
    rw [show (lN 1).toInt = 1 from rfl, show (lN 6).toInt = 6 from rfl, tl_toInt]
    refine x_zreturn (pc := 51) cx (dA ddX8_mayBy (i := 13) rfl) (by first | exact Nat.le_of_ble_eq_true rfl | omega) (by first | exact Nat.le_of_ble_eq_true rfl | omega) b2i_nar ?_
    have kv : κ.toInt = 2 := by rw [c1_1]; rfl
    refine rI (b2i_congr ?_)
    unfold mayP
    omega
  by_cases c1_2 : κ = 3
  · refine x_tabIn (pc := 1) (v := 3) (tgt := 52) cx (dA ddX8_mayBy (i := 1) rfl) (by rw [c1_2]; decide) (by decide) (by decide) rfl (by decide) ?_
    refine x_iload_n (pc := 52) cx (dA ddX8_mayBy (i := 14) rfl) rfl ?_
    refine x_if_lt (pc := 53) (tgt := 90) cx (dA ddX8_mayBy (i := 15) rfl) (by decide) (fun c53 => ?_) (fun c53 => ?_)
    · rw [i32_lt, toI_0] at c53
      refine x_iconst (pc := 90) (v := nI 0) cx (dA ddX8_mayBy (i := 34) rfl) (by decide) ?_
      refine x_zreturn (pc := 91) cx (dA ddX8_mayBy (i := 35) rfl) (by first | exact Nat.le_of_ble_eq_true rfl | omega) (by first | exact Nat.le_of_ble_eq_true rfl | omega) rfl ?_
      have kv : κ.toInt = 3 := by rw [c1_2]; rfl
      refine rI ?_
      first | exact (b2i_t (by unfold mayP; omega)).symm | exact (b2i_f (by unfold mayP; omega)).symm
    · obtain ⟨n, hn, rfl⟩ := i32_nat c53
      refine x_iload_n (pc := 56) cx (dA ddX8_mayBy (i := 16) rfl) rfl ?_
      refine x_bipush (pc := 57) (v := nI 10) cx (dA ddX8_mayBy (i := 17) rfl) (by decide) ?_
      refine x_idiv (pc := 59) cx (by decide) (dA ddX8_mayBy (i := 18) rfl) ?_
      rw [div32 (by omega) (by omega) (by omega)]
      refine x_i2l (pc := 60) cx (dA ddX8_mayBy (i := 19) rfl) ?_
      refine x_lconst (pc := 61) (v := lN 0) cx (dA ddX8_mayBy (i := 20) rfl) rfl ?_
      refine x_ldc2 (pc := 62) cx klX8_126 (dA ddX8_mayBy (i := 21) rfl) ?_
      refine x_S3 (pc := 65) mX8_94 c_X8_in cx (dA ddX8_mayBy (i := 22) rfl) (kI ?_)
      rw [show (lN 0).toInt = 0 from rfl, show (lN 99).toInt = 99 from rfl, tl_toInt]
      refine x_if_eq (pc := 68) (tgt := 90) cx (dA ddX8_mayBy (i := 23) rfl) (by decide) (fun c68 => ?_) (fun c68 => ?_)
      · have c68 := b2i_eq c68
        rw [nI_toInt (by omega)] at c68
        refine x_iconst (pc := 90) (v := nI 0) cx (dA ddX8_mayBy (i := 34) rfl) (by decide) ?_
        refine x_zreturn (pc := 91) cx (dA ddX8_mayBy (i := 35) rfl) (by first | exact Nat.le_of_ble_eq_true rfl | omega) (by first | exact Nat.le_of_ble_eq_true rfl | omega) rfl ?_
        have kv : κ.toInt = 3 := by rw [c1_2]; rfl
        have en : (nI n).toInt = n := nI_toInt hn
        refine rI ?_
        first | exact (b2i_t (by unfold mayP; omega)).symm | exact (b2i_f (by unfold mayP; omega)).symm
      · have c68 := b2i_ne c68
        rw [nI_toInt (by omega)] at c68
        refine x_iload_n (pc := 71) cx (dA ddX8_mayBy (i := 24) rfl) rfl ?_
        refine x_bipush (pc := 72) (v := nI 10) cx (dA ddX8_mayBy (i := 25) rfl) (by decide) ?_
        refine x_irem (pc := 74) cx (by decide) (dA ddX8_mayBy (i := 26) rfl) ?_
        rw [rem32 (by omega) (by omega) (by omega)]
        refine x_i2l (pc := 75) cx (dA ddX8_mayBy (i := 27) rfl) ?_
        refine x_lconst (pc := 76) (v := lN 1) cx (dA ddX8_mayBy (i := 28) rfl) rfl ?_
        refine x_ldc2 (pc := 77) cx klX8_128 (dA ddX8_mayBy (i := 29) rfl) ?_
        refine x_S3 (pc := 80) mX8_94 c_X8_in cx (dA ddX8_mayBy (i := 30) rfl) (kI ?_)
        rw [show (lN 1).toInt = 1 from rfl, show (lN 6).toInt = 6 from rfl, tl_toInt]
        refine x_if_eq (pc := 83) (tgt := 90) cx (dA ddX8_mayBy (i := 31) rfl) (by decide) (fun c83 => ?_) (fun c83 => ?_)
        · have c83 := b2i_eq c83
          rw [nI_toInt (by omega)] at c83
          refine x_iconst (pc := 90) (v := nI 0) cx (dA ddX8_mayBy (i := 34) rfl) (by decide) ?_
          refine x_zreturn (pc := 91) cx (dA ddX8_mayBy (i := 35) rfl) (by first | exact Nat.le_of_ble_eq_true rfl | omega) (by first | exact Nat.le_of_ble_eq_true rfl | omega) rfl ?_
          have kv : κ.toInt = 3 := by rw [c1_2]; rfl
          have en : (nI n).toInt = n := nI_toInt hn
          refine rI ?_
          first | exact (b2i_t (by unfold mayP; omega)).symm | exact (b2i_f (by unfold mayP; omega)).symm
        · have c83 := b2i_ne c83
          rw [nI_toInt (by omega)] at c83
          refine x_iconst (pc := 86) (v := nI 1) cx (dA ddX8_mayBy (i := 32) rfl) (by decide) ?_
          refine x_goto (pc := 87) (tgt := 91) cx (dA ddX8_mayBy (i := 33) rfl) (by decide) ?_
          refine x_zreturn (pc := 91) cx (dA ddX8_mayBy (i := 35) rfl) (by first | exact Nat.le_of_ble_eq_true rfl | omega) (by first | exact Nat.le_of_ble_eq_true rfl | omega) rfl ?_
          have kv : κ.toInt = 3 := by rw [c1_2]; rfl
          have en : (nI n).toInt = n := nI_toInt hn
          refine rI ?_
          first | exact (b2i_t (by unfold mayP; omega)).symm | exact (b2i_f (by unfold mayP; omega)).symm
  by_cases c1_3 : κ = 4
  · refine x_tabIn (pc := 1) (v := 4) (tgt := 92) cx (dA ddX8_mayBy (i := 1) rfl) (by rw [c1_3]; decide) (by decide) (by decide) rfl (by decide) ?_
    refine x_iconst (pc := 92) (v := nI 1) cx (dA ddX8_mayBy (i := 36) rfl) (by decide) ?_
    refine x_zreturn (pc := 93) cx (dA ddX8_mayBy (i := 37) rfl) (by first | exact Nat.le_of_ble_eq_true rfl | omega) (by first | exact Nat.le_of_ble_eq_true rfl | omega) rfl ?_
    have kv : κ.toInt = 4 := by rw [c1_3]; rfl
    refine rI ?_
    first | exact (b2i_t (by unfold mayP; omega)).symm | exact (b2i_f (by unfold mayP; omega)).symm
  refine x_tabOut (pc := 1) (tgt := 94) cx (dA ddX8_mayBy (i := 1) rfl) (by have t0 := lv_neT (a := 1) c1_0 (by decide); have t1 := lv_neT (a := 2) c1_1 (by decide); have t2 := lv_neT (a := 3) c1_2 (by decide); have t3 := lv_neT (a := 4) c1_3 (by decide); omega) (by decide) ?_
  refine x_iload_n (pc := 94) cx (dA ddX8_mayBy (i := 38) rfl) rfl ?_
  refine x_i2l (pc := 95) cx (dA ddX8_mayBy (i := 39) rfl) ?_
  refine x_lconst (pc := 96) (v := lN 0) cx (dA ddX8_mayBy (i := 40) rfl) rfl ?_
  refine x_ldc2 (pc := 97) cx klX8_113 (dA ddX8_mayBy (i := 41) rfl) ?_
  refine x_S3 (pc := 100) mX8_94 c_X8_in cx (dA ddX8_mayBy (i := 42) rfl) (kI ?_)
  rw [show (lN 0).toInt = 0 from rfl, show (lN 7).toInt = 7 from rfl, tl_toInt]
  refine x_zreturn (pc := 103) cx (dA ddX8_mayBy (i := 43) rfl) (by first | exact Nat.le_of_ble_eq_true rfl | omega) (by first | exact Nat.le_of_ble_eq_true rfl | omega) b2i_nar ?_
  have kv : κ.toInt = 5 := by have t0 := lv_neT (a := 1) c1_0 (by decide); have t1 := lv_neT (a := 2) c1_1 (by decide); have t2 := lv_neT (a := 3) c1_2 (by decide); have t3 := lv_neT (a := 4) c1_3 (by decide); omega
  refine rI (b2i_congr ?_)
  unfold mayP
  omega
theorem c_X8_fit {l : Launch} {Z : zP} {G : zG} {V : zV} {t : Nat} (h5 : t < 5) {v : Int64} : CT l Z yX8_fit cX8_fit 3 (some .long) 0 0 0 [.int (nI t), .long v] G V (pJ (lowP t v) G V) := by
  refine CT.of (by decide +kernel) (Nat.le_of_ble_eq_true rfl) (fun X hX cx => ?_)
  subst hX
  show Wm Z X 3 G V 0 0 _ 0 [(0, some (.int (nI t))), (1, some (.long v))] []
  refine x_iload_n (pc := 0) cx (dA ddX8_fit (i := 0) rfl) rfl ?_
  by_cases c1_0 : nI t = 0
  · refine x_tabIn (pc := 1) (v := 0) (tgt := 32) cx (dA ddX8_fit (i := 1) rfl) (by rw [c1_0]; decide) (by decide) (by decide) rfl (by decide) ?_
    refine x_lload_n (pc := 32) cx (dA ddX8_fit (i := 2) rfl) rfl ?_
    refine x_l2i (pc := 33) cx (dA ddX8_fit (i := 3) rfl) ?_
    refine x_i2b (pc := 34) cx (dA ddX8_fit (i := 4) rfl) ?_
    refine x_i2l (pc := 35) cx (dA ddX8_fit (i := 5) rfl) ?_
    refine x_lreturn (pc := 36) cx (dA ddX8_fit (i := 6) rfl) (by first | exact Nat.le_of_ble_eq_true rfl | omega) (by first | exact Nat.le_of_ble_eq_true rfl | omega) ?_
    have e : t = 0 := nI_inj (by omega) (by omega) c1_0
    subst e
    exact rJ rfl
  by_cases c1_1 : nI t = 1
  · refine x_tabIn (pc := 1) (v := 1) (tgt := 37) cx (dA ddX8_fit (i := 1) rfl) (by rw [c1_1]; decide) (by decide) (by decide) rfl (by decide) ?_
    refine x_lload_n (pc := 37) cx (dA ddX8_fit (i := 7) rfl) rfl ?_
    refine x_l2i (pc := 38) cx (dA ddX8_fit (i := 8) rfl) ?_
    refine x_i2s (pc := 39) cx (dA ddX8_fit (i := 9) rfl) ?_
    refine x_i2l (pc := 40) cx (dA ddX8_fit (i := 10) rfl) ?_
    refine x_lreturn (pc := 41) cx (dA ddX8_fit (i := 11) rfl) (by first | exact Nat.le_of_ble_eq_true rfl | omega) (by first | exact Nat.le_of_ble_eq_true rfl | omega) ?_
    have e : t = 1 := nI_inj (by omega) (by omega) c1_1
    subst e
    exact rJ rfl
  by_cases c1_2 : nI t = 2
  · refine x_tabIn (pc := 1) (v := 2) (tgt := 42) cx (dA ddX8_fit (i := 1) rfl) (by rw [c1_2]; decide) (by decide) (by decide) rfl (by decide) ?_
    refine x_lload_n (pc := 42) cx (dA ddX8_fit (i := 12) rfl) rfl ?_
    refine x_l2i (pc := 43) cx (dA ddX8_fit (i := 13) rfl) ?_
    refine x_i2l (pc := 44) cx (dA ddX8_fit (i := 14) rfl) ?_
    refine x_lreturn (pc := 45) cx (dA ddX8_fit (i := 15) rfl) (by first | exact Nat.le_of_ble_eq_true rfl | omega) (by first | exact Nat.le_of_ble_eq_true rfl | omega) ?_
    have e : t = 2 := nI_inj (by omega) (by omega) c1_2
    subst e
    exact rJ rfl
  by_cases c1_3 : nI t = 3
  · refine x_tabIn (pc := 1) (v := 3) (tgt := 46) cx (dA ddX8_fit (i := 1) rfl) (by rw [c1_3]; decide) (by decide) (by decide) rfl (by decide) ?_
    refine x_lload_n (pc := 46) cx (dA ddX8_fit (i := 16) rfl) rfl ?_
    refine x_lreturn (pc := 47) cx (dA ddX8_fit (i := 17) rfl) (by first | exact Nat.le_of_ble_eq_true rfl | omega) (by first | exact Nat.le_of_ble_eq_true rfl | omega) ?_
    have e : t = 3 := nI_inj (by omega) (by omega) c1_3
    subst e
    exact rJ rfl
  refine x_tabOut (pc := 1) (tgt := 48) cx (dA ddX8_fit (i := 1) rfl) (by have t0 := lv_neT (a := 0) c1_0 (by decide); have t1 := lv_neT (a := 1) c1_1 (by decide); have t2 := lv_neT (a := 2) c1_2 (by decide); have t3 := lv_neT (a := 3) c1_3 (by decide); omega) (by decide) ?_
  refine x_lload_n (pc := 48) cx (dA ddX8_fit (i := 18) rfl) rfl ?_
  refine x_lconst (pc := 49) (v := lN 0) cx (dA ddX8_fit (i := 19) rfl) rfl ?_
  refine x_lc_eq (pc := 50) (tgt := 58) cx (dA ddX8_fit (i := 20) rfl) (dA ddX8_fit (i := 21) rfl) (by decide) (fun c50 => ?_) (fun c50 => ?_)
  · refine x_lconst (pc := 58) (v := lN 0) cx (dA ddX8_fit (i := 24) rfl) rfl ?_
    refine x_lreturn (pc := 59) cx (dA ddX8_fit (i := 25) rfl) (by first | exact Nat.le_of_ble_eq_true rfl | omega) (by first | exact Nat.le_of_ble_eq_true rfl | omega) ?_
    have e : t = 4 := by
      rcases (show t = 0 ∨ t = 1 ∨ t = 2 ∨ t = 3 ∨ t = 4 by omega) with h | h | h | h | h
      exact absurd (by rw [h]; rfl) c1_0
      exact absurd (by rw [h]; rfl) c1_1
      exact absurd (by rw [h]; rfl) c1_2
      exact absurd (by rw [h]; rfl) c1_3
      exact h
    subst e
    refine rJ ?_
    unfold lowP
    first | exact (if_pos c50).symm | exact (if_neg c50).symm
  · refine x_lconst (pc := 54) (v := lN 1) cx (dA ddX8_fit (i := 22) rfl) rfl ?_
    refine x_goto (pc := 55) (tgt := 59) cx (dA ddX8_fit (i := 23) rfl) (by decide) ?_
    refine x_lreturn (pc := 59) cx (dA ddX8_fit (i := 25) rfl) (by first | exact Nat.le_of_ble_eq_true rfl | omega) (by first | exact Nat.le_of_ble_eq_true rfl | omega) ?_
    have e : t = 4 := by
      rcases (show t = 0 ∨ t = 1 ∨ t = 2 ∨ t = 3 ∨ t = 4 by omega) with h | h | h | h | h
      exact absurd (by rw [h]; rfl) c1_0
      exact absurd (by rw [h]; rfl) c1_1
      exact absurd (by rw [h]; rfl) c1_2
      exact absurd (by rw [h]; rfl) c1_3
      exact h
    subst e
    refine rJ ?_
    unfold lowP
    first | exact (if_pos c50).symm | exact (if_neg c50).symm
