theorem iincM {a : Nat} (h : 1 ≤ a) : nI a + Int32.ofInt (-1) = nI (a - 1) := by
  rw [← pk_sub h, Int32.sub_eq_add_neg]
  rfl
def fcB (V V1 : zV) (y : Nat) (N : Nat → Nat) : Prop := SameB V V1 (y + 39) (y + 94) ∧ ∀ d, 1 ≤ d → d ≤ N 0 → ∀ s, s < 5 ^ N 4 → V1.2.2.1 (y + 47 + 1 + d) s = nI (ldP N d s)
def fzI (V V1 : zV) (y : Nat) (N : Nat → Nat) (D : Nat) : Prop := fcB V V1 y N ∧ ∀ e, e < D → ∀ t, t < 125 → V1.2.2.2 (y + 86 + 1 + e) t = lN 0
def zJ (V : zV) (y D n : Nat) : zV := rAJ V (y + 86 + 1 + D) 0 n (fun _ => lN 0)
/-- chances of i days are found, the rest are none -/
def fcI (V V1 : zV) (y : Nat) (N : Nat → Nat) (L : Nat → Nat → Nat) (i : Nat) : Prop := fcB V V1 y N ∧ (∀ j, j ≤ i → ∀ t, t < 5 ^ N 4 → V1.2.2.2 (y + 86 + 1 + (N 0 - j)) t = lN (chP N L j t)) ∧ ∀ e, e < N 0 - i → ∀ t, t < 5 ^ N 4 → V1.2.2.2 (y + 86 + 1 + e) t = lN 0
def fcG (N : Nat → Nat) (L : Nat → Nat → Nat) (i s t : Nat) : Nat := sumN s (fun u => chP N L i u * (N 3 * gsM N u t + (4 - N 3) * gsM N (u - L (N 0 - i) u) t))
def fcJ (V V1 : zV) (y : Nat) (N : Nat → Nat) (L : Nat → Nat → Nat) (i s : Nat) : Prop := fcB V V1 y N ∧ (∀ j, j ≤ i → ∀ t, t < 5 ^ N 4 → V1.2.2.2 (y + 86 + 1 + (N 0 - j)) t = lN (chP N L j t)) ∧ (∀ e, e < N 0 - (i + 1) → ∀ t, t < 5 ^ N 4 → V1.2.2.2 (y + 86 + 1 + e) t = lN 0) ∧ ∀ t, t < 5 ^ N 4 → V1.2.2.2 (y + 86 + 1 + (N 0 - (i + 1))) t = lN (fcG N L i s t)
theorem fcJ_0 {V V1 : zV} {y i : Nat} {N : Nat → Nat} {L : Nat → Nat → Nat} (hi : i < N 0) (h : fcI V V1 y N L i) : fcJ V V1 y N L i 0 := ⟨h.1, h.2.1, fun e he => h.2.2 e (by omega), fun t ht => h.2.2 _ (by omega) t ht⟩
theorem fcJ_n {V V1 : zV} {y i s : Nat} {N : Nat → Nat} {L : Nat → Nat → Nat} (hc : chP N L i s = 0) (h : fcJ V V1 y N L i s) : fcJ V V1 y N L i (s + 1) := ⟨h.1, h.2.1, h.2.2.1, fun t ht => by
  rw [h.2.2.2 t ht]
  show _ = lN (fcG N L i s t + chP N L i s * _)
  rw [hc, Nat.zero_mul, Nat.add_zero]⟩
theorem fcJ_g {V V1 V2 V3 : zV} {y i s : Nat} {N : Nat → Nat} {L : Nat → Nat → Nat} (hi : i < N 0) (h06 : N 0 ≤ 6) (h : fcJ V V1 y N L i s) (h1 : goI V1 V2 (y + 86 + 1 + (N 0 - (i + 1))) N (fcG N L i s) (chP N L i s * N 3) s (2 ^ N 4)) (h2 : goI V2 V3 (y + 86 + 1 + (N 0 - (i + 1))) N (fun t => fcG N L i s t + chP N L i s * N 3 * gsI N s (2 ^ N 4) t) (chP N L i s * (4 - N 3)) (s - L (N 0 - i) s) (2 ^ N 4)) : fcJ V V3 y N L i (s + 1) := by
  have hs : ∀ x, x ≠ y + 86 + 1 + (N 0 - (i + 1)) → same4 V1 V3 x := fun x hx => (h1.1 x hx).trans (h2.1 x hx)
  refine ⟨⟨fun x hx => same4.trans (h.1.1 x hx) (hs x (by omega)), fun d a b s hs' => ((hs _ (by omega)).2.2.1 s).trans (h.1.2 d a b s hs')⟩, fun j hj t ht => ((hs _ (by omega)).2.2.2 t).trans (h.2.1 j hj t ht), fun e he t ht => ((hs _ (by omega)).2.2.2 t).trans (h.2.2.1 e he t ht), fun t ht => ?_⟩
  rw [h2.2.2 t ht]
  show _ = lN (fcG N L i s t + chP N L i s * (N 3 * gsM N s t + (4 - N 3) * gsM N (s - L (N 0 - i) s) t))
  rw [Nat.mul_add, ← Nat.mul_assoc, ← Nat.mul_assoc, ← Nat.add_assoc]
  rfl
theorem fcI_s {V V1 : zV} {y i : Nat} {N : Nat → Nat} (hN : HOK N) {L : Nat → Nat → Nat} (hi : i < N 0) (hL : ∀ s, s < 5 ^ N 4 → L (N 0 - i) s ≤ s) (h : fcJ V V1 y N L i (5 ^ N 4)) : fcI V V1 y N L (i + 1) := by
  refine ⟨h.1, fun j hj t ht => ?_, h.2.2.1⟩
  by_cases q : j = i + 1
  · subst q
    rw [h.2.2.2 t ht, chP_s hN hL ht]
    rfl
  · exact h.2.1 j (by omega) t ht
theorem fzI_s {V V1 : zV} {y D : Nat} {N : Nat → Nat} (hD : D < 7) (h : fzI V V1 y N D) : fzI V (zJ V1 y D 125) y N (D + 1) := by
  refine ⟨⟨h.1.1.rAJ (by omega) (by omega), h.1.2⟩, fun e he t ht => ?_⟩
  by_cases q : e = D
  · subst q; exact rAJ_at ht
  · exact (rAJ_ne (by omega) t).trans (h.2 e (by omega) t ht)
theorem fcI_0 {V V1 : zV} {y : Nat} {N : Nat → Nat} {L : Nat → Nat → Nat} (h4 : N 4 ≤ 3) (h06 : N 0 ≤ 6) (h : fzI V V1 y N (N 0 + 1)) : fcI V (sAJ V1 (y + 86 + 1 + N 0) 0 (lN 1)) y N L 0 := by
  have n125 := st125 h4
  refine ⟨⟨h.1.1.sAJ (by omega) (by omega), h.1.2⟩, fun j hj t ht => ?_, fun e he t ht => (sAJ_ne (by omega)).trans (h.2 e (by omega) t (by omega))⟩
  have j0 : j = 0 := by omega
  subst j0
  show (sAJ V1 (y + 86 + 1 + N 0) 0 (lN 1)).2.2.2 (y + 86 + 1 + N 0) t = lN (if t = 0 then 1 else 0)
  by_cases q : t = 0
  · subst q; exact sAJ_eq
  · rw [sAJ_nj q, if_neg q]; exact h.2 _ (by omega) t (by omega)
theorem fcB_of {V V2 : zV} {y : Nat} {N : Nat → Nat} (h : fbI V V2 y N 0 (N 0 + 1)) : fcB V V2 y N := ⟨fun x hx => h.1 x (by omega), fun d h1 hd s hs => ((h.2.2 d (by omega) s hs).2).trans (by rw [mlM_ld h1])⟩
theorem hmu_0 {x : Int32} (h : x = -1) : ∀ d, 1 ≤ d → d ≤ 6 → (nI d = x ↔ d = 0) := fun d h1 h6 => ⟨fun e => by rw [h] at e; have e2 := congrArg Int32.toInt e; rw [nI_toInt (by omega)] at e2; have e3 : (-1 : Int32).toInt = -1 := rfl; omega, fun e => by omega⟩
theorem MF.go {V V1 : zV} {y a w s c : Nat} {N g : Nat → Nat} (hI : goI V V1 a N g w s c) (h1 : y + 39 ≤ a) (h2 : a < y + 94) : MF V V1 y := ⟨fun x _ _ _ hx => hI.1 x (by omega), fun i _ => (hI.1 y (by omega)).1 i, fun j _ => ⟨(hI.1 _ (by omega)).2.2.1 j, (hI.1 _ (by omega)).2.2.1 j⟩⟩
theorem c_X8_findChances {l : Launch} {Z : zP} {G : zG} {V : zV} {y : Nat} (hM : ModelAt Z G y) {h : Nat} (hh : h < 8) {N : Nat → Nat} (hR : MH V y h N) (hB : HouseB N) (hN : HOK N) (hmu : V.1 439 y = -1) {r κ b m : Nat} {rf : Nat → Bool} (hr : r < 9) (hR5 : MRule V y r κ b m rf) : CT l Z yX8_findChances cX8_findChances 8 none 5 0 0 [.ref y, .int (nI h), .int (nI r)] G V (pVx G (fun V' => fcI V V' y N (fun d => ruL N κ b m rf d) (N 0))) := by
  refine CT.of (by decide +kernel) (Nat.le_of_ble_eq_true rfl) (fun X hX cx => ?_)
  subst hX
  show Wm Z X 8 G V 0 0 _ 0 [(0, some (.ref y)), (1, some (.int (nI h))), (2, some (.int (nI r)))] []
  have h0 := hM.1
  have b4 := hB.1
  have n125 := st125 b4
  have h06 := hN.2.1
  have hL : ∀ d, 1 ≤ d → d ≤ 6 → ∀ s, s < 5 ^ N 4 → (fun d => ruL N κ b m rf d) d s ≤ s := fun d h1 h6 s hs => ruL_le hN h1 h6 hs
  refine x_aload_n (pc := 0) cx (dA ddX8_findChances (i := 0) rfl) rfl ?_
  refine x_iload_n (pc := 1) cx (dA ddX8_findChances (i := 1) rfl) rfl ?_
  refine x_V1 (pc := 2) mX8_264 h0 (c_X8_findBest hM hh hR hB hN (mu := 0) (hmu_0 hmu)) cx (dA ddX8_findChances (i := 2) rfl) (kVx fun V2 hF => ?_)
  refine x_aload_n (pc := 5) cx (dA ddX8_findChances (i := 3) rfl) rfl ?_
  refine gX8_45 (pc := 6) (rfA hM.2.2.2.2.2.2.2.2.2.2.2.1.1) cx (dA ddX8_findChances (i := 4) rfl) h0 ?_
  refine x_iload_n (pc := 9) cx (dA ddX8_findChances (i := 5) rfl) rfl ?_
  refine x_aaload (pc := 10) cx (dA ddX8_findChances (i := 6) rfl) hM.2.2.2.2.2.2.2.2.2.2.2.1.2.1 (by decide) (by decide) hh (by decide) ?_
  rw [arA (hM.2.2.2.2.2.2.2.2.2.2.2.1.2.2 h hh).1]
  refine x_iconst (pc := 11) (v := nI 0) cx (dA ddX8_findChances (i := 7) rfl) (by decide) ?_
  refine x_iaload (pc := 12) cx (dA ddX8_findChances (i := 8) rfl) (hM.2.2.2.2.2.2.2.2.2.2.2.1.2.2 h hh).2 (by decide) (by decide) ?_
  rw [hR.same39 hh hF.1 0 (by omega)]
  refine x_istore_n (pc := 13) cx (dA ddX8_findChances (i := 9) rfl) (by decide) rfl ?_
  refine x_iconst (pc := 14) (v := nI 0) cx (dA ddX8_findChances (i := 10) rfl) (by decide) ?_
  refine x_istore (pc := 15) cx (dA ddX8_findChances (i := 11) rfl) (by decide) rfl ?_
  have L17 : ∀ D, D ≤ N 0 + 1 → ∀ V3, fzI V V3 y N D → Wm Z X 8 G V3 0 0 (rQ Z X 0 0 (pVx G (fun V' => fcI V V' y N (fun d => ruL N κ b m rf d) (N 0)))) 17 [(0, some (.ref y)), (1, some (.int (nI h))), (2, some (.int (nI r))), (3, some (.int (nI (N 0)))), (4, some (.int (nI D)))] [] := by
    refine lpU (N 0 + 1) (fun D hD ih => ?_)
    intro V3 hz
    refine x_iload (pc := 17) cx (dA ddX8_findChances (i := 12) rfl) rfl ?_
    refine x_iload_n (pc := 19) cx (dA ddX8_findChances (i := 13) rfl) rfl ?_
    refine x_icmp_gt (pc := 20) (tgt := 56) cx (dA ddX8_findChances (i := 14) rfl) (by decide) (fun c20 => ?_) (fun c20 => ?_)
    · have c20 := cltT (by omega) (by omega) c20
      have eD : D = N 0 + 1 := by omega
      subst eD
      refine x_aload_n (pc := 56) cx (dA ddX8_findChances (i := 31) rfl) rfl ?_
      refine gX8_85 (pc := 57) (rfA hM.2.2.2.2.2.2.2.2.2.2.2.2.2.2.2.2.2.2.2.2.2.2.2.1) cx (dA ddX8_findChances (i := 32) rfl) h0 ?_
      refine x_iload_n (pc := 60) cx (dA ddX8_findChances (i := 33) rfl) rfl ?_
      refine x_aaload (pc := 61) cx (dA ddX8_findChances (i := 34) rfl) hM.2.2.2.2.2.2.2.2.2.2.2.2.2.2.2.2.2.2.2.2.2.2.2.2.1 (by decide) (by decide) (by omega) (by decide) ?_
      rw [arA (hM.2.2.2.2.2.2.2.2.2.2.2.2.2.2.2.2.2.2.2.2.2.2.2.2.2 (N 0) (by omega)).1]
      refine x_iconst (pc := 62) (v := nI 0) cx (dA ddX8_findChances (i := 35) rfl) (by decide) ?_
      refine x_lconst (pc := 63) (v := lN 1) cx (dA ddX8_findChances (i := 36) rfl) rfl ?_
      refine x_lastore (pc := 64) cx (dA ddX8_findChances (i := 37) rfl) (hM.2.2.2.2.2.2.2.2.2.2.2.2.2.2.2.2.2.2.2.2.2.2.2.2.2 (N 0) (by omega)).2 (by decide) (by decide) ?_
      refine x_iload_n (pc := 65) cx (dA ddX8_findChances (i := 38) rfl) rfl ?_
      refine x_istore (pc := 66) cx (dA ddX8_findChances (i := 39) rfl) (by decide) rfl ?_
      have L68 : ∀ i, i ≤ N 0 → ∀ V4, fcI V V4 y N (fun d => ruL N κ b m rf d) i → Wm Z X 8 G V4 0 0 (rQ Z X 0 0 (pVx G (fun V' => fcI V V' y N (fun d => ruL N κ b m rf d) (N 0)))) 68 [(0, some (.ref y)), (1, some (.int (nI h))), (2, some (.int (nI r))), (4, some (.int (nI (N 0 - i))))] [] := by
        refine lpU (N 0) (fun i hi ih3 => ?_)
        intro V4 hI
        refine x_iload (pc := 68) cx (dA ddX8_findChances (i := 40) rfl) rfl ?_
        refine x_if_le (pc := 70) (tgt := 186) cx (dA ddX8_findChances (i := 41) rfl) (by decide) (fun c70 => ?_) (fun c70 => ?_)
        · have ei : i = N 0 := by have := cleT (b := 0) (by omega) (by omega) c70; omega
          subst ei
          refine x_return (pc := 186) cx (dA ddX8_findChances (i := 111) rfl) (by first | exact Nat.le_of_ble_eq_true rfl | omega) (by first | exact Nat.le_of_ble_eq_true rfl | omega) ?_
          exact ⟨rfl, rfl, hI⟩
        · have l1 : 0 < N 0 - i := cleF (b := 0) (by omega) (by omega) c70
          refine x_iconst (pc := 73) (v := nI 0) cx (dA ddX8_findChances (i := 42) rfl) (by decide) ?_
          refine x_istore (pc := 74) cx (dA ddX8_findChances (i := 43) rfl) (by decide) rfl ?_
          have L76 : ∀ s, s ≤ 5 ^ N 4 → ∀ V5, fcJ V V5 y N (fun d => ruL N κ b m rf d) i s → Wm Z X 8 G V5 0 0 (rQ Z X 0 0 (pVx G (fun V' => fcI V V' y N (fun d => ruL N κ b m rf d) (N 0)))) 76 [(0, some (.ref y)), (1, some (.int (nI h))), (2, some (.int (nI r))), (4, some (.int (nI (N 0 - i)))), (5, some (.int (nI s)))] [] := by
            refine lpU (5 ^ N 4) (fun s hs ih4 => ?_)
            intro V5 hJ
            refine x_iload (pc := 76) cx (dA ddX8_findChances (i := 44) rfl) rfl ?_
            refine x_aload_n (pc := 78) cx (dA ddX8_findChances (i := 45) rfl) rfl ?_
            refine x_iload_n (pc := 79) cx (dA ddX8_findChances (i := 46) rfl) rfl ?_
            refine x_V1 (pc := 80) mX8_110 h0 (c_X8_states (V := V5) hM hh ((MF.of hJ.1.1 (by omega) (by omega)).mh hR hh) hB) cx (dA ddX8_findChances (i := 47) rfl) (kI ?_)
            refine x_icmp_ge (pc := 83) (tgt := 180) cx (dA ddX8_findChances (i := 48) rfl) (by decide) (fun c83 => ?_) (fun c83 => ?_)
            · have c83 := cleT (by omega) (by omega) c83
              have es : s = 5 ^ N 4 := by omega
              subst es
              refine x_iinc (pc := 180) cx (dA ddX8_findChances (i := 109) rfl) rfl (iincM (by omega)) (by decide) rfl ?_
              refine x_goto (pc := 183) (tgt := 68) cx (dA ddX8_findChances (i := 110) rfl) (by decide) ?_
              exact x_enter (ih3 (by omega) _ (fcI_s hN (by omega) (hL _ (by omega) (by omega)) hJ)) ⟨.inr rfl, .inr rfl, .inr rfl, .inr rfl, trivial⟩
            · have c83 := cleF (by omega) (by omega) c83
              have cp := chP_le hN hL (i := i) (s := s) (by omega) c83
              have b3 := hN.2.2.2.1
              have w1 : chP N (fun d => ruL N κ b m rf d) i s * N 3 ≤ 2 ^ 48 * 4 := Nat.mul_le_mul cp (by omega)
              have w2 : chP N (fun d => ruL N κ b m rf d) i s * (4 - N 3) ≤ 2 ^ 48 * 4 := Nat.mul_le_mul cp (by omega)
              have ll : ruL N κ b m rf (N 0 - i) s ≤ s := ruL_le hN (by omega) (by omega) c83
              refine x_aload_n (pc := 86) cx (dA ddX8_findChances (i := 49) rfl) rfl ?_
              refine gX8_85 (pc := 87) (rfA hM.2.2.2.2.2.2.2.2.2.2.2.2.2.2.2.2.2.2.2.2.2.2.2.1) cx (dA ddX8_findChances (i := 50) rfl) h0 ?_
              refine x_iload (pc := 90) cx (dA ddX8_findChances (i := 51) rfl) rfl ?_
              refine x_aaload (pc := 92) cx (dA ddX8_findChances (i := 52) rfl) hM.2.2.2.2.2.2.2.2.2.2.2.2.2.2.2.2.2.2.2.2.2.2.2.2.1 (by decide) (by decide) (by omega) (by decide) ?_
              rw [arA (hM.2.2.2.2.2.2.2.2.2.2.2.2.2.2.2.2.2.2.2.2.2.2.2.2.2 (N 0 - i) (by omega)).1]
              refine x_iload (pc := 93) cx (dA ddX8_findChances (i := 53) rfl) rfl ?_
              refine x_laload (pc := 95) cx (dA ddX8_findChances (i := 54) rfl) (hM.2.2.2.2.2.2.2.2.2.2.2.2.2.2.2.2.2.2.2.2.2.2.2.2.2 (N 0 - i) (by omega)).2 (by omega) (by decide) ?_
              rw [hJ.2.1 i (Nat.le_refl _) s c83]
              refine x_lstore (pc := 96) cx (dA ddX8_findChances (i := 55) rfl) (by decide) rfl ?_
              refine x_lload (pc := 98) cx (dA ddX8_findChances (i := 56) rfl) rfl ?_
              refine x_lconst (pc := 100) (v := lN 0) cx (dA ddX8_findChances (i := 57) rfl) rfl ?_
              refine x_lc_le (pc := 101) (tgt := 174) cx (dA ddX8_findChances (i := 58) rfl) (dA ddX8_findChances (i := 59) rfl) (by decide) (fun c101 => ?_) (fun c101 => ?_)
              · have c0 : chP N (fun d => ruL N κ b m rf d) i s = 0 := by have := (pk_lLE (b := 0) (by omega) (by decide)).mp c101; omega
                refine x_iinc (pc := 174) cx (dA ddX8_findChances (i := 107) rfl) rfl (iinc1 _) (by decide) rfl ?_
                refine x_goto (pc := 177) (tgt := 76) cx (dA ddX8_findChances (i := 108) rfl) (by decide) ?_
                exact x_enter (ih4 (by omega) _ (fcJ_n c0 hJ)) ⟨.inr rfl, .inr rfl, .inr rfl, .inr rfl, .inr rfl, trivial⟩
              · refine x_aload_n (pc := 105) cx (dA ddX8_findChances (i := 60) rfl) rfl ?_
                refine x_iload_n (pc := 106) cx (dA ddX8_findChances (i := 61) rfl) rfl ?_
                refine x_iload (pc := 107) cx (dA ddX8_findChances (i := 62) rfl) rfl ?_
                refine x_lload (pc := 109) cx (dA ddX8_findChances (i := 63) rfl) rfl ?_
                refine x_aload_n (pc := 111) cx (dA ddX8_findChances (i := 64) rfl) rfl ?_
                refine gX8_45 (pc := 112) (rfA hM.2.2.2.2.2.2.2.2.2.2.2.1.1) cx (dA ddX8_findChances (i := 65) rfl) h0 ?_
                refine x_iload_n (pc := 115) cx (dA ddX8_findChances (i := 66) rfl) rfl ?_
                refine x_aaload (pc := 116) cx (dA ddX8_findChances (i := 67) rfl) hM.2.2.2.2.2.2.2.2.2.2.2.1.2.1 (by decide) (by decide) hh (by decide) ?_
                rw [arA (hM.2.2.2.2.2.2.2.2.2.2.2.1.2.2 h hh).1]
                refine x_iconst (pc := 117) (v := nI 3) cx (dA ddX8_findChances (i := 68) rfl) (by decide) ?_
                refine x_iaload (pc := 118) cx (dA ddX8_findChances (i := 69) rfl) (hM.2.2.2.2.2.2.2.2.2.2.2.1.2.2 h hh).2 (by decide) (by decide) ?_
                rw [((MF.of hJ.1.1 (by omega) (by omega)).mh hR hh) 3 (by omega)]
                refine x_i2l (pc := 119) cx (dA ddX8_findChances (i := 70) rfl) ?_
                rw [nI_l (by omega)]
                refine x_lmul (pc := 120) cx (dA ddX8_findChances (i := 71) rfl) ?_
                rw [lN_mul]
                refine x_aload_n (pc := 121) cx (dA ddX8_findChances (i := 72) rfl) rfl ?_
                refine gX8_85 (pc := 122) (rfA hM.2.2.2.2.2.2.2.2.2.2.2.2.2.2.2.2.2.2.2.2.2.2.2.1) cx (dA ddX8_findChances (i := 73) rfl) h0 ?_
                refine x_iload (pc := 125) cx (dA ddX8_findChances (i := 74) rfl) rfl ?_
                refine x_iconst (pc := 127) (v := nI 1) cx (dA ddX8_findChances (i := 75) rfl) (by decide) ?_
                refine x_isub (pc := 128) cx (dA ddX8_findChances (i := 76) rfl) ?_
                rw [pk_sub (by omega), show N 0 - i - 1 = N 0 - (i + 1) by omega]
                refine x_aaload (pc := 129) cx (dA ddX8_findChances (i := 77) rfl) hM.2.2.2.2.2.2.2.2.2.2.2.2.2.2.2.2.2.2.2.2.2.2.2.2.1 (by decide) (by decide) (by omega) (by decide) ?_
                rw [arA (hM.2.2.2.2.2.2.2.2.2.2.2.2.2.2.2.2.2.2.2.2.2.2.2.2.2 (N 0 - (i + 1)) (by omega)).1]
                refine x_V4 (pc := 130) mX8_293 h0 (c_X8_goesOn (V := V5) hM hh ((MF.of hJ.1.1 (by omega) (by omega)).mh hR hh) hB hN (w := chP N (fun d => ruL N κ b m rf d) i s * N 3) (s := s) c83 (by omega) (hM.2.2.2.2.2.2.2.2.2.2.2.2.2.2.2.2.2.2.2.2.2.2.2.2.2 (N 0 - (i + 1)) (by omega)).2 (by omega) (g := fcG N (fun d => ruL N κ b m rf d) i s) hJ.2.2.2) cx (dA ddX8_findChances (i := 78) rfl) (kVx fun V6 hG => ?_)
                refine x_aload_n (pc := 133) cx (dA ddX8_findChances (i := 79) rfl) rfl ?_
                refine x_iload_n (pc := 134) cx (dA ddX8_findChances (i := 80) rfl) rfl ?_
                refine x_iload (pc := 135) cx (dA ddX8_findChances (i := 81) rfl) rfl ?_
                refine x_aload_n (pc := 137) cx (dA ddX8_findChances (i := 82) rfl) rfl ?_
                refine x_iload_n (pc := 138) cx (dA ddX8_findChances (i := 83) rfl) rfl ?_
                refine x_iload (pc := 139) cx (dA ddX8_findChances (i := 84) rfl) rfl ?_
                refine x_iload (pc := 141) cx (dA ddX8_findChances (i := 85) rfl) rfl ?_
                refine x_iload_n (pc := 143) cx (dA ddX8_findChances (i := 86) rfl) rfl ?_
                refine x_V4 (pc := 144) mX8_274 h0 (c_X8_loadBy (V := V6) hM hh (MH.gn hh ((MF.of hJ.1.1 (by omega) (by omega)).mh hR hh) hG (by omega)) hB hN (r := r) (by omega) (MRule.mf ((MF.of hJ.1.1 (by omega) (by omega)).trans (MF.go hG (by omega) (by omega))) hR5 hr) (d := N 0 - i) (s := s) (by omega) (by omega) c83 (fun _ => ((hG.1 _ (by omega)).2.2.1 s).trans (hJ.1.2 (N 0 - i) (by omega) (by omega) s c83))) cx (dA ddX8_findChances (i := 87) rfl) (kI ?_)
                refine x_isub (pc := 147) cx (dA ddX8_findChances (i := 88) rfl) ?_
                rw [pk_sub ll]
                refine x_lload (pc := 148) cx (dA ddX8_findChances (i := 89) rfl) rfl ?_
                refine x_iconst (pc := 150) (v := nI 4) cx (dA ddX8_findChances (i := 90) rfl) (by decide) ?_
                refine x_aload_n (pc := 151) cx (dA ddX8_findChances (i := 91) rfl) rfl ?_
                refine gX8_45 (pc := 152) (rfA hM.2.2.2.2.2.2.2.2.2.2.2.1.1) cx (dA ddX8_findChances (i := 92) rfl) h0 ?_
                refine x_iload_n (pc := 155) cx (dA ddX8_findChances (i := 93) rfl) rfl ?_
                refine x_aaload (pc := 156) cx (dA ddX8_findChances (i := 94) rfl) hM.2.2.2.2.2.2.2.2.2.2.2.1.2.1 (by decide) (by decide) hh (by decide) ?_
                rw [arA (hM.2.2.2.2.2.2.2.2.2.2.2.1.2.2 h hh).1]
                refine x_iconst (pc := 157) (v := nI 3) cx (dA ddX8_findChances (i := 95) rfl) (by decide) ?_
                refine x_iaload (pc := 158) cx (dA ddX8_findChances (i := 96) rfl) (hM.2.2.2.2.2.2.2.2.2.2.2.1.2.2 h hh).2 (by decide) (by decide) ?_
                rw [(MH.gn hh ((MF.of hJ.1.1 (by omega) (by omega)).mh hR hh) hG (by omega)) 3 (by omega)]
                refine x_isub (pc := 159) cx (dA ddX8_findChances (i := 97) rfl) ?_
                rw [pk_sub (by omega)]
                refine x_i2l (pc := 160) cx (dA ddX8_findChances (i := 98) rfl) ?_
                rw [nI_l (by omega)]
                refine x_lmul (pc := 161) cx (dA ddX8_findChances (i := 99) rfl) ?_
                rw [lN_mul]
                refine x_aload_n (pc := 162) cx (dA ddX8_findChances (i := 100) rfl) rfl ?_
                refine gX8_85 (pc := 163) (rfA hM.2.2.2.2.2.2.2.2.2.2.2.2.2.2.2.2.2.2.2.2.2.2.2.1) cx (dA ddX8_findChances (i := 101) rfl) h0 ?_
                refine x_iload (pc := 166) cx (dA ddX8_findChances (i := 102) rfl) rfl ?_
                refine x_iconst (pc := 168) (v := nI 1) cx (dA ddX8_findChances (i := 103) rfl) (by decide) ?_
                refine x_isub (pc := 169) cx (dA ddX8_findChances (i := 104) rfl) ?_
                rw [pk_sub (by omega), show N 0 - i - 1 = N 0 - (i + 1) by omega]
                refine x_aaload (pc := 170) cx (dA ddX8_findChances (i := 105) rfl) hM.2.2.2.2.2.2.2.2.2.2.2.2.2.2.2.2.2.2.2.2.2.2.2.2.1 (by decide) (by decide) (by omega) (by decide) ?_
                rw [arA (hM.2.2.2.2.2.2.2.2.2.2.2.2.2.2.2.2.2.2.2.2.2.2.2.2.2 (N 0 - (i + 1)) (by omega)).1]
                refine x_V4 (pc := 171) mX8_293 h0 (c_X8_goesOn (V := V6) hM hh (MH.gn hh ((MF.of hJ.1.1 (by omega) (by omega)).mh hR hh) hG (by omega)) hB hN (w := chP N (fun d => ruL N κ b m rf d) i s * (4 - N 3)) (s := s - ruL N κ b m rf (N 0 - i) s) (by omega) (by omega) (hM.2.2.2.2.2.2.2.2.2.2.2.2.2.2.2.2.2.2.2.2.2.2.2.2.2 (N 0 - (i + 1)) (by omega)).2 (by omega) (g := fun t => fcG N (fun d => ruL N κ b m rf d) i s t + chP N (fun d => ruL N κ b m rf d) i s * N 3 * gsI N s (2 ^ N 4) t) hG.2.2) cx (dA ddX8_findChances (i := 106) rfl) (kVx fun V7 hG2 => ?_)
                refine x_iinc (pc := 174) cx (dA ddX8_findChances (i := 107) rfl) rfl (iinc1 _) (by decide) rfl ?_
                refine x_goto (pc := 177) (tgt := 76) cx (dA ddX8_findChances (i := 108) rfl) (by decide) ?_
                exact x_enter (ih4 (by omega) _ (fcJ_g (by omega) h06.2 hJ hG hG2)) ⟨.inr rfl, .inr rfl, .inr rfl, .inr rfl, .inr rfl, trivial⟩
          exact x_enter (L76 0 (Nat.zero_le _) V4 (fcJ_0 (by omega) hI)) ⟨.inr rfl, .inr rfl, .inr rfl, .inr rfl, .inr rfl, trivial⟩
      exact x_enter (L68 0 (Nat.zero_le _) _ (fcI_0 b4 h06.2 hz)) ⟨.inr rfl, .inr rfl, .inr rfl, .inr rfl, trivial⟩
    · have c20 := cltF (by omega) (by omega) c20
      refine x_iconst (pc := 23) (v := nI 0) cx (dA ddX8_findChances (i := 15) rfl) (by decide) ?_
      refine x_istore (pc := 24) cx (dA ddX8_findChances (i := 16) rfl) (by decide) rfl ?_
      have L26 : ∀ n, n ≤ 125 → Wm Z X 8 G (zJ V3 y D n) 0 0 (rQ Z X 0 0 (pVx G (fun V' => fcI V V' y N (fun d => ruL N κ b m rf d) (N 0)))) 26 [(0, some (.ref y)), (1, some (.int (nI h))), (2, some (.int (nI r))), (3, some (.int (nI (N 0)))), (4, some (.int (nI D))), (5, some (.int (nI n)))] [] := by
        refine lpU 125 (fun n hn ih2 => ?_)
        refine x_iload (pc := 26) cx (dA ddX8_findChances (i := 17) rfl) rfl ?_
        refine x_bipush (pc := 28) (v := nI 125) cx (dA ddX8_findChances (i := 18) rfl) (by decide) ?_
        refine x_icmp_ge (pc := 30) (tgt := 50) cx (dA ddX8_findChances (i := 19) rfl) (by decide) (fun c30 => ?_) (fun c30 => ?_)
        · have c30 := cleT (by omega) (by omega) c30
          have en : n = 125 := by omega
          subst en
          refine x_iinc (pc := 50) cx (dA ddX8_findChances (i := 29) rfl) rfl (iinc1 _) (by decide) rfl ?_
          refine x_goto (pc := 53) (tgt := 17) cx (dA ddX8_findChances (i := 30) rfl) (by decide) ?_
          exact x_enter (ih (by omega) _ (fzI_s (by omega) hz)) ⟨.inr rfl, .inr rfl, .inr rfl, .inr rfl, .inr rfl, trivial⟩
        · have c30 := cleF (by omega) (by omega) c30
          refine x_aload_n (pc := 33) cx (dA ddX8_findChances (i := 20) rfl) rfl ?_
          refine gX8_85 (pc := 34) (rfA hM.2.2.2.2.2.2.2.2.2.2.2.2.2.2.2.2.2.2.2.2.2.2.2.1) cx (dA ddX8_findChances (i := 21) rfl) h0 ?_
          refine x_iload (pc := 37) cx (dA ddX8_findChances (i := 22) rfl) rfl ?_
          refine x_aaload (pc := 39) cx (dA ddX8_findChances (i := 23) rfl) hM.2.2.2.2.2.2.2.2.2.2.2.2.2.2.2.2.2.2.2.2.2.2.2.2.1 (by decide) (by decide) (by omega) (by decide) ?_
          rw [arA (hM.2.2.2.2.2.2.2.2.2.2.2.2.2.2.2.2.2.2.2.2.2.2.2.2.2 D (by omega)).1]
          refine x_iload (pc := 40) cx (dA ddX8_findChances (i := 24) rfl) rfl ?_
          refine x_lconst (pc := 42) (v := lN 0) cx (dA ddX8_findChances (i := 25) rfl) rfl ?_
          refine x_lastore (pc := 43) cx (dA ddX8_findChances (i := 26) rfl) (hM.2.2.2.2.2.2.2.2.2.2.2.2.2.2.2.2.2.2.2.2.2.2.2.2.2 D (by omega)).2 (by omega) (by decide) ?_
          rw [show sAJ (zJ V3 y D n) (y + 86 + 1 + D) n (lN 0) = zJ V3 y D (n + 1) from rAJ_s0 _ _ _ _ rfl]
          refine x_iinc (pc := 44) cx (dA ddX8_findChances (i := 27) rfl) rfl (iinc1 _) (by decide) rfl ?_
          refine x_goto (pc := 47) (tgt := 26) cx (dA ddX8_findChances (i := 28) rfl) (by decide) ?_
          exact x_enter (ih2 (by omega)) ⟨.inr rfl, .inr rfl, .inr rfl, .inr rfl, .inr rfl, .inr rfl, trivial⟩
      have L := L26 0 (Nat.zero_le _)
      rw [show zJ V3 y D 0 = V3 from rAJ_0 _ _ _ _] at L
      exact x_enter L ⟨.inr rfl, .inr rfl, .inr rfl, .inr rfl, .inr rfl, .inr rfl, trivial⟩
  exact x_enter (L17 0 (Nat.zero_le _) V2 ⟨fcB_of hF, fun e he => absurd he (Nat.not_lt_zero _)⟩) ⟨.inr rfl, .inr rfl, .inr rfl, .inr rfl, .inr rfl, trivial⟩
