def yV (V : zV) (y : Nat) (d : Int32) (b p r : Nat) : zV := sI (sI (sI (sI V 413 y d) 442 y (nI b)) 443 y (nI p)) 444 y (nI r)
theorem yv13 {V : zV} {y b p r : Nat} {d : Int32} : (yV V y d b p r).1 413 y = d := (sI_ne (by decide)).trans ((sI_ne (by decide)).trans ((sI_ne (by decide)).trans sI_eq))
theorem yv43 {V : zV} {y b p r : Nat} {d : Int32} : (yV V y d b p r).1 443 y = nI p := (sI_ne (by decide)).trans sI_eq
theorem yv44 {V : zV} {y b p r : Nat} {d : Int32} : (yV V y d b p r).1 444 y = nI r := sI_eq
theorem y_s13 {V : zV} {y b p r : Nat} {d e : Int32} : sI (yV V y d b p r) 413 y e = yV V y e b p r := by
  unfold yV sI u2
  congr 1
  funext f x
  by_cases hx : x = y <;> by_cases h1 : f = 413 <;> by_cases h2 : f = 442 <;> by_cases h3 : f = 443 <;> by_cases h4 : f = 444 <;> simp_all
theorem y_s43 {V : zV} {y b p r v : Nat} {d : Int32} : sI (yV V y d b p r) 443 y (nI v) = yV V y d b v r := by
  unfold yV sI u2
  congr 1
  funext f x
  by_cases hx : x = y <;> by_cases h1 : f = 413 <;> by_cases h2 : f = 442 <;> by_cases h3 : f = 443 <;> by_cases h4 : f = 444 <;> simp_all
theorem y_s44 {V : zV} {y b p r v : Nat} {d : Int32} : sI (yV V y d b p r) 444 y (nI v) = yV V y d b p v := by
  unfold yV sI u2
  congr 1
  funext f x
  by_cases hx : x = y <;> by_cases h1 : f = 413 <;> by_cases h2 : f = 442 <;> by_cases h3 : f = 443 <;> by_cases h4 : f = 444 <;> simp_all
theorem sendP_0 {N : Nat → Nat} {l s q cq bq : Nat} (hcb : q = 0 ∧ cq = 0 ∧ bq = 0 ∨ q ≠ 0 ∧ cq = N 1 ∧ bq = 1) : sendP N (l, s, 0, 0, 0, 0) q = (cq, l, s - q, 0, bq, sumN (N 4) (dig q), 0) := by
  rcases hcb with ⟨rfl, rfl, rfl⟩ | ⟨h, rfl, rfl⟩
  · have e : ∀ n, sumN n (dig 0) = 0 := by
      intro n
      induction n with
      | zero => rfl
      | succ n ih => show sumN n (dig 0) + dig 0 n = 0; rw [ih]; unfold dig; rw [Nat.zero_div]
    rw [e]
    rfl
  · unfold sendP
    rw [if_neg h]
    simp
theorem rcvP_kp {N : Nat → Nat} {τ : WK} {k : Nat} : (rcvP N τ k).2.1 = τ.1 ∧ (rcvP N τ k).2.2.2.1 = τ.2.2.1 ∧ (rcvP N τ k).2.2.2.2.1 = τ.2.2.2.1 ∧ (rcvP N τ k).2.2.2.2.2.1 = τ.2.2.2.2.1 := by
  unfold rcvP
  split <;> exact ⟨rfl, rfl, rfl, rfl⟩
theorem rcA_kp {D : Int32 → Int32} {vl : Int32 → Nat} {N : Nat → Nat} {x : Nat × WK × Int32} : ∀ k, (rcA D vl N x k).2.1.1 = x.2.1.1 ∧ (rcA D vl N x k).2.1.2.2.1 = x.2.1.2.2.1 ∧ (rcA D vl N x k).2.1.2.2.2.1 = x.2.1.2.2.2.1 ∧ (rcA D vl N x k).2.1.2.2.2.2.1 = x.2.1.2.2.2.2.1
  | 0 => ⟨rfl, rfl, rfl, rfl⟩
  | k + 1 => by
    have ih := rcA_kp (D := D) (vl := vl) (N := N) (x := x) k
    unfold rcA
    split
    · have h := rcvP_kp (N := N) (τ := (rcA D vl N x k).2.1) (k := k)
      exact ⟨h.1.trans ih.1, h.2.1.trans ih.2.1, h.2.2.1.trans ih.2.2.1, h.2.2.2.trans ih.2.2.2⟩
    · exact ih
theorem day_Y {D : Int32 → Int32} {vl : Int32 → Nat} {N : Nat → Nat} {L : Nat → Nat → Nat} {d : Int32} {l s q cq bq : Nat} (h4 : N 4 ≤ 3) (hs : s < 5 ^ N 4) (hq : q = if vl (D d) < N 3 then 0 else L l s) (hcb : q = 0 ∧ cq = 0 ∧ bq = 0 ∨ q ≠ 0 ∧ cq = N 1 ∧ bq = 1) : ∃ Y : Nat → Nat × WK × Int32, Y 0 = (cq + sumP N (s - q) 2, (l, s - q, 0, bq, sumN (N 4) (dig q), 0), D d) ∧ (∀ k, Y (k + 1) = if vl (D (Y k).2.2) < N (5 + 5 * k + 1) then ((Y k).1 + (rcvP N (Y k).2.1 k).1, (rcvP N (Y k).2.1 k).2, D (Y k).2.2) else ((Y k).1, (Y k).2.1, D (Y k).2.2)) ∧ (∀ k, k ≤ N 4 → (Y k).2.1.2.1 < 5 ^ N 4) ∧ (∀ k, (Y k).2.1.1 = l ∧ (Y k).2.1.2.2.1 = 0 ∧ (Y k).2.1.2.2.2.1 = bq ∧ (Y k).2.1.2.2.2.2.1 = sumN (N 4) (dig q)) ∧ dayP D vl N L d (l, s, 0, 0, 0, 0) = dayE N (Y (N 4)) := by
  refine ⟨rcA D vl N (cq + sumP N (s - q) 2, (l, s - q, 0, bq, sumN (N 4) (dig q), 0), D d), rfl, fun _ => rfl, fun k hk => (rcA_st h4 (by show s - q < _; omega) k hk).1, rcA_kp, ?_⟩
  unfold dayP dayM
  rw [show (if vl (D d) < N 3 then 0 else L (l, s, 0, 0, 0, 0).1 (l, s, 0, 0, 0, 0).2.1) = q from hq.symm, sendP_0 hcb]
theorem c_X8_day {l : Launch} {Z : zP} {G : zG} {V : zV} {y : Nat} (hM : ModelAt Z G y) {h : Nat} (hh : h < 8) {N : Nat → Nat} (hR : MH V y h N) (hB : HouseB N) (hN : HOK N) {r κ b m : Nat} {rf : Nat → Bool} (hr : r < 10) (hR5 : MRule V y r κ b m rf) {D : Int32 → Int32} {vl : Int32 → Nat} (hDr : ∀ d, drw d = D d) (hvl : ∀ d, dvl d = vl d) (hv4 : ∀ d, vl d < 4) {d : Int32} (hd : V.1 413 y = d) {z s : Nat} (h1 : 1 ≤ z) (h6 : z ≤ 6) (hs : s < 5 ^ N 4) (hK : κ = 4 → V.2.2.1 (y + 47 + 1 + z) s = nI (ldP N z s)) : CT l Z yX8_day cX8_day 9 (some .int) 5 0 0 [.ref y, .int (nI h), .int (nI z), .int (nI s), .int (nI r)] G V (pI (nI (dayP D vl N (fun d s => ruL N κ b m rf d s) d (z, s, 0, 0, 0, 0)).1) G (sI (yV V y (dayP D vl N (fun d s => ruL N κ b m rf d s) d (z, s, 0, 0, 0, 0)).2.2 (dayP D vl N (fun d s => ruL N κ b m rf d s) d (z, s, 0, 0, 0, 0)).2.1.2.2.2.1 (dayP D vl N (fun d s => ruL N κ b m rf d s) d (z, s, 0, 0, 0, 0)).2.1.2.2.2.2.1 (dayP D vl N (fun d s => ruL N κ b m rf d s) d (z, s, 0, 0, 0, 0)).2.1.2.2.2.2.2) 445 y (nI (dayP D vl N (fun d s => ruL N κ b m rf d s) d (z, s, 0, 0, 0, 0)).2.1.2.1))) := by
  refine CT.of (by decide +kernel) (Nat.le_of_ble_eq_true rfl) (fun X hX cx => ?_)
  subst hX
  show Wm Z X 9 G V 0 0 _ 0 [(0, some (.ref y)), (1, some (.int (nI h))), (2, some (.int (nI z))), (3, some (.int (nI s))), (4, some (.int (nI r)))] []
  have h0 := hM.1
  have b4 := hB.1
  have n125 := st125 b4
  have b3 := hN.2.2.2.1
  have v4 := hv4 (D d)
  refine x_aload_n (pc := 0) cx (dA ddX8_day (i := 0) rfl) rfl ?_
  refine x_V0 (pc := 1) mX8_331 h0 (c_X8_draw hM hd) cx (dA ddX8_day (i := 1) rfl) (kI ?_)
  rw [hDr, hvl]
  refine x_aload_n (pc := 4) cx (dA ddX8_day (i := 2) rfl) rfl ?_
  refine gX8_45 (pc := 5) (rfA hM.2.2.2.2.2.2.2.2.2.2.2.1.1) cx (dA ddX8_day (i := 3) rfl) h0 ?_
  refine x_iload_n (pc := 8) cx (dA ddX8_day (i := 4) rfl) rfl ?_
  refine x_aaload (pc := 9) cx (dA ddX8_day (i := 5) rfl) hM.2.2.2.2.2.2.2.2.2.2.2.1.2.1 (by decide) (by decide) hh (by decide) ?_
  rw [arA (hM.2.2.2.2.2.2.2.2.2.2.2.1.2.2 h hh).1]
  refine x_iconst (pc := 10) (v := nI 3) cx (dA ddX8_day (i := 6) rfl) (by decide) ?_
  refine x_iaload (pc := 11) cx (dA ddX8_day (i := 7) rfl) (hM.2.2.2.2.2.2.2.2.2.2.2.1.2.2 h hh).2 (by decide) (by decide) ?_
  rw [show (sI V 413 y (D d)).2.2.1 (y + 29 + 1 + h) 3 = nI (N 3) from hR 3 (by omega)]
  have J28 : ∀ q, q = (if vl (D d) < N 3 then 0 else ruL N κ b m rf z s) → Wm Z X 9 G (sI V 413 y (D d)) 0 0 (rQ Z X 0 0 (pI (nI (dayP D vl N (fun d s => ruL N κ b m rf d s) d (z, s, 0, 0, 0, 0)).1) G (sI (yV V y (dayP D vl N (fun d s => ruL N κ b m rf d s) d (z, s, 0, 0, 0, 0)).2.2 (dayP D vl N (fun d s => ruL N κ b m rf d s) d (z, s, 0, 0, 0, 0)).2.1.2.2.2.1 (dayP D vl N (fun d s => ruL N κ b m rf d s) d (z, s, 0, 0, 0, 0)).2.1.2.2.2.2.1 (dayP D vl N (fun d s => ruL N κ b m rf d s) d (z, s, 0, 0, 0, 0)).2.1.2.2.2.2.2) 445 y (nI (dayP D vl N (fun d s => ruL N κ b m rf d s) d (z, s, 0, 0, 0, 0)).2.1.2.1)))) 28 [(0, some (.ref y)), (1, some (.int (nI h))), (2, some (.int (nI z))), (3, some (.int (nI s)))] [.int (nI q)] := by
    intro q hq
    have hqs : q ≤ s := by rw [hq]; split; exact Nat.zero_le _; exact ruL_le hN h1 h6 hs
    refine x_istore (pc := 28) cx (dA ddX8_day (i := 17) rfl) (by decide) rfl ?_
    refine x_iload (pc := 30) cx (dA ddX8_day (i := 18) rfl) rfl ?_
    have J73 : ∀ cq bq, (q = 0 ∧ cq = 0 ∧ bq = 0 ∨ q ≠ 0 ∧ cq = N 1 ∧ bq = 1) → Wm Z X 9 G (yV V y (D d) bq 0 0) 0 0 (rQ Z X 0 0 (pI (nI (dayP D vl N (fun d s => ruL N κ b m rf d s) d (z, s, 0, 0, 0, 0)).1) G (sI (yV V y (dayP D vl N (fun d s => ruL N κ b m rf d s) d (z, s, 0, 0, 0, 0)).2.2 (dayP D vl N (fun d s => ruL N κ b m rf d s) d (z, s, 0, 0, 0, 0)).2.1.2.2.2.1 (dayP D vl N (fun d s => ruL N κ b m rf d s) d (z, s, 0, 0, 0, 0)).2.1.2.2.2.2.1 (dayP D vl N (fun d s => ruL N κ b m rf d s) d (z, s, 0, 0, 0, 0)).2.1.2.2.2.2.2) 445 y (nI (dayP D vl N (fun d s => ruL N κ b m rf d s) d (z, s, 0, 0, 0, 0)).2.1.2.1)))) 73 [(0, some (.ref y)), (1, some (.int (nI h))), (2, some (.int (nI z))), (3, some (.int (nI s))), (5, some (.int (nI q))), (6, some (.int (nI cq)))] [] := by
      intro cq bq hcb
      obtain ⟨Y, hY0, hYs, hYb, hYk, hYd⟩ := day_Y (D := D) (vl := vl) (L := (fun d s => ruL N κ b m rf d s)) b4 hs hq hcb
      refine x_iconst (pc := 73) (v := nI 0) cx (dA ddX8_day (i := 42) rfl) (by decide) ?_
      refine x_istore (pc := 74) cx (dA ddX8_day (i := 43) rfl) (by decide) rfl ?_
      have L76 : ∀ k, k ≤ N 4 → Wm Z X 9 G (yV V y (D d) bq (sumN k (dig q)) 0) 0 0 (rQ Z X 0 0 (pI (nI (dayP D vl N (fun d s => ruL N κ b m rf d s) d (z, s, 0, 0, 0, 0)).1) G (sI (yV V y (dayP D vl N (fun d s => ruL N κ b m rf d s) d (z, s, 0, 0, 0, 0)).2.2 (dayP D vl N (fun d s => ruL N κ b m rf d s) d (z, s, 0, 0, 0, 0)).2.1.2.2.2.1 (dayP D vl N (fun d s => ruL N κ b m rf d s) d (z, s, 0, 0, 0, 0)).2.1.2.2.2.2.1 (dayP D vl N (fun d s => ruL N κ b m rf d s) d (z, s, 0, 0, 0, 0)).2.1.2.2.2.2.2) 445 y (nI (dayP D vl N (fun d s => ruL N κ b m rf d s) d (z, s, 0, 0, 0, 0)).2.1.2.1)))) 76 [(0, some (.ref y)), (1, some (.int (nI h))), (2, some (.int (nI z))), (3, some (.int (nI s))), (5, some (.int (nI q))), (6, some (.int (nI cq))), (7, some (.int (nI k)))] [] := by
        refine lpU (N 4) (fun k hk ih => ?_)
        refine x_iload (pc := 76) cx (dA ddX8_day (i := 44) rfl) rfl ?_
        refine x_aload_n (pc := 78) cx (dA ddX8_day (i := 45) rfl) rfl ?_
        refine x_iload_n (pc := 79) cx (dA ddX8_day (i := 46) rfl) rfl ?_
        refine x_V1 (pc := 80) mX8_98 h0 (c_X8_sorts (V := (yV V y (D d) bq (sumN k (dig q)) 0)) hM hh (id hR : MH (yV V y (D d) bq (sumN k (dig q)) 0) y h N) hB) cx (dA ddX8_day (i := 47) rfl) (kI ?_)
        refine x_icmp_ge (pc := 83) (tgt := 108) cx (dA ddX8_day (i := 48) rfl) (by decide) (fun c83 => ?_) (fun c83 => ?_)
        · have c83 := cleT (by omega) (by omega) c83
          have ek : k = N 4 := by omega
          subst ek
          refine x_iload_n (pc := 108) cx (dA ddX8_day (i := 59) rfl) rfl ?_
          refine x_iload (pc := 109) cx (dA ddX8_day (i := 60) rfl) rfl ?_
          refine x_isub (pc := 111) cx (dA ddX8_day (i := 61) rfl) ?_
          rw [pk_sub hqs]
          refine x_istore (pc := 112) cx (dA ddX8_day (i := 62) rfl) (by decide) rfl ?_
          refine x_iload (pc := 114) cx (dA ddX8_day (i := 63) rfl) rfl ?_
          refine x_aload_n (pc := 116) cx (dA ddX8_day (i := 64) rfl) rfl ?_
          refine x_iload_n (pc := 117) cx (dA ddX8_day (i := 65) rfl) rfl ?_
          refine x_iload (pc := 118) cx (dA ddX8_day (i := 66) rfl) rfl ?_
          refine x_iconst (pc := 120) (v := nI 2) cx (dA ddX8_day (i := 67) rfl) (by decide) ?_
          refine x_V3 (pc := 121) mX8_236 h0 (c_X8_sum (V := (yV V y (D d) bq (sumN (N 4) (dig q)) 0)) hM hh (id hR : MH (yV V y (D d) bq (sumN (N 4) (dig q)) 0) y h N) hB (s := s - q) (w := 2) (by omega) (by omega)) cx (dA ddX8_day (i := 68) rfl) (kI ?_)
          refine x_iadd (pc := 124) cx (dA ddX8_day (i := 69) rfl) ?_
          rw [nI_add]
          refine x_istore (pc := 125) cx (dA ddX8_day (i := 70) rfl) (by decide) rfl ?_
          refine x_iconst (pc := 127) (v := nI 0) cx (dA ddX8_day (i := 71) rfl) (by decide) ?_
          refine x_istore (pc := 128) cx (dA ddX8_day (i := 72) rfl) (by decide) rfl ?_
          have L130 : ∀ k, k ≤ N 4 → Wm Z X 9 G (yV V y (Y k).2.2 bq (sumN (N 4) (dig q)) (Y k).2.1.2.2.2.2.2) 0 0 (rQ Z X 0 0 (pI (nI (dayP D vl N (fun d s => ruL N κ b m rf d s) d (z, s, 0, 0, 0, 0)).1) G (sI (yV V y (dayP D vl N (fun d s => ruL N κ b m rf d s) d (z, s, 0, 0, 0, 0)).2.2 (dayP D vl N (fun d s => ruL N κ b m rf d s) d (z, s, 0, 0, 0, 0)).2.1.2.2.2.1 (dayP D vl N (fun d s => ruL N κ b m rf d s) d (z, s, 0, 0, 0, 0)).2.1.2.2.2.2.1 (dayP D vl N (fun d s => ruL N κ b m rf d s) d (z, s, 0, 0, 0, 0)).2.1.2.2.2.2.2) 445 y (nI (dayP D vl N (fun d s => ruL N κ b m rf d s) d (z, s, 0, 0, 0, 0)).2.1.2.1)))) 130 [(0, some (.ref y)), (1, some (.int (nI h))), (2, some (.int (nI z))), (6, some (.int (nI (Y k).1))), (7, some (.int (nI (Y k).2.1.2.1))), (8, some (.int (nI k)))] [] := by
            refine lpU (N 4) (fun k hk ih2 => ?_)
            refine x_iload (pc := 130) cx (dA ddX8_day (i := 73) rfl) rfl ?_
            refine x_aload_n (pc := 132) cx (dA ddX8_day (i := 74) rfl) rfl ?_
            refine x_iload_n (pc := 133) cx (dA ddX8_day (i := 75) rfl) rfl ?_
            refine x_V1 (pc := 134) mX8_98 h0 (c_X8_sorts (V := (yV V y (Y k).2.2 bq (sumN (N 4) (dig q)) (Y k).2.1.2.2.2.2.2)) hM hh (id hR : MH (yV V y (Y k).2.2 bq (sumN (N 4) (dig q)) (Y k).2.1.2.2.2.2.2) y h N) hB) cx (dA ddX8_day (i := 76) rfl) (kI ?_)
            refine x_icmp_ge (pc := 137) (tgt := 209) cx (dA ddX8_day (i := 77) rfl) (by decide) (fun c137 => ?_) (fun c137 => ?_)
            · have c137 := cleT (by omega) (by omega) c137
              have ek : k = N 4 := by omega
              subst ek
              refine x_aload_n (pc := 209) cx (dA ddX8_day (i := 114) rfl) rfl ?_
              refine x_iload (pc := 210) cx (dA ddX8_day (i := 115) rfl) rfl ?_
              refine pX8_343 (pc := 212)  cx (dA ddX8_day (i := 116) rfl) h0 ?_
              refine x_iload_n (pc := 215) cx (dA ddX8_day (i := 117) rfl) rfl ?_
              refine x_iconst (pc := 216) (v := nI 1) cx (dA ddX8_day (i := 118) rfl) (by decide) ?_
              refine x_icmp_ne (pc := 217) (tgt := 234) cx (dA ddX8_day (i := 119) rfl) (by decide) (fun c217 => ?_) (fun c217 => ?_)
              · have c217 := ceqF (by omega) (by omega) c217
                have ez : ¬ z - 1 = 0 := by omega
                refine x_iload (pc := 234) cx (dA ddX8_day (i := 128) rfl) rfl ?_
                refine x_ireturn (pc := 236) cx (dA ddX8_day (i := 129) rfl) (by first | exact Nat.le_of_ble_eq_true rfl | omega) (by first | exact Nat.le_of_ble_eq_true rfl | omega) ?_
                rw [hYd]
                unfold dayE
                dsimp only
                rw [(hYk (N 4)).1, (hYk (N 4)).2.2.1, (hYk (N 4)).2.2.2]
                first | rw [if_neg ez] | rw [if_pos ez]
                exact ⟨rfl, rfl, rfl⟩
              · have c217 := ceqT (by omega) (by omega) c217
                have ez : z - 1 = 0 := by omega
                refine x_iload (pc := 220) cx (dA ddX8_day (i := 120) rfl) rfl ?_
                refine x_aload_n (pc := 222) cx (dA ddX8_day (i := 121) rfl) rfl ?_
                refine x_iload_n (pc := 223) cx (dA ddX8_day (i := 122) rfl) rfl ?_
                refine x_iload (pc := 224) cx (dA ddX8_day (i := 123) rfl) rfl ?_
                refine x_iconst (pc := 226) (v := nI 4) cx (dA ddX8_day (i := 124) rfl) (by decide) ?_
                refine x_V3 (pc := 227) mX8_236 h0 (c_X8_sum (V := (sI (yV V y (Y (N 4)).2.2 bq (sumN (N 4) (dig q)) (Y (N 4)).2.1.2.2.2.2.2) 445 y (nI (Y (N 4)).2.1.2.1))) hM hh (id hR : MH (sI (yV V y (Y (N 4)).2.2 bq (sumN (N 4) (dig q)) (Y (N 4)).2.1.2.2.2.2.2) 445 y (nI (Y (N 4)).2.1.2.1)) y h N) hB (s := (Y (N 4)).2.1.2.1) (w := 4) (by have := hYb (N 4) (Nat.le_refl _); omega) (by omega)) cx (dA ddX8_day (i := 125) rfl) (kI ?_)
                refine x_iadd (pc := 230) cx (dA ddX8_day (i := 126) rfl) ?_
                rw [nI_add]
                refine x_goto (pc := 231) (tgt := 236) cx (dA ddX8_day (i := 127) rfl) (by decide) ?_
                refine x_ireturn (pc := 236) cx (dA ddX8_day (i := 129) rfl) (by first | exact Nat.le_of_ble_eq_true rfl | omega) (by first | exact Nat.le_of_ble_eq_true rfl | omega) ?_
                rw [hYd]
                unfold dayE
                dsimp only
                rw [(hYk (N 4)).1, (hYk (N 4)).2.2.1, (hYk (N 4)).2.2.2]
                first | rw [if_neg ez] | rw [if_pos ez]
                exact ⟨rfl, rfl, rfl⟩
            · have c137 := cleF (by omega) (by omega) c137
              have yb := hYb k (by omega)
              have vb := hv4 (D (Y k).2.2)
              have nb := hB.2 (5 + 5 * k + 1) (by omega)
              refine x_aload_n (pc := 140) cx (dA ddX8_day (i := 78) rfl) rfl ?_
              refine x_V0 (pc := 141) mX8_331 h0 (c_X8_draw (V := (yV V y (Y k).2.2 bq (sumN (N 4) (dig q)) (Y k).2.1.2.2.2.2.2)) hM (d := (Y k).2.2) yv13) cx (dA ddX8_day (i := 79) rfl) (kI ?_)
              rw [hDr, hvl, y_s13]
              refine x_aload_n (pc := 144) cx (dA ddX8_day (i := 80) rfl) rfl ?_
              refine x_iload_n (pc := 145) cx (dA ddX8_day (i := 81) rfl) rfl ?_
              refine x_iload (pc := 146) cx (dA ddX8_day (i := 82) rfl) rfl ?_
              refine x_iconst (pc := 148) (v := nI 1) cx (dA ddX8_day (i := 83) rfl) (by decide) ?_
              refine x_V3 (pc := 149) mX8_229 h0 (c_X8_numberOf (V := (yV V y (D (Y k).2.2) bq (sumN (N 4) (dig q)) (Y k).2.1.2.2.2.2.2)) hM hh (id hR : MH (yV V y (D (Y k).2.2) bq (sumN (N 4) (dig q)) (Y k).2.1.2.2.2.2.2) y h N) hB (k := k) (w := 1) c137 (by omega)) cx (dA ddX8_day (i := 84) rfl) (kI ?_)
              refine x_icmp_ge (pc := 152) (tgt := 203) cx (dA ddX8_day (i := 85) rfl) (by decide) (fun c152 => ?_) (fun c152 => ?_)
              · have c152 := cleT (by omega) (by omega) c152
                have e9 : Y (k + 1) = ((Y k).1, (Y k).2.1, D (Y k).2.2) := by rw [hYs, if_neg (by omega)]
                refine x_iinc (pc := 203) cx (dA ddX8_day (i := 112) rfl) rfl (iinc1 _) (by decide) rfl ?_
                refine x_goto (pc := 206) (tgt := 130) cx (dA ddX8_day (i := 113) rfl) (by decide) ?_
                have L := ih2 (by omega)
                rw [e9] at L
                exact x_enter L ⟨.inr rfl, .inr rfl, .inr rfl, .inr rfl, .inr rfl, .inr rfl, trivial⟩
              · have c152 := cleF (by omega) (by omega) c152
                have e8 : Y (k + 1) = ((Y k).1 + (rcvP N (Y k).2.1 k).1, (rcvP N (Y k).2.1 k).2, D (Y k).2.2) := by rw [hYs, if_pos (by omega)]
                have dl := dig_lt (Y k).2.1.2.1 k
                refine x_iload (pc := 155) cx (dA ddX8_day (i := 86) rfl) rfl ?_
                refine x_iload (pc := 157) cx (dA ddX8_day (i := 87) rfl) rfl ?_
                refine x_S2 (pc := 159) mX8_226 (c_X8_ofState (s := (Y k).2.1.2.1) (k := k) (by omega) (by omega)) cx (dA ddX8_day (i := 88) rfl) (kI ?_)
                refine x_iconst (pc := 162) (v := nI 4) cx (dA ddX8_day (i := 89) rfl) (by decide) ?_
                refine x_icmp_ne (pc := 163) (tgt := 192) cx (dA ddX8_day (i := 90) rfl) (by decide) (fun c163 => ?_) (fun c163 => ?_)
                · have c163 := ceqF (by omega) (by omega) c163
                  have er : rcvP N (Y k).2.1 k = (0, (Y k).2.1.1, (Y k).2.1.2.1 + 5 ^ k, (Y k).2.1.2.2) := if_pos (by omega)
                  have e9 : Y (k + 1) = ((Y k).1, ((Y k).2.1.1, (Y k).2.1.2.1 + 5 ^ k, (Y k).2.1.2.2), D (Y k).2.2) := by rw [e8, er]; rfl
                  refine x_iload (pc := 192) cx (dA ddX8_day (i := 106) rfl) rfl ?_
                  refine x_iconst (pc := 194) (v := nI 5) cx (dA ddX8_day (i := 107) rfl) (by decide) ?_
                  refine x_iload (pc := 195) cx (dA ddX8_day (i := 108) rfl) rfl ?_
                  refine x_S2 (pc := 197) mX8_102 (c_X8_power (by omega)) cx (dA ddX8_day (i := 109) rfl) (kI ?_)
                  refine x_iadd (pc := 200) cx (dA ddX8_day (i := 110) rfl) ?_
                  rw [nI_add]
                  refine x_istore (pc := 201) cx (dA ddX8_day (i := 111) rfl) (by decide) rfl ?_
                  refine x_iinc (pc := 203) cx (dA ddX8_day (i := 112) rfl) rfl (iinc1 _) (by decide) rfl ?_
                  refine x_goto (pc := 206) (tgt := 130) cx (dA ddX8_day (i := 113) rfl) (by decide) ?_
                  have L := ih2 (by omega)
                  rw [e9] at L
                  exact x_enter L ⟨.inr rfl, .inr rfl, .inr rfl, .inr rfl, .inr rfl, .inr rfl, trivial⟩
                · have c163 := ceqT (by omega) (by omega) c163
                  have er : rcvP N (Y k).2.1 k = (N (5 + 5 * k + 3), (Y k).2.1.1, (Y k).2.1.2.1, (Y k).2.1.2.2.1, (Y k).2.1.2.2.2.1, (Y k).2.1.2.2.2.2.1, (Y k).2.1.2.2.2.2.2 + 1) := if_neg (by omega)
                  have e9 : Y (k + 1) = ((Y k).1 + N (5 + 5 * k + 3), ((Y k).2.1.1, (Y k).2.1.2.1, (Y k).2.1.2.2.1, (Y k).2.1.2.2.2.1, (Y k).2.1.2.2.2.2.1, (Y k).2.1.2.2.2.2.2 + 1), D (Y k).2.2) := by rw [e8, er]
                  refine x_iload (pc := 166) cx (dA ddX8_day (i := 91) rfl) rfl ?_
                  refine x_aload_n (pc := 168) cx (dA ddX8_day (i := 92) rfl) rfl ?_
                  refine x_iload_n (pc := 169) cx (dA ddX8_day (i := 93) rfl) rfl ?_
                  refine x_iload (pc := 170) cx (dA ddX8_day (i := 94) rfl) rfl ?_
                  refine x_iconst (pc := 172) (v := nI 3) cx (dA ddX8_day (i := 95) rfl) (by decide) ?_
                  refine x_V3 (pc := 173) mX8_229 h0 (c_X8_numberOf (V := (yV V y (D (Y k).2.2) bq (sumN (N 4) (dig q)) (Y k).2.1.2.2.2.2.2)) hM hh (id hR : MH (yV V y (D (Y k).2.2) bq (sumN (N 4) (dig q)) (Y k).2.1.2.2.2.2.2) y h N) hB (k := k) (w := 3) c137 (by omega)) cx (dA ddX8_day (i := 96) rfl) (kI ?_)
                  refine x_iadd (pc := 176) cx (dA ddX8_day (i := 97) rfl) ?_
                  rw [nI_add]
                  refine x_istore (pc := 177) cx (dA ddX8_day (i := 98) rfl) (by decide) rfl ?_
                  refine x_aload_n (pc := 179) cx (dA ddX8_day (i := 99) rfl) rfl ?_
                  refine x_dup (pc := 180) cx rfl (dA ddX8_day (i := 100) rfl) ?_
                  refine gX8_340 (pc := 181) (congrArg Value.int yv44) cx (dA ddX8_day (i := 101) rfl) h0 ?_
                  refine x_iconst (pc := 184) (v := nI 1) cx (dA ddX8_day (i := 102) rfl) (by decide) ?_
                  refine x_iadd (pc := 185) cx (dA ddX8_day (i := 103) rfl) ?_
                  rw [nI_add]
                  refine pX8_340 (pc := 186)  cx (dA ddX8_day (i := 104) rfl) h0 ?_
                  rw [y_s44]
                  refine x_goto (pc := 189) (tgt := 203) cx (dA ddX8_day (i := 105) rfl) (by decide) ?_
                  refine x_iinc (pc := 203) cx (dA ddX8_day (i := 112) rfl) rfl (iinc1 _) (by decide) rfl ?_
                  refine x_goto (pc := 206) (tgt := 130) cx (dA ddX8_day (i := 113) rfl) (by decide) ?_
                  have L := ih2 (by omega)
                  rw [e9] at L
                  exact x_enter L ⟨.inr rfl, .inr rfl, .inr rfl, .inr rfl, .inr rfl, .inr rfl, trivial⟩
          have L := L130 0 (Nat.zero_le _)
          rw [hY0] at L
          exact x_enter L ⟨.inr rfl, .inr rfl, .inr rfl, .inr rfl, .inr rfl, .inr rfl, trivial⟩
        · have c83 := cleF (by omega) (by omega) c83
          refine x_aload_n (pc := 86) cx (dA ddX8_day (i := 49) rfl) rfl ?_
          refine x_dup (pc := 87) cx rfl (dA ddX8_day (i := 50) rfl) ?_
          refine gX8_337 (pc := 88) (congrArg Value.int yv43) cx (dA ddX8_day (i := 51) rfl) h0 ?_
          refine x_iload (pc := 91) cx (dA ddX8_day (i := 52) rfl) rfl ?_
          refine x_iload (pc := 93) cx (dA ddX8_day (i := 53) rfl) rfl ?_
          refine x_S2 (pc := 95) mX8_226 (c_X8_ofState (s := q) (k := k) (by omega) (by omega)) cx (dA ddX8_day (i := 54) rfl) (kI ?_)
          refine x_iadd (pc := 98) cx (dA ddX8_day (i := 55) rfl) ?_
          rw [nI_add]
          refine pX8_337 (pc := 99)  cx (dA ddX8_day (i := 56) rfl) h0 ?_
          rw [y_s43]
          refine x_iinc (pc := 102) cx (dA ddX8_day (i := 57) rfl) rfl (iinc1 _) (by decide) rfl ?_
          refine x_goto (pc := 105) (tgt := 76) cx (dA ddX8_day (i := 58) rfl) (by decide) ?_
          exact x_enter (ih (by omega)) ⟨.inr rfl, .inr rfl, .inr rfl, .inr rfl, .inr rfl, .inr rfl, .inr rfl, trivial⟩
      exact x_enter (L76 0 (Nat.zero_le _)) ⟨.inr rfl, .inr rfl, .inr rfl, .inr rfl, .inr rfl, .inr rfl, .inr rfl, trivial⟩
    refine x_if_eq (pc := 32) (tgt := 46) cx (dA ddX8_day (i := 19) rfl) (by decide) (fun c32 => ?_) (fun c32 => ?_)
    · have q0 : q = 0 := nI_inj (b := 0) (by omega) (by decide) c32
      refine x_iconst (pc := 46) (v := nI 0) cx (dA ddX8_day (i := 27) rfl) (by decide) ?_
      refine x_istore (pc := 47) cx (dA ddX8_day (i := 28) rfl) (by decide) rfl ?_
      refine x_aload_n (pc := 49) cx (dA ddX8_day (i := 29) rfl) rfl ?_
      refine x_iload (pc := 50) cx (dA ddX8_day (i := 30) rfl) rfl ?_
      refine x_if_eq (pc := 52) (tgt := 59) cx (dA ddX8_day (i := 31) rfl) (by decide) (fun c52 => ?_) (fun c52 => absurd (show nI q = 0 by rw [q0]; rfl) c52)
      refine x_iconst (pc := 59) (v := nI 0) cx (dA ddX8_day (i := 34) rfl) (by decide) ?_
      refine pX8_334 (pc := 60)  cx (dA ddX8_day (i := 35) rfl) h0 ?_
      refine x_aload_n (pc := 63) cx (dA ddX8_day (i := 36) rfl) rfl ?_
      refine x_iconst (pc := 64) (v := nI 0) cx (dA ddX8_day (i := 37) rfl) (by decide) ?_
      refine pX8_337 (pc := 65)  cx (dA ddX8_day (i := 38) rfl) h0 ?_
      refine x_aload_n (pc := 68) cx (dA ddX8_day (i := 39) rfl) rfl ?_
      refine x_iconst (pc := 69) (v := nI 0) cx (dA ddX8_day (i := 40) rfl) (by decide) ?_
      refine pX8_340 (pc := 70)  cx (dA ddX8_day (i := 41) rfl) h0 ?_
      exact x_enter (J73 0 0 (Or.inl ⟨q0, rfl, rfl⟩)) ⟨.inr rfl, .inr rfl, .inr rfl, .inr rfl, .inr rfl, .inr rfl, trivial⟩
    · have q0 : q ≠ 0 := fun e => c32 (by rw [e]; rfl)
      refine x_aload_n (pc := 35) cx (dA ddX8_day (i := 20) rfl) rfl ?_
      refine gX8_45 (pc := 36) (rfA hM.2.2.2.2.2.2.2.2.2.2.2.1.1) cx (dA ddX8_day (i := 21) rfl) h0 ?_
      refine x_iload_n (pc := 39) cx (dA ddX8_day (i := 22) rfl) rfl ?_
      refine x_aaload (pc := 40) cx (dA ddX8_day (i := 23) rfl) hM.2.2.2.2.2.2.2.2.2.2.2.1.2.1 (by decide) (by decide) hh (by decide) ?_
      rw [arA (hM.2.2.2.2.2.2.2.2.2.2.2.1.2.2 h hh).1]
      refine x_iconst (pc := 41) (v := nI 1) cx (dA ddX8_day (i := 24) rfl) (by decide) ?_
      refine x_iaload (pc := 42) cx (dA ddX8_day (i := 25) rfl) (hM.2.2.2.2.2.2.2.2.2.2.2.1.2.2 h hh).2 (by decide) (by decide) ?_
      rw [show (sI V 413 y (D d)).2.2.1 (y + 29 + 1 + h) 1 = nI (N 1) from hR 1 (by omega)]
      refine x_goto (pc := 43) (tgt := 47) cx (dA ddX8_day (i := 26) rfl) (by decide) ?_
      refine x_istore (pc := 47) cx (dA ddX8_day (i := 28) rfl) (by decide) rfl ?_
      refine x_aload_n (pc := 49) cx (dA ddX8_day (i := 29) rfl) rfl ?_
      refine x_iload (pc := 50) cx (dA ddX8_day (i := 30) rfl) rfl ?_
      refine x_if_eq (pc := 52) (tgt := 59) cx (dA ddX8_day (i := 31) rfl) (by decide) (fun c52 => absurd c52 c32) (fun c52 => ?_)
      refine x_iconst (pc := 55) (v := nI 1) cx (dA ddX8_day (i := 32) rfl) (by decide) ?_
      refine x_goto (pc := 56) (tgt := 60) cx (dA ddX8_day (i := 33) rfl) (by decide) ?_
      refine pX8_334 (pc := 60)  cx (dA ddX8_day (i := 35) rfl) h0 ?_
      refine x_aload_n (pc := 63) cx (dA ddX8_day (i := 36) rfl) rfl ?_
      refine x_iconst (pc := 64) (v := nI 0) cx (dA ddX8_day (i := 37) rfl) (by decide) ?_
      refine pX8_337 (pc := 65)  cx (dA ddX8_day (i := 38) rfl) h0 ?_
      refine x_aload_n (pc := 68) cx (dA ddX8_day (i := 39) rfl) rfl ?_
      refine x_iconst (pc := 69) (v := nI 0) cx (dA ddX8_day (i := 40) rfl) (by decide) ?_
      refine pX8_340 (pc := 70)  cx (dA ddX8_day (i := 41) rfl) h0 ?_
      exact x_enter (J73 (N 1) 1 (Or.inr ⟨q0, rfl, rfl⟩)) ⟨.inr rfl, .inr rfl, .inr rfl, .inr rfl, .inr rfl, .inr rfl, trivial⟩
  refine x_icmp_ge (pc := 12) (tgt := 19) cx (dA ddX8_day (i := 8) rfl) (by decide) (fun c12 => ?_) (fun c12 => ?_)
  · have c12 := cleT (by omega) (by omega) c12
    refine x_aload_n (pc := 19) cx (dA ddX8_day (i := 11) rfl) rfl ?_
    refine x_iload_n (pc := 20) cx (dA ddX8_day (i := 12) rfl) rfl ?_
    refine x_iload_n (pc := 21) cx (dA ddX8_day (i := 13) rfl) rfl ?_
    refine x_iload_n (pc := 22) cx (dA ddX8_day (i := 14) rfl) rfl ?_
    refine x_iload (pc := 23) cx (dA ddX8_day (i := 15) rfl) rfl ?_
    refine x_V4 (pc := 25) mX8_274 h0 (c_X8_loadBy (V := (sI V 413 y (D d))) hM hh (id hR : MH (sI V 413 y (D d)) y h N) hB hN hr (id hR5 : MRule (sI V 413 y (D d)) y r κ b m rf) h1 h6 hs hK) cx (dA ddX8_day (i := 16) rfl) (kI ?_)
    exact x_enter (J28 _ (if_neg (by omega)).symm) ⟨.inr rfl, .inr rfl, .inr rfl, .inr rfl, trivial⟩
  · have c12 := cleF (by omega) (by omega) c12
    refine x_iconst (pc := 15) (v := nI 0) cx (dA ddX8_day (i := 9) rfl) (by decide) ?_
    refine x_goto (pc := 16) (tgt := 28) cx (dA ddX8_day (i := 10) rfl) (by decide) ?_
    exact x_enter (J28 0 (if_pos (by omega)).symm) ⟨.inr rfl, .inr rfl, .inr rfl, .inr rfl, trivial⟩
