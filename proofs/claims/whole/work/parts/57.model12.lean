/-- the reference's state is as it was: what is worked out on the way may be new -/
def MF (V V' : zV) (y : Nat) : Prop := (∀ x, x ≠ y → x ≠ y + 14 → x ≠ y + 15 → (x < y + 39 ∨ y + 94 ≤ x) → same4 V V' x) ∧ (∀ i, (i < 423 ∨ i = 439) → V'.1 i y = V.1 i y) ∧ ∀ j, j ≠ 9 → V'.2.2.1 (y + 14) j = V.2.2.1 (y + 14) j ∧ V'.2.2.1 (y + 15) j = V.2.2.1 (y + 15) j
theorem MF.refl (V : zV) (y : Nat) : MF V V y := ⟨fun x _ _ _ _ => same4.refl V x, fun _ _ => rfl, fun _ _ => ⟨rfl, rfl⟩⟩
theorem MF.trans {V V' V'' : zV} {y : Nat} (h : MF V V' y) (h2 : MF V' V'' y) : MF V V'' y := ⟨fun x a b c d => (h.1 x a b c d).trans (h2.1 x a b c d), fun i hi => (h2.2.1 i hi).trans (h.2.1 i hi), fun j hj => ⟨(h2.2.2 j hj).1.trans (h.2.2 j hj).1, (h2.2.2 j hj).2.trans (h.2.2 j hj).2⟩⟩
theorem MF.of {V V' : zV} {y lo hi : Nat} (h : SameB V V' lo hi) (h1 : y + 39 ≤ lo) (h2 : hi ≤ y + 94) : MF V V' y := ⟨fun x _ _ _ hx => h x (by omega), fun i _ => (h y (by omega)).1 i, fun j _ => ⟨(h _ (by omega)).2.2.1 j, (h _ (by omega)).2.2.1 j⟩⟩
theorem MF.mh {V V' : zV} {y h : Nat} {N : Nat → Nat} (hF : MF V V' y) (hR : MH V y h N) (hh : h < 8) : MH V' y h N := fun j hj => ((hF.1 _ (by omega) (by omega) (by omega) (by omega)).2.2.1 j).trans (hR j hj)
theorem MF.sI {V V' : zV} {y f : Nat} {v : Int32} (h : MF V V' y) (h1 : 423 ≤ f) (h2 : f ≠ 439) : MF V (sI V' f y v) y := ⟨fun x a b c d => (h.1 x a b c d).sI a, fun i hi => (sI_ne (by omega)).trans (h.2.1 i hi), h.2.2⟩
theorem MF.r9 {V V' : zV} {y : Nat} {v w : Int32} (h : MF V V' y) : MF V (sAI (sAI V' (y + 14) 9 v) (y + 15) 9 w) y := ⟨fun x a b c d => ((h.1 x a b c d).sAI b).sAI c, h.2.1, fun j hj => ⟨(sAI_ne (by omega)).trans ((sAI_nj hj).trans (h.2.2 j hj).1), (sAI_nj hj).trans ((sAI_ne (by omega)).trans (h.2.2 j hj).2)⟩⟩
theorem WaysV.r9 {V : zV} {y : Nat} {N : Nat → Nat} {v w : Int32} (h4 : N 4 ≤ 3) (h : WaysV V y N) : WaysV (sAI (sAI V (y + 14) 9 v) (y + 15) 9 w) y N := h.same h4 fun x h1 h2 => ((same4.refl V x).sAI (by omega)).sAI (by omega)
theorem bsA_1 {v : Nat → Nat} {ok : Nat → Bool} {lo : Nat} : ∀ {i : Nat}, 1 ≤ i → (bsA v ok lo i).1 ≠ none
  | 0, h => absurd h (by decide)
  | i + 1, _ => by
    unfold bsA
    split
    · exact fun e => by cases e
    · rename_i q
      exact fun e => q (Or.inl e)
theorem mr9 {V : zV} {y κ a : Nat} (h1 : κ = 1 ∧ a ≤ 99 ∨ κ = 2 ∧ 1 ≤ a ∧ a ≤ 6) : MRule (sAI (sAI V (y + 14) 9 (nI κ)) (y + 15) 9 (nI a)) y 9 κ a 0 noF :=
  ⟨(sAI_ne (by omega)).trans sAI_eq, by omega, sAI_eq, fun e => by omega, fun e => by omega, fun e => by omega, fun e => by omega⟩
theorem c_X8_leastOf_1 {l : Launch} {Z : zP} {G : zG} {V : zV} {y : Nat} (hM : ModelAt Z G y) {h : Nat} (hh : h < 8) {N : Nat → Nat} (hR : MH V y h N) (hB : HouseB N) (hN : HOK N) : CT l Z yX8_leastOf cX8_leastOf 11 (some .int) 4 0 0 [.ref y, .int (nI h), .int (nI 1), .int (nI 0), .int (nI 99)] G V (pIx (nhV (plnP N)) G (fun V' => MF V V' y)) := by
  refine CT.of (by decide +kernel) (Nat.le_of_ble_eq_true rfl) (fun X hX cx => ?_)
  subst hX
  show Wm Z X 11 G V 0 0 _ 0 [(0, some (.ref y)), (1, some (.int (nI h))), (2, some (.int (nI 1))), (3, some (.int (nI 0))), (4, some (.int (nI 99)))] []
  have h0 := hM.1
  have b4 := hB.1
  have h06 := hN.2.1
  have n125 := st125 b4
  refine x_iconst (pc := 0) (v := -1) cx (dA ddX8_leastOf (i := 0) rfl) (by decide) ?_
  refine x_istore (pc := 1) cx (dA ddX8_leastOf (i := 1) rfl) (by decide) rfl ?_
  refine x_lconst (pc := 3) (v := lN 0) cx (dA ddX8_leastOf (i := 2) rfl) rfl ?_
  refine x_lstore (pc := 4) cx (dA ddX8_leastOf (i := 3) rfl) (by decide) rfl ?_
  refine x_aload_n (pc := 6) cx (dA ddX8_leastOf (i := 4) rfl) rfl ?_
  refine x_iload_n (pc := 7) cx (dA ddX8_leastOf (i := 5) rfl) rfl ?_
  refine x_V1 (pc := 8) mX8_249 h0 (c_X8_findWays hM hh hR hB hN) cx (dA ddX8_leastOf (i := 6) rfl) (kVx fun V2 hW => ?_)
  refine x_iload_n (pc := 11) cx (dA ddX8_leastOf (i := 7) rfl) rfl ?_
  refine x_istore (pc := 12) cx (dA ddX8_leastOf (i := 8) rfl) (by decide) rfl ?_
  have L14 : ∀ i, i ≤ 100 → ∀ V1, (MF V V1 y ∧ WaysV V1 y N) → Wm Z X 11 G V1 0 0 (rQ Z X 0 0 (pIx (nhV (plnP N)) G (fun V' => MF V V' y))) 14 [(0, some (.ref y)), (1, some (.int (nI h))), (2, some (.int (nI 1))), (3, some (.int (nI 0))), (4, some (.int (nI 99))), (5, some (.int (nhV (bsA (fuV N) (fun a => rmA N (a - 1) (5 ^ N 4)) 0 i).1))), (6, some (.long (lN (bsA (fuV N) (fun a => rmA N (a - 1) (5 ^ N 4)) 0 i).2))), (8, some (.int (nI (0 + i))))] [] := by
    refine lpU 100 (fun i hi ih => ?_)
    intro V1 hF
    refine x_iload (pc := 14) cx (dA ddX8_leastOf (i := 9) rfl) rfl ?_
    refine x_iload (pc := 16) cx (dA ddX8_leastOf (i := 10) rfl) rfl ?_
    refine x_icmp_gt (pc := 18) (tgt := 113) cx (dA ddX8_leastOf (i := 11) rfl) (by decide) (fun c18 => ?_) (fun c18 => ?_)
    · have c18 := cltT (by omega) (by omega) c18
      have ei : i = 100 := by omega
      subst ei
      refine x_iload (pc := 113) cx (dA ddX8_leastOf (i := 64) rfl) rfl ?_
      refine x_ireturn (pc := 115) cx (dA ddX8_leastOf (i := 65) rfl) (by first | exact Nat.le_of_ble_eq_true rfl | omega) (by first | exact Nat.le_of_ble_eq_true rfl | omega) ?_
      exact ⟨rfl, rfl, hF.1⟩
    · have c18 := cltF (by omega) (by omega) c18
      have rv : ∀ x, (bsA (fuV N) (fun a => rmA N (a - 1) (5 ^ N 4)) 0 i).1 = some x → x < 2 ^ 31 := fun x e => by have := bsA_lt e; omega
      have lb := bsA_v (ok := (fun a => rmA N (a - 1) (5 ^ N 4))) (lo := 0) (fuV_lt hN) i
      refine x_iload_n (pc := 21) cx (dA ddX8_leastOf (i := 12) rfl) rfl ?_
      refine x_iconst (pc := 22) (v := nI 2) cx (dA ddX8_leastOf (i := 13) rfl) (by decide) ?_
      refine x_icmp_eq (pc := 23) (tgt := 44) cx (dA ddX8_leastOf (i := 14) rfl) (by decide) (fun c23 => absurd c23 (by decide)) (fun c23 => ?_)
      refine x_iload (pc := 26) cx (dA ddX8_leastOf (i := 15) rfl) rfl ?_
      refine x_iload_n (pc := 28) cx (dA ddX8_leastOf (i := 16) rfl) rfl ?_
      refine x_icmp_eq (pc := 29) (tgt := 44) cx (dA ddX8_leastOf (i := 17) rfl) (by decide) (fun c29 => ?_) (fun c29 => ?_)
      · have c29 := ceqT (by omega) (by omega) c29
        have i0 : i = 0 := by omega
        refine x_aload_n (pc := 44) cx (dA ddX8_leastOf (i := 25) rfl) rfl ?_
        refine gX8_28 (pc := 45) (rfA hM.2.2.2.2.2.2.1.1) cx (dA ddX8_leastOf (i := 26) rfl) h0 ?_
        refine x_bipush (pc := 48) (v := nI 9) cx (dA ddX8_leastOf (i := 27) rfl) (by decide) ?_
        refine x_iload_n (pc := 50) cx (dA ddX8_leastOf (i := 28) rfl) rfl ?_
        refine x_iastore (pc := 51) cx (dA ddX8_leastOf (i := 29) rfl) hM.2.2.2.2.2.2.1.2 (by decide) (by decide) ?_
        refine x_aload_n (pc := 52) cx (dA ddX8_leastOf (i := 30) rfl) rfl ?_
        refine gX8_31 (pc := 53) (rfA hM.2.2.2.2.2.2.2.1.1) cx (dA ddX8_leastOf (i := 31) rfl) h0 ?_
        refine x_bipush (pc := 56) (v := nI 9) cx (dA ddX8_leastOf (i := 32) rfl) (by decide) ?_
        refine x_iload (pc := 58) cx (dA ddX8_leastOf (i := 33) rfl) rfl ?_
        refine x_iastore (pc := 60) cx (dA ddX8_leastOf (i := 34) rfl) hM.2.2.2.2.2.2.2.1.2 (by decide) (by decide) ?_
        refine x_aload_n (pc := 61) cx (dA ddX8_leastOf (i := 35) rfl) rfl ?_
        refine x_iload_n (pc := 62) cx (dA ddX8_leastOf (i := 36) rfl) rfl ?_
        refine x_bipush (pc := 63) (v := nI 9) cx (dA ddX8_leastOf (i := 37) rfl) (by decide) ?_
        refine x_V2 (pc := 65) mX8_278 h0 (c_X8_goesByRule (V := (sAI (sAI V1 (y + 14) 9 (nI 1)) (y + 15) 9 (nI (0 + i)))) hM hh (hF.1.r9.mh hR hh) hB hN (hF.2.r9 b4) (r := 9) (by decide) (mr9 (κ := 1) (a := (0 + i)) (by omega)) (fun e => by cases e)) cx (dA ddX8_leastOf (i := 38) rfl) (kVx fun V3 hG => ?_)
        refine x_aload_n (pc := 68) cx (dA ddX8_leastOf (i := 39) rfl) rfl ?_
        refine gX8_61 (pc := 69) (rfA hM.2.2.2.2.2.2.2.2.2.2.2.2.2.2.2.1.1) cx (dA ddX8_leastOf (i := 40) rfl) h0 ?_
        refine x_aload_n (pc := 72) cx (dA ddX8_leastOf (i := 41) rfl) rfl ?_
        refine gX8_45 (pc := 73) (rfA hM.2.2.2.2.2.2.2.2.2.2.2.1.1) cx (dA ddX8_leastOf (i := 42) rfl) h0 ?_
        refine x_iload_n (pc := 76) cx (dA ddX8_leastOf (i := 43) rfl) rfl ?_
        refine x_aaload (pc := 77) cx (dA ddX8_leastOf (i := 44) rfl) hM.2.2.2.2.2.2.2.2.2.2.2.1.2.1 (by decide) (by decide) hh (by decide) ?_
        rw [arA (hM.2.2.2.2.2.2.2.2.2.2.2.1.2.2 h hh).1]
        refine x_iconst (pc := 78) (v := nI 0) cx (dA ddX8_leastOf (i := 45) rfl) (by decide) ?_
        refine x_iaload (pc := 79) cx (dA ddX8_leastOf (i := 46) rfl) (hM.2.2.2.2.2.2.2.2.2.2.2.1.2.2 h hh).2 (by decide) (by decide) ?_
        have hF3 : MF V V3 y := hF.1.r9.trans (MF.of hG.1 (by omega) (by omega))
        rw [(hF3.mh hR hh) 0 (by omega)]
        refine x_aaload (pc := 80) cx (dA ddX8_leastOf (i := 47) rfl) hM.2.2.2.2.2.2.2.2.2.2.2.2.2.2.2.1.2.1 (by decide) (by decide) (by omega) (by decide) ?_
        rw [arA (hM.2.2.2.2.2.2.2.2.2.2.2.2.2.2.2.1.2.2 (N 0) (by omega)).1]
        refine x_iconst (pc := 81) (v := nI 0) cx (dA ddX8_leastOf (i := 48) rfl) (by decide) ?_
        refine x_laload (pc := 82) cx (dA ddX8_leastOf (i := 49) rfl) (hM.2.2.2.2.2.2.2.2.2.2.2.2.2.2.2.1.2.2 (N 0) (by omega)).2 (by decide) (by decide) ?_
        rw [hG.2.2 (N 0) (by omega) 0 (Nat.pow_pos (by decide)), show rCs N 1 (0 + i) 0 noF (N 0) 0 = fuV N (0 + i) from rC_s.symm]
        refine x_lstore (pc := 83) cx (dA ddX8_leastOf (i := 50) rfl) (by decide) rfl ?_
        refine x_iload (pc := 85) cx (dA ddX8_leastOf (i := 51) rfl) rfl ?_
        refine x_iconst (pc := 87) (v := -1) cx (dA ddX8_leastOf (i := 52) rfl) (by decide) ?_
        refine x_icmp_eq (pc := 88) (tgt := 99) cx (dA ddX8_leastOf (i := 53) rfl) (by decide) (fun c88 => ?_) (fun c88 => ?_)
        · have cn2 := (nhV_m1 rv).mp c88
          have e9 : bsA (fuV N) (fun a => rmA N (a - 1) (5 ^ N 4)) 0 (i + 1) = (some (0 + i), fuV N (0 + i)) := if_pos (Or.inl cn2)
          refine x_iload (pc := 99) cx (dA ddX8_leastOf (i := 58) rfl) rfl ?_
          refine x_istore (pc := 101) cx (dA ddX8_leastOf (i := 59) rfl) (by decide) rfl ?_
          refine x_lload (pc := 103) cx (dA ddX8_leastOf (i := 60) rfl) rfl ?_
          refine x_lstore (pc := 105) cx (dA ddX8_leastOf (i := 61) rfl) (by decide) rfl ?_
          refine x_iinc (pc := 107) cx (dA ddX8_leastOf (i := 62) rfl) rfl (iinc1 _) (by decide) rfl ?_
          refine x_goto (pc := 110) (tgt := 14) cx (dA ddX8_leastOf (i := 63) rfl) (by decide) ?_
          have L := ih (by omega) _ ⟨hF3, hG.2.1⟩
          rw [e9] at L
          rw [show 0 + i + 1 = 0 + (i + 1) by omega]
          exact x_enter L ⟨.inr rfl, .inr rfl, .inr rfl, .inr rfl, .inr rfl, .inr rfl, .inr rfl, .inr rfl, trivial⟩
        · have cn2 : (bsA (fuV N) (fun a => rmA N (a - 1) (5 ^ N 4)) 0 i).1 ≠ none := fun e => c88 ((nhV_m1 rv).mpr e)
          refine x_lload (pc := 91) cx (dA ddX8_leastOf (i := 54) rfl) rfl ?_
          refine x_lload (pc := 93) cx (dA ddX8_leastOf (i := 55) rfl) rfl ?_
          refine x_lc_ge (pc := 95) (tgt := 107) cx (dA ddX8_leastOf (i := 56) rfl) (dA ddX8_leastOf (i := 57) rfl) (by decide) (fun c95 => ?_) (fun c95 => ?_)
          · have e9 : bsA (fuV N) (fun a => rmA N (a - 1) (5 ^ N 4)) 0 (i + 1) = (bsA (fuV N) (fun a => rmA N (a - 1) (5 ^ N 4)) 0 i) := if_neg (fun q => q.elim cn2 (fun q => absurd ((pk_lLT (Nat.lt_trans (fuV_lt hN _) (by decide)) (Nat.lt_trans lb (by decide))).mpr q.2) (Int64.not_lt.mpr c95)))
            refine x_iinc (pc := 107) cx (dA ddX8_leastOf (i := 62) rfl) rfl (iinc1 _) (by decide) rfl ?_
            refine x_goto (pc := 110) (tgt := 14) cx (dA ddX8_leastOf (i := 63) rfl) (by decide) ?_
            have L := ih (by omega) _ ⟨hF3, hG.2.1⟩
            rw [e9] at L
            rw [show 0 + i + 1 = 0 + (i + 1) by omega]
            exact x_enter L ⟨.inr rfl, .inr rfl, .inr rfl, .inr rfl, .inr rfl, .inr rfl, .inr rfl, .inr rfl, trivial⟩
          · have lt := (pk_lLT (Nat.lt_trans (fuV_lt hN _) (by decide)) (Nat.lt_trans lb (by decide))).mp (Int64.not_le.mp c95)
            have okk : (fun a => rmA N (a - 1) (5 ^ N 4)) (0 + i) = true := by first | exact c41 | exact absurd (show i ≠ 0 from Nat.ne_of_gt (bsA_0 cn2)) (fun q => q i0)
            have e9 : bsA (fuV N) (fun a => rmA N (a - 1) (5 ^ N 4)) 0 (i + 1) = (some (0 + i), fuV N (0 + i)) := if_pos (Or.inr ⟨okk, lt⟩)
            refine x_iload (pc := 99) cx (dA ddX8_leastOf (i := 58) rfl) rfl ?_
            refine x_istore (pc := 101) cx (dA ddX8_leastOf (i := 59) rfl) (by decide) rfl ?_
            refine x_lload (pc := 103) cx (dA ddX8_leastOf (i := 60) rfl) rfl ?_
            refine x_lstore (pc := 105) cx (dA ddX8_leastOf (i := 61) rfl) (by decide) rfl ?_
            refine x_iinc (pc := 107) cx (dA ddX8_leastOf (i := 62) rfl) rfl (iinc1 _) (by decide) rfl ?_
            refine x_goto (pc := 110) (tgt := 14) cx (dA ddX8_leastOf (i := 63) rfl) (by decide) ?_
            have L := ih (by omega) _ ⟨hF3, hG.2.1⟩
            rw [e9] at L
            rw [show 0 + i + 1 = 0 + (i + 1) by omega]
            exact x_enter L ⟨.inr rfl, .inr rfl, .inr rfl, .inr rfl, .inr rfl, .inr rfl, .inr rfl, .inr rfl, trivial⟩
      · have c29 := ceqF (by omega) (by omega) c29
        have i1 : 1 ≤ i := by omega
        refine x_aload_n (pc := 32) cx (dA ddX8_leastOf (i := 18) rfl) rfl ?_
        refine x_iload_n (pc := 33) cx (dA ddX8_leastOf (i := 19) rfl) rfl ?_
        refine x_iload (pc := 34) cx (dA ddX8_leastOf (i := 20) rfl) rfl ?_
        refine x_iconst (pc := 36) (v := nI 1) cx (dA ddX8_leastOf (i := 21) rfl) (by decide) ?_
        refine x_isub (pc := 37) cx (dA ddX8_leastOf (i := 22) rfl) ?_
        rw [pk_sub (by omega)]
        refine x_V2 (pc := 38) mX8_304 h0 (c_X8_hasRoom hM hh (hF.1.mh hR hh) hB hF.2.2.1 (by omega)) cx (dA ddX8_leastOf (i := 23) rfl) (kI ?_)
        refine x_if_eq (pc := 41) (tgt := 107) cx (dA ddX8_leastOf (i := 24) rfl) (by decide) (fun c41 => ?_) (fun c41 => ?_)
        · have c41 := b2i_eq c41
          have e9 : bsA (fuV N) (fun a => rmA N (a - 1) (5 ^ N 4)) 0 (i + 1) = (bsA (fuV N) (fun a => rmA N (a - 1) (5 ^ N 4)) 0 i) := if_neg (fun q => q.elim (bsA_1 i1) (fun q => c41 q.1))
          refine x_iinc (pc := 107) cx (dA ddX8_leastOf (i := 62) rfl) rfl (iinc1 _) (by decide) rfl ?_
          refine x_goto (pc := 110) (tgt := 14) cx (dA ddX8_leastOf (i := 63) rfl) (by decide) ?_
          have L := ih (by omega) _ hF
          rw [e9] at L
          rw [show 0 + i + 1 = 0 + (i + 1) by omega]
          exact x_enter L ⟨.inr rfl, .inr rfl, .inr rfl, .inr rfl, .inr rfl, .inr rfl, .inr rfl, .inr rfl, trivial⟩
        · have c41 := b2i_ne c41
          refine x_aload_n (pc := 44) cx (dA ddX8_leastOf (i := 25) rfl) rfl ?_
          refine gX8_28 (pc := 45) (rfA hM.2.2.2.2.2.2.1.1) cx (dA ddX8_leastOf (i := 26) rfl) h0 ?_
          refine x_bipush (pc := 48) (v := nI 9) cx (dA ddX8_leastOf (i := 27) rfl) (by decide) ?_
          refine x_iload_n (pc := 50) cx (dA ddX8_leastOf (i := 28) rfl) rfl ?_
          refine x_iastore (pc := 51) cx (dA ddX8_leastOf (i := 29) rfl) hM.2.2.2.2.2.2.1.2 (by decide) (by decide) ?_
          refine x_aload_n (pc := 52) cx (dA ddX8_leastOf (i := 30) rfl) rfl ?_
          refine gX8_31 (pc := 53) (rfA hM.2.2.2.2.2.2.2.1.1) cx (dA ddX8_leastOf (i := 31) rfl) h0 ?_
          refine x_bipush (pc := 56) (v := nI 9) cx (dA ddX8_leastOf (i := 32) rfl) (by decide) ?_
          refine x_iload (pc := 58) cx (dA ddX8_leastOf (i := 33) rfl) rfl ?_
          refine x_iastore (pc := 60) cx (dA ddX8_leastOf (i := 34) rfl) hM.2.2.2.2.2.2.2.1.2 (by decide) (by decide) ?_
          refine x_aload_n (pc := 61) cx (dA ddX8_leastOf (i := 35) rfl) rfl ?_
          refine x_iload_n (pc := 62) cx (dA ddX8_leastOf (i := 36) rfl) rfl ?_
          refine x_bipush (pc := 63) (v := nI 9) cx (dA ddX8_leastOf (i := 37) rfl) (by decide) ?_
          refine x_V2 (pc := 65) mX8_278 h0 (c_X8_goesByRule (V := (sAI (sAI V1 (y + 14) 9 (nI 1)) (y + 15) 9 (nI (0 + i)))) hM hh (hF.1.r9.mh hR hh) hB hN (hF.2.r9 b4) (r := 9) (by decide) (mr9 (κ := 1) (a := (0 + i)) (by omega)) (fun e => by cases e)) cx (dA ddX8_leastOf (i := 38) rfl) (kVx fun V3 hG => ?_)
          refine x_aload_n (pc := 68) cx (dA ddX8_leastOf (i := 39) rfl) rfl ?_
          refine gX8_61 (pc := 69) (rfA hM.2.2.2.2.2.2.2.2.2.2.2.2.2.2.2.1.1) cx (dA ddX8_leastOf (i := 40) rfl) h0 ?_
          refine x_aload_n (pc := 72) cx (dA ddX8_leastOf (i := 41) rfl) rfl ?_
          refine gX8_45 (pc := 73) (rfA hM.2.2.2.2.2.2.2.2.2.2.2.1.1) cx (dA ddX8_leastOf (i := 42) rfl) h0 ?_
          refine x_iload_n (pc := 76) cx (dA ddX8_leastOf (i := 43) rfl) rfl ?_
          refine x_aaload (pc := 77) cx (dA ddX8_leastOf (i := 44) rfl) hM.2.2.2.2.2.2.2.2.2.2.2.1.2.1 (by decide) (by decide) hh (by decide) ?_
          rw [arA (hM.2.2.2.2.2.2.2.2.2.2.2.1.2.2 h hh).1]
          refine x_iconst (pc := 78) (v := nI 0) cx (dA ddX8_leastOf (i := 45) rfl) (by decide) ?_
          refine x_iaload (pc := 79) cx (dA ddX8_leastOf (i := 46) rfl) (hM.2.2.2.2.2.2.2.2.2.2.2.1.2.2 h hh).2 (by decide) (by decide) ?_
          have hF3 : MF V V3 y := hF.1.r9.trans (MF.of hG.1 (by omega) (by omega))
          rw [(hF3.mh hR hh) 0 (by omega)]
          refine x_aaload (pc := 80) cx (dA ddX8_leastOf (i := 47) rfl) hM.2.2.2.2.2.2.2.2.2.2.2.2.2.2.2.1.2.1 (by decide) (by decide) (by omega) (by decide) ?_
          rw [arA (hM.2.2.2.2.2.2.2.2.2.2.2.2.2.2.2.1.2.2 (N 0) (by omega)).1]
          refine x_iconst (pc := 81) (v := nI 0) cx (dA ddX8_leastOf (i := 48) rfl) (by decide) ?_
          refine x_laload (pc := 82) cx (dA ddX8_leastOf (i := 49) rfl) (hM.2.2.2.2.2.2.2.2.2.2.2.2.2.2.2.1.2.2 (N 0) (by omega)).2 (by decide) (by decide) ?_
          rw [hG.2.2 (N 0) (by omega) 0 (Nat.pow_pos (by decide)), show rCs N 1 (0 + i) 0 noF (N 0) 0 = fuV N (0 + i) from rC_s.symm]
          refine x_lstore (pc := 83) cx (dA ddX8_leastOf (i := 50) rfl) (by decide) rfl ?_
          refine x_iload (pc := 85) cx (dA ddX8_leastOf (i := 51) rfl) rfl ?_
          refine x_iconst (pc := 87) (v := -1) cx (dA ddX8_leastOf (i := 52) rfl) (by decide) ?_
          refine x_icmp_eq (pc := 88) (tgt := 99) cx (dA ddX8_leastOf (i := 53) rfl) (by decide) (fun c88 => ?_) (fun c88 => ?_)
          · have cn2 := (nhV_m1 rv).mp c88
            have e9 : bsA (fuV N) (fun a => rmA N (a - 1) (5 ^ N 4)) 0 (i + 1) = (some (0 + i), fuV N (0 + i)) := if_pos (Or.inl cn2)
            refine x_iload (pc := 99) cx (dA ddX8_leastOf (i := 58) rfl) rfl ?_
            refine x_istore (pc := 101) cx (dA ddX8_leastOf (i := 59) rfl) (by decide) rfl ?_
            refine x_lload (pc := 103) cx (dA ddX8_leastOf (i := 60) rfl) rfl ?_
            refine x_lstore (pc := 105) cx (dA ddX8_leastOf (i := 61) rfl) (by decide) rfl ?_
            refine x_iinc (pc := 107) cx (dA ddX8_leastOf (i := 62) rfl) rfl (iinc1 _) (by decide) rfl ?_
            refine x_goto (pc := 110) (tgt := 14) cx (dA ddX8_leastOf (i := 63) rfl) (by decide) ?_
            have L := ih (by omega) _ ⟨hF3, hG.2.1⟩
            rw [e9] at L
            rw [show 0 + i + 1 = 0 + (i + 1) by omega]
            exact x_enter L ⟨.inr rfl, .inr rfl, .inr rfl, .inr rfl, .inr rfl, .inr rfl, .inr rfl, .inr rfl, trivial⟩
          · have cn2 : (bsA (fuV N) (fun a => rmA N (a - 1) (5 ^ N 4)) 0 i).1 ≠ none := fun e => c88 ((nhV_m1 rv).mpr e)
            refine x_lload (pc := 91) cx (dA ddX8_leastOf (i := 54) rfl) rfl ?_
            refine x_lload (pc := 93) cx (dA ddX8_leastOf (i := 55) rfl) rfl ?_
            refine x_lc_ge (pc := 95) (tgt := 107) cx (dA ddX8_leastOf (i := 56) rfl) (dA ddX8_leastOf (i := 57) rfl) (by decide) (fun c95 => ?_) (fun c95 => ?_)
            · have e9 : bsA (fuV N) (fun a => rmA N (a - 1) (5 ^ N 4)) 0 (i + 1) = (bsA (fuV N) (fun a => rmA N (a - 1) (5 ^ N 4)) 0 i) := if_neg (fun q => q.elim cn2 (fun q => absurd ((pk_lLT (Nat.lt_trans (fuV_lt hN _) (by decide)) (Nat.lt_trans lb (by decide))).mpr q.2) (Int64.not_lt.mpr c95)))
              refine x_iinc (pc := 107) cx (dA ddX8_leastOf (i := 62) rfl) rfl (iinc1 _) (by decide) rfl ?_
              refine x_goto (pc := 110) (tgt := 14) cx (dA ddX8_leastOf (i := 63) rfl) (by decide) ?_
              have L := ih (by omega) _ ⟨hF3, hG.2.1⟩
              rw [e9] at L
              rw [show 0 + i + 1 = 0 + (i + 1) by omega]
              exact x_enter L ⟨.inr rfl, .inr rfl, .inr rfl, .inr rfl, .inr rfl, .inr rfl, .inr rfl, .inr rfl, trivial⟩
            · have lt := (pk_lLT (Nat.lt_trans (fuV_lt hN _) (by decide)) (Nat.lt_trans lb (by decide))).mp (Int64.not_le.mp c95)
              have okk : (fun a => rmA N (a - 1) (5 ^ N 4)) (0 + i) = true := by first | exact c41 | exact absurd (show i ≠ 0 from Nat.ne_of_gt (bsA_0 cn2)) (fun q => q i0)
              have e9 : bsA (fuV N) (fun a => rmA N (a - 1) (5 ^ N 4)) 0 (i + 1) = (some (0 + i), fuV N (0 + i)) := if_pos (Or.inr ⟨okk, lt⟩)
              refine x_iload (pc := 99) cx (dA ddX8_leastOf (i := 58) rfl) rfl ?_
              refine x_istore (pc := 101) cx (dA ddX8_leastOf (i := 59) rfl) (by decide) rfl ?_
              refine x_lload (pc := 103) cx (dA ddX8_leastOf (i := 60) rfl) rfl ?_
              refine x_lstore (pc := 105) cx (dA ddX8_leastOf (i := 61) rfl) (by decide) rfl ?_
              refine x_iinc (pc := 107) cx (dA ddX8_leastOf (i := 62) rfl) rfl (iinc1 _) (by decide) rfl ?_
              refine x_goto (pc := 110) (tgt := 14) cx (dA ddX8_leastOf (i := 63) rfl) (by decide) ?_
              have L := ih (by omega) _ ⟨hF3, hG.2.1⟩
              rw [e9] at L
              rw [show 0 + i + 1 = 0 + (i + 1) by omega]
              exact x_enter L ⟨.inr rfl, .inr rfl, .inr rfl, .inr rfl, .inr rfl, .inr rfl, .inr rfl, .inr rfl, trivial⟩
  exact x_enter (L14 0 (Nat.zero_le _) _ ⟨MF.of hW.2 (by omega) (by omega), hW.1⟩) ⟨.inr rfl, .inr rfl, .inr rfl, .inr rfl, .inr rfl, .inr rfl, .inr rfl, .inr rfl, trivial⟩
theorem c_X8_leastOf_2 {l : Launch} {Z : zP} {G : zG} {V : zV} {y : Nat} (hM : ModelAt Z G y) {h : Nat} (hh : h < 8) {N : Nat → Nat} (hR : MH V y h N) (hB : HouseB N) (hN : HOK N) : CT l Z yX8_leastOf cX8_leastOf 11 (some .int) 4 0 0 [.ref y, .int (nI h), .int (nI 2), .int (nI 1), .int (nI 6)] G V (pIx (nhV (evyP N)) G (fun V' => MF V V' y)) := by
  refine CT.of (by decide +kernel) (Nat.le_of_ble_eq_true rfl) (fun X hX cx => ?_)
  subst hX
  show Wm Z X 11 G V 0 0 _ 0 [(0, some (.ref y)), (1, some (.int (nI h))), (2, some (.int (nI 2))), (3, some (.int (nI 1))), (4, some (.int (nI 6)))] []
  have h0 := hM.1
  have b4 := hB.1
  have h06 := hN.2.1
  have n125 := st125 b4
  refine x_iconst (pc := 0) (v := -1) cx (dA ddX8_leastOf (i := 0) rfl) (by decide) ?_
  refine x_istore (pc := 1) cx (dA ddX8_leastOf (i := 1) rfl) (by decide) rfl ?_
  refine x_lconst (pc := 3) (v := lN 0) cx (dA ddX8_leastOf (i := 2) rfl) rfl ?_
  refine x_lstore (pc := 4) cx (dA ddX8_leastOf (i := 3) rfl) (by decide) rfl ?_
  refine x_aload_n (pc := 6) cx (dA ddX8_leastOf (i := 4) rfl) rfl ?_
  refine x_iload_n (pc := 7) cx (dA ddX8_leastOf (i := 5) rfl) rfl ?_
  refine x_V1 (pc := 8) mX8_249 h0 (c_X8_findWays hM hh hR hB hN) cx (dA ddX8_leastOf (i := 6) rfl) (kVx fun V2 hW => ?_)
  refine x_iload_n (pc := 11) cx (dA ddX8_leastOf (i := 7) rfl) rfl ?_
  refine x_istore (pc := 12) cx (dA ddX8_leastOf (i := 8) rfl) (by decide) rfl ?_
  have L14 : ∀ i, i ≤ 6 → ∀ V1, (MF V V1 y ∧ WaysV V1 y N) → Wm Z X 11 G V1 0 0 (rQ Z X 0 0 (pIx (nhV (evyP N)) G (fun V' => MF V V' y))) 14 [(0, some (.ref y)), (1, some (.int (nI h))), (2, some (.int (nI 2))), (3, some (.int (nI 1))), (4, some (.int (nI 6))), (5, some (.int (nhV (bsA (dyV N) (fun _ => true) 1 i).1))), (6, some (.long (lN (bsA (dyV N) (fun _ => true) 1 i).2))), (8, some (.int (nI (1 + i))))] [] := by
    refine lpU 6 (fun i hi ih => ?_)
    intro V1 hF
    refine x_iload (pc := 14) cx (dA ddX8_leastOf (i := 9) rfl) rfl ?_
    refine x_iload (pc := 16) cx (dA ddX8_leastOf (i := 10) rfl) rfl ?_
    refine x_icmp_gt (pc := 18) (tgt := 113) cx (dA ddX8_leastOf (i := 11) rfl) (by decide) (fun c18 => ?_) (fun c18 => ?_)
    · have c18 := cltT (by omega) (by omega) c18
      have ei : i = 6 := by omega
      subst ei
      refine x_iload (pc := 113) cx (dA ddX8_leastOf (i := 64) rfl) rfl ?_
      refine x_ireturn (pc := 115) cx (dA ddX8_leastOf (i := 65) rfl) (by first | exact Nat.le_of_ble_eq_true rfl | omega) (by first | exact Nat.le_of_ble_eq_true rfl | omega) ?_
      exact ⟨rfl, rfl, hF.1⟩
    · have c18 := cltF (by omega) (by omega) c18
      have rv : ∀ x, (bsA (dyV N) (fun _ => true) 1 i).1 = some x → x < 2 ^ 31 := fun x e => by have := bsA_lt e; omega
      have lb := bsA_v (ok := (fun _ => true)) (lo := 1) (dyV_lt hN) i
      refine x_iload_n (pc := 21) cx (dA ddX8_leastOf (i := 12) rfl) rfl ?_
      refine x_iconst (pc := 22) (v := nI 2) cx (dA ddX8_leastOf (i := 13) rfl) (by decide) ?_
      refine x_icmp_eq (pc := 23) (tgt := 44) cx (dA ddX8_leastOf (i := 14) rfl) (by decide) (fun c23 => ?_) (fun c23 => absurd rfl c23)
      refine x_aload_n (pc := 44) cx (dA ddX8_leastOf (i := 25) rfl) rfl ?_
      refine gX8_28 (pc := 45) (rfA hM.2.2.2.2.2.2.1.1) cx (dA ddX8_leastOf (i := 26) rfl) h0 ?_
      refine x_bipush (pc := 48) (v := nI 9) cx (dA ddX8_leastOf (i := 27) rfl) (by decide) ?_
      refine x_iload_n (pc := 50) cx (dA ddX8_leastOf (i := 28) rfl) rfl ?_
      refine x_iastore (pc := 51) cx (dA ddX8_leastOf (i := 29) rfl) hM.2.2.2.2.2.2.1.2 (by decide) (by decide) ?_
      refine x_aload_n (pc := 52) cx (dA ddX8_leastOf (i := 30) rfl) rfl ?_
      refine gX8_31 (pc := 53) (rfA hM.2.2.2.2.2.2.2.1.1) cx (dA ddX8_leastOf (i := 31) rfl) h0 ?_
      refine x_bipush (pc := 56) (v := nI 9) cx (dA ddX8_leastOf (i := 32) rfl) (by decide) ?_
      refine x_iload (pc := 58) cx (dA ddX8_leastOf (i := 33) rfl) rfl ?_
      refine x_iastore (pc := 60) cx (dA ddX8_leastOf (i := 34) rfl) hM.2.2.2.2.2.2.2.1.2 (by decide) (by decide) ?_
      refine x_aload_n (pc := 61) cx (dA ddX8_leastOf (i := 35) rfl) rfl ?_
      refine x_iload_n (pc := 62) cx (dA ddX8_leastOf (i := 36) rfl) rfl ?_
      refine x_bipush (pc := 63) (v := nI 9) cx (dA ddX8_leastOf (i := 37) rfl) (by decide) ?_
      refine x_V2 (pc := 65) mX8_278 h0 (c_X8_goesByRule (V := (sAI (sAI V1 (y + 14) 9 (nI 2)) (y + 15) 9 (nI (1 + i)))) hM hh (hF.1.r9.mh hR hh) hB hN (hF.2.r9 b4) (r := 9) (by decide) (mr9 (κ := 2) (a := (1 + i)) (by omega)) (fun e => by cases e)) cx (dA ddX8_leastOf (i := 38) rfl) (kVx fun V3 hG => ?_)
      refine x_aload_n (pc := 68) cx (dA ddX8_leastOf (i := 39) rfl) rfl ?_
      refine gX8_61 (pc := 69) (rfA hM.2.2.2.2.2.2.2.2.2.2.2.2.2.2.2.1.1) cx (dA ddX8_leastOf (i := 40) rfl) h0 ?_
      refine x_aload_n (pc := 72) cx (dA ddX8_leastOf (i := 41) rfl) rfl ?_
      refine gX8_45 (pc := 73) (rfA hM.2.2.2.2.2.2.2.2.2.2.2.1.1) cx (dA ddX8_leastOf (i := 42) rfl) h0 ?_
      refine x_iload_n (pc := 76) cx (dA ddX8_leastOf (i := 43) rfl) rfl ?_
      refine x_aaload (pc := 77) cx (dA ddX8_leastOf (i := 44) rfl) hM.2.2.2.2.2.2.2.2.2.2.2.1.2.1 (by decide) (by decide) hh (by decide) ?_
      rw [arA (hM.2.2.2.2.2.2.2.2.2.2.2.1.2.2 h hh).1]
      refine x_iconst (pc := 78) (v := nI 0) cx (dA ddX8_leastOf (i := 45) rfl) (by decide) ?_
      refine x_iaload (pc := 79) cx (dA ddX8_leastOf (i := 46) rfl) (hM.2.2.2.2.2.2.2.2.2.2.2.1.2.2 h hh).2 (by decide) (by decide) ?_
      have hF3 : MF V V3 y := hF.1.r9.trans (MF.of hG.1 (by omega) (by omega))
      rw [(hF3.mh hR hh) 0 (by omega)]
      refine x_aaload (pc := 80) cx (dA ddX8_leastOf (i := 47) rfl) hM.2.2.2.2.2.2.2.2.2.2.2.2.2.2.2.1.2.1 (by decide) (by decide) (by omega) (by decide) ?_
      rw [arA (hM.2.2.2.2.2.2.2.2.2.2.2.2.2.2.2.1.2.2 (N 0) (by omega)).1]
      refine x_iconst (pc := 81) (v := nI 0) cx (dA ddX8_leastOf (i := 48) rfl) (by decide) ?_
      refine x_laload (pc := 82) cx (dA ddX8_leastOf (i := 49) rfl) (hM.2.2.2.2.2.2.2.2.2.2.2.2.2.2.2.1.2.2 (N 0) (by omega)).2 (by decide) (by decide) ?_
      rw [hG.2.2 (N 0) (by omega) 0 (Nat.pow_pos (by decide)), show rCs N 2 (1 + i) 0 noF (N 0) 0 = dyV N (1 + i) from rC_s.symm]
      refine x_lstore (pc := 83) cx (dA ddX8_leastOf (i := 50) rfl) (by decide) rfl ?_
      refine x_iload (pc := 85) cx (dA ddX8_leastOf (i := 51) rfl) rfl ?_
      refine x_iconst (pc := 87) (v := -1) cx (dA ddX8_leastOf (i := 52) rfl) (by decide) ?_
      refine x_icmp_eq (pc := 88) (tgt := 99) cx (dA ddX8_leastOf (i := 53) rfl) (by decide) (fun c88 => ?_) (fun c88 => ?_)
      · have cn2 := (nhV_m1 rv).mp c88
        have e9 : bsA (dyV N) (fun _ => true) 1 (i + 1) = (some (1 + i), dyV N (1 + i)) := if_pos (Or.inl cn2)
        refine x_iload (pc := 99) cx (dA ddX8_leastOf (i := 58) rfl) rfl ?_
        refine x_istore (pc := 101) cx (dA ddX8_leastOf (i := 59) rfl) (by decide) rfl ?_
        refine x_lload (pc := 103) cx (dA ddX8_leastOf (i := 60) rfl) rfl ?_
        refine x_lstore (pc := 105) cx (dA ddX8_leastOf (i := 61) rfl) (by decide) rfl ?_
        refine x_iinc (pc := 107) cx (dA ddX8_leastOf (i := 62) rfl) rfl (iinc1 _) (by decide) rfl ?_
        refine x_goto (pc := 110) (tgt := 14) cx (dA ddX8_leastOf (i := 63) rfl) (by decide) ?_
        have L := ih (by omega) _ ⟨hF3, hG.2.1⟩
        rw [e9] at L
        rw [show 1 + i + 1 = 1 + (i + 1) by omega]
        exact x_enter L ⟨.inr rfl, .inr rfl, .inr rfl, .inr rfl, .inr rfl, .inr rfl, .inr rfl, .inr rfl, trivial⟩
      · have cn2 : (bsA (dyV N) (fun _ => true) 1 i).1 ≠ none := fun e => c88 ((nhV_m1 rv).mpr e)
        refine x_lload (pc := 91) cx (dA ddX8_leastOf (i := 54) rfl) rfl ?_
        refine x_lload (pc := 93) cx (dA ddX8_leastOf (i := 55) rfl) rfl ?_
        refine x_lc_ge (pc := 95) (tgt := 107) cx (dA ddX8_leastOf (i := 56) rfl) (dA ddX8_leastOf (i := 57) rfl) (by decide) (fun c95 => ?_) (fun c95 => ?_)
        · have e9 : bsA (dyV N) (fun _ => true) 1 (i + 1) = (bsA (dyV N) (fun _ => true) 1 i) := if_neg (fun q => q.elim cn2 (fun q => absurd ((pk_lLT (Nat.lt_trans (dyV_lt hN _) (by decide)) (Nat.lt_trans lb (by decide))).mpr q.2) (Int64.not_lt.mpr c95)))
          refine x_iinc (pc := 107) cx (dA ddX8_leastOf (i := 62) rfl) rfl (iinc1 _) (by decide) rfl ?_
          refine x_goto (pc := 110) (tgt := 14) cx (dA ddX8_leastOf (i := 63) rfl) (by decide) ?_
          have L := ih (by omega) _ ⟨hF3, hG.2.1⟩
          rw [e9] at L
          rw [show 1 + i + 1 = 1 + (i + 1) by omega]
          exact x_enter L ⟨.inr rfl, .inr rfl, .inr rfl, .inr rfl, .inr rfl, .inr rfl, .inr rfl, .inr rfl, trivial⟩
        · have lt := (pk_lLT (Nat.lt_trans (dyV_lt hN _) (by decide)) (Nat.lt_trans lb (by decide))).mp (Int64.not_le.mp c95)
          have okk : (fun _ => true) (1 + i) = true := rfl
          have e9 : bsA (dyV N) (fun _ => true) 1 (i + 1) = (some (1 + i), dyV N (1 + i)) := if_pos (Or.inr ⟨okk, lt⟩)
          refine x_iload (pc := 99) cx (dA ddX8_leastOf (i := 58) rfl) rfl ?_
          refine x_istore (pc := 101) cx (dA ddX8_leastOf (i := 59) rfl) (by decide) rfl ?_
          refine x_lload (pc := 103) cx (dA ddX8_leastOf (i := 60) rfl) rfl ?_
          refine x_lstore (pc := 105) cx (dA ddX8_leastOf (i := 61) rfl) (by decide) rfl ?_
          refine x_iinc (pc := 107) cx (dA ddX8_leastOf (i := 62) rfl) rfl (iinc1 _) (by decide) rfl ?_
          refine x_goto (pc := 110) (tgt := 14) cx (dA ddX8_leastOf (i := 63) rfl) (by decide) ?_
          have L := ih (by omega) _ ⟨hF3, hG.2.1⟩
          rw [e9] at L
          rw [show 1 + i + 1 = 1 + (i + 1) by omega]
          exact x_enter L ⟨.inr rfl, .inr rfl, .inr rfl, .inr rfl, .inr rfl, .inr rfl, .inr rfl, .inr rfl, trivial⟩
  exact x_enter (L14 0 (Nat.zero_le _) _ ⟨MF.of hW.2 (by omega) (by omega), hW.1⟩) ⟨.inr rfl, .inr rfl, .inr rfl, .inr rfl, .inr rfl, .inr rfl, .inr rfl, .inr rfl, trivial⟩
