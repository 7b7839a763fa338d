theorem c_X7_boy {l : Launch} {Z : zP} {G : zG} {V : zV} {x : Nat} {col : Nat → Nat} {S : SX} (hRC : RC Z G V x col S) {h : Int32} : CT l Z yX7_boy cX7_boy 10 (some .int) 8 0 0 [.ref x, .int h] G V (pCI Z G V x col (fBoy S h)) := by
  refine CT.of (by decide +kernel) (Nat.le_of_ble_eq_true rfl) (fun X hX cx => ?_)
  subst hX
  show Wm Z X 10 G V 0 0 _ 0 [(0, some (.ref x)), (1, some (.int h))] []
  have hQ := hRC.1
  have h0 := hQ.1
  have hWd := hRC.2.2.2.2.1
  have c6 := hWd.2.1
  have hO := RO.refl hRC
  refine x_aload_n (pc := 0) cx (dA ddX7_boy (i := 0) rfl) rfl ?_
  refine x_iload_n (pc := 1) cx (dA ddX7_boy (i := 1) rfl) rfl ?_
  by_cases ch : okc S h
  · obtain ⟨i, hi, rfl, ti⟩ := i32_in ch
    have i6 : i < 6 := by omega
    have eX : hX S (nI i) = S.1.2.1 i := hX_at (by omega)
    have hP := (hQ.2.2.2.2.2.2.2.2.2.2.2.2 i i6).2
    obtain ⟨-, hN, zN⟩ := hWd.2.2.1 i hi
    have hB := hN.1
    have b4 := hB.1
    have n125 := st125 b4
    have h06 := hN.2.1
    refine x_V1 (pc := 2) mX7_183 h0 (hO.po hi) cx (dA ddX7_boy (i := 2) rfl) (kRx fun V2 h2 => ?_)
    obtain ⟨hO, hT⟩ := hO.tu i6 zN h2
    rw [show va_rf (some (x + 70 + 12 * i)) = .ref (x + 70 + 12 * i) from rfl]
    refine x_astore_n (pc := 5) cx (dA ddX7_boy (i := 3) rfl) (by decide) rfl ?_
    refine x_aload_n (pc := 6) cx (dA ddX7_boy (i := 4) rfl) rfl ?_
    refine x_ifnonnull_s (pc := 7) (tgt := 17) cx (dA ddX7_boy (i := 5) rfl) (by decide) ?_
    refine x_iconst (pc := 17) (v := -1) cx (dA ddX7_boy (i := 10) rfl) (by decide) ?_
    refine x_istore_n (pc := 18) cx (dA ddX7_boy (i := 11) rfl) (by decide) rfl ?_
    refine x_lconst (pc := 19) (v := lN 0) cx (dA ddX7_boy (i := 12) rfl) rfl ?_
    refine x_lstore (pc := 20) cx (dA ddX7_boy (i := 13) rfl) (by decide) rfl ?_
    refine x_iconst (pc := 22) (v := nI 0) cx (dA ddX7_boy (i := 14) rfl) (by decide) ?_
    refine x_istore (pc := 23) cx (dA ddX7_boy (i := 15) rfl) (by decide) rfl ?_
    have L25 : ∀ r, r ≤ 8 → ∀ V1, (RO Z G V x col S V1 ∧ PlanT V1 (x + 70 + 12 * i) (S.1.2.1 i)) → Wm Z X 10 G V1 0 0 (rQ Z X 0 0 (pCI Z G V x col (fBoy S (nI i)))) 25 [(0, some (.ref x)), (1, some (.int (nI i))), (2, some (.ref (x + 70 + 12 * i))), (3, some (.int (nhV (boA S (S.1.2.1 i) r).1))), (4, some (.long (lN (boA S (S.1.2.1 i) r).2))), (6, some (.int (nI r)))] [] := by
      refine lpU 8 (fun r hs ih => ?_)
      intro V1 hI
      obtain ⟨hO, hT⟩ := hI
      refine x_iload (pc := 25) cx (dA ddX7_boy (i := 16) rfl) rfl ?_
      refine x_bipush (pc := 27) (v := nI 8) cx (dA ddX7_boy (i := 17) rfl) (by decide) ?_
      refine x_icmp_ge (pc := 29) (tgt := 85) cx (dA ddX7_boy (i := 18) rfl) (by decide) (fun c29 => ?_) (fun c29 => ?_)
      · have c29 := cleT (by omega) (by omega) c29
        have es : r = 8 := by omega
        subst es
        refine x_iload_n (pc := 85) cx (dA ddX7_boy (i := 46) rfl) rfl ?_
        refine x_iconst (pc := 86) (v := -1) cx (dA ddX7_boy (i := 47) rfl) (by decide) ?_
        refine x_icmp_ne (pc := 87) (tgt := 99) cx (dA ddX7_boy (i := 48) rfl) (by decide) (fun c87 => ?_) (fun c87 => ?_)
        · obtain ⟨s, es⟩ : ∃ s, (boA S (S.1.2.1 i) 8).1 = some s := by cases e : (boA S (S.1.2.1 i) 8).1 with | none => exact absurd (by rw [e]; rfl) c87 | some s => exact ⟨s, rfl⟩
          refine x_iload_n (pc := 99) cx (dA ddX7_boy (i := 53) rfl) rfl ?_
          refine x_ireturn (pc := 100) cx (dA ddX7_boy (i := 54) rfl) (by first | exact Nat.le_of_ble_eq_true rfl | omega) (by first | exact Nat.le_of_ble_eq_true rfl | omega) ?_
          exact pCI.q hO (by unfold fBoy; rw [if_pos ch, eX, es]; rfl)
        · have es := (nhV_m1 (fun x e => by have := boA_lt e; omega)).mp c87
          refine x_aload_n (pc := 90) cx (dA ddX7_boy (i := 49) rfl) rfl ?_
          refine x_bipush (pc := 91) (v := -5) cx (dA ddX7_boy (i := 50) rfl) (by decide) ?_
          refine x_V1 (pc := 93) mX7_74 h0 (c_X7_refuse hQ (i := 3) (by decide) rfl) cx (dA ddX7_boy (i := 51) rfl) (kI ?_)
          refine x_goto (pc := 96) (tgt := 100) cx (dA ddX7_boy (i := 52) rfl) (by decide) ?_
          refine x_ireturn (pc := 100) cx (dA ddX7_boy (i := 54) rfl) (by first | exact Nat.le_of_ble_eq_true rfl | omega) (by first | exact Nat.le_of_ble_eq_true rfl | omega) ?_
          exact pCI.r hO (by decide) (by unfold fBoy; rw [if_pos ch, eX, es])
      · have c29 := cleF (by omega) (by omega) c29
        have hr : r < 8 := c29
        have rv : ∀ x, (boA S (S.1.2.1 i) r).1 = some x → x < 2 ^ 31 := fun x e => by have := boA_lt e; omega
        have lb := boA_v (S := S) hN r
        refine x_aload_n (pc := 32) cx (dA ddX7_boy (i := 19) rfl) rfl ?_
        refine x_aload_n (pc := 33) cx (dA ddX7_boy (i := 20) rfl) rfl ?_
        refine x_iload (pc := 34) cx (dA ddX7_boy (i := 21) rfl) rfl ?_
        rcases sh3 (S.2.2.2.1 r) with e | ⟨q, e⟩ | ⟨q, e⟩
        · obtain ⟨e7, e8⟩ := hO.1.sh0 hr e
          refine x_V2 (pc := 36) mX7_245 h0 (c_X7_ruleFor_n hQ hP hT.1 e8) cx (dA ddX7_boy (i := 22) rfl) (kR ?_)
          rw [show va_rf none = .null from rfl]
          have nr : ∀ q, S.2.2.2.1 r ≠ some (.inr q) := fun q e2 => by rw [e] at e2; cases e2
          have e9 : boA S (S.1.2.1 i) (r + 1) = (boA S (S.1.2.1 i) r) := boA_n nr
          refine x_astoreN (pc := 39) cx (dA ddX7_boy (i := 23) rfl) (by decide) rfl ?_
          refine x_aloadN (pc := 41) cx (dA ddX7_boy (i := 24) rfl) rfl ?_
          refine x_ifnull_n (pc := 43) (tgt := 79) cx (dA ddX7_boy (i := 25) rfl) (by decide) ?_
          refine x_iinc (pc := 79) cx (dA ddX7_boy (i := 44) rfl) rfl (iinc1 _) (by decide) rfl ?_
          refine x_goto (pc := 82) (tgt := 25) cx (dA ddX7_boy (i := 45) rfl) (by decide) ?_
          have L := ih (by omega) _ ⟨hO, hT⟩
          rw [e9] at L
          exact x_enter L ⟨.inr rfl, .inr rfl, .inr rfl, .inr rfl, .inr rfl, .inr rfl, trivial⟩
        · obtain ⟨e8, a, e7, hRw, rT, t5, rE, -, -⟩ := hO.1.shl hr e
          refine x_V2 (pc := 36) mX7_245 h0 (c_X7_ruleFor_n hQ hP hT.1 e8) cx (dA ddX7_boy (i := 22) rfl) (kR ?_)
          rw [show va_rf none = .null from rfl]
          have nr : ∀ q, S.2.2.2.1 r ≠ some (.inr q) := fun q e2 => by rw [e] at e2; cases e2
          have e9 : boA S (S.1.2.1 i) (r + 1) = (boA S (S.1.2.1 i) r) := boA_n nr
          refine x_astoreN (pc := 39) cx (dA ddX7_boy (i := 23) rfl) (by decide) rfl ?_
          refine x_aloadN (pc := 41) cx (dA ddX7_boy (i := 24) rfl) rfl ?_
          refine x_ifnull_n (pc := 43) (tgt := 79) cx (dA ddX7_boy (i := 25) rfl) (by decide) ?_
          refine x_iinc (pc := 79) cx (dA ddX7_boy (i := 44) rfl) rfl (iinc1 _) (by decide) rfl ?_
          refine x_goto (pc := 82) (tgt := 25) cx (dA ddX7_boy (i := 45) rfl) (by decide) ?_
          have L := ih (by omega) _ ⟨hO, hT⟩
          rw [e9] at L
          exact x_enter L ⟨.inr rfl, .inr rfl, .inr rfl, .inr rfl, .inr rfl, .inr rfl, trivial⟩
        · obtain ⟨e7, a, e8, hR⟩ := hO.1.shr hr e
          obtain ⟨K, hC⟩ := hT.2.1
          refine x_V2 (pc := 36) mX7_245 h0 (c_X7_ruleFor hQ hP hT.1 hC hR.1 e8) cx (dA ddX7_boy (i := 22) rfl) (kRx fun V2 h2 => ?_)
          obtain ⟨K2, hk, hk4, h2⟩ := h2
          obtain ⟨hO, hT⟩ := hO.pw i6 zN hT h2
          have hC := h2.2.1
          obtain ⟨-, a2, e82, hR⟩ := hO.1.shr hr e
          rw [e8] at e82
          cases e82
          rw [show va_rf (some a) = .ref a from rfl]
          refine x_astore (pc := 39) cx (dA ddX7_boy (i := 23) rfl) (by decide) rfl ?_
          refine x_aload (pc := 41) cx (dA ddX7_boy (i := 24) rfl) rfl ?_
          refine x_ifnull_s (pc := 43) cx (dA ddX7_boy (i := 25) rfl) ?_
          refine x_aload_n (pc := 46) cx (dA ddX7_boy (i := 26) rfl) rfl ?_
          refine x_aload (pc := 47) cx (dA ddX7_boy (i := 27) rfl) rfl ?_
          refine x_aload_n (pc := 49) cx (dA ddX7_boy (i := 28) rfl) rfl ?_
          have stp : boA S (S.1.2.1 i) (r + 1) = if (boA S (S.1.2.1 i) r).1 = none ∨ rCs (S.1.2.1 i) q.1 q.2.1 q.2.2.1 q.2.2.2 (S.1.2.1 i 0) 0 < (boA S (S.1.2.1 i) r).2 then (some r, rCs (S.1.2.1 i) q.1 q.2.1 q.2.2.1 q.2.2.2 (S.1.2.1 i 0) 0) else (boA S (S.1.2.1 i) r) := by show (match S.2.2.2.1 r with | some (.inr q) => _ | _ => _) = _; rw [e]
          have rl : rCs (S.1.2.1 i) q.1 q.2.1 q.2.2.1 q.2.2.2 (S.1.2.1 i 0) 0 < 2 ^ 62 := by rw [← rC_s]; exact rC_lt hN h06.2 (Nat.pow_pos (by decide))
          refine gX7_228 (pc := 50) (congrArg Value.int hT.1.2.2.1) cx (dA ddX7_boy (i := 29) rfl) hP.1 ?_
          refine x_iconst (pc := 53) (v := nI 0) cx (dA ddX7_boy (i := 30) rfl) (by decide) ?_
          refine x_V3 (pc := 54) mX7_253 hP.1 (c_X1_costBy hP hT.1 hC hR.1 (z := S.1.2.1 i 0) (by omega) (s := 0) (Nat.pow_pos (by decide)) (fun e => by have := hk4 e; omega)) cx (dA ddX7_boy (i := 31) rfl) (kJx fun V2 h2 => ?_)
          obtain ⟨hO, hT⟩ := hO.px i6 zN hT h2
          rw [rC_s]
          refine x_lstore (pc := 57) cx (dA ddX7_boy (i := 32) rfl) (by decide) rfl ?_
          refine x_iload_n (pc := 59) cx (dA ddX7_boy (i := 33) rfl) rfl ?_
          refine x_iconst (pc := 60) (v := -1) cx (dA ddX7_boy (i := 34) rfl) (by decide) ?_
          refine x_icmp_eq (pc := 61) (tgt := 72) cx (dA ddX7_boy (i := 35) rfl) (by decide) (fun c61 => ?_) (fun c61 => ?_)
          · have cn := (nhV_m1 rv).mp c61
            have e9 := stp.trans (if_pos (Or.inl cn))
            refine x_iload (pc := 72) cx (dA ddX7_boy (i := 40) rfl) rfl ?_
            refine x_istore_n (pc := 74) cx (dA ddX7_boy (i := 41) rfl) (by decide) rfl ?_
            refine x_lload (pc := 75) cx (dA ddX7_boy (i := 42) rfl) rfl ?_
            refine x_lstore (pc := 77) cx (dA ddX7_boy (i := 43) rfl) (by decide) rfl ?_
            refine x_iinc (pc := 79) cx (dA ddX7_boy (i := 44) rfl) rfl (iinc1 _) (by decide) rfl ?_
            refine x_goto (pc := 82) (tgt := 25) cx (dA ddX7_boy (i := 45) rfl) (by decide) ?_
            have L := ih (by omega) _ ⟨hO, hT⟩
            rw [e9] at L
            exact x_enter L ⟨.inr rfl, .inr rfl, .inr rfl, .inr rfl, .inr rfl, .inr rfl, trivial⟩
          · have cn : (boA S (S.1.2.1 i) r).1 ≠ none := fun e => c61 ((nhV_m1 rv).mpr e)
            refine x_lload (pc := 64) cx (dA ddX7_boy (i := 36) rfl) rfl ?_
            refine x_lload (pc := 66) cx (dA ddX7_boy (i := 37) rfl) rfl ?_
            refine x_lc_ge (pc := 68) (tgt := 79) cx (dA ddX7_boy (i := 38) rfl) (dA ddX7_boy (i := 39) rfl) (by decide) (fun c68 => ?_) (fun c68 => ?_)
            · have e9 := stp.trans (if_neg (fun q => q.elim cn (fun q => absurd ((pk_lLT (Nat.lt_trans rl (by decide)) (Nat.lt_trans lb (by decide))).mpr q) (Int64.not_lt.mpr c68))))
              refine x_iinc (pc := 79) cx (dA ddX7_boy (i := 44) rfl) rfl (iinc1 _) (by decide) rfl ?_
              refine x_goto (pc := 82) (tgt := 25) cx (dA ddX7_boy (i := 45) rfl) (by decide) ?_
              have L := ih (by omega) _ ⟨hO, hT⟩
              rw [e9] at L
              exact x_enter L ⟨.inr rfl, .inr rfl, .inr rfl, .inr rfl, .inr rfl, .inr rfl, trivial⟩
            · have lt := (pk_lLT (Nat.lt_trans rl (by decide)) (Nat.lt_trans lb (by decide))).mp (Int64.not_le.mp c68)
              have e9 := stp.trans (if_pos (Or.inr lt))
              refine x_iload (pc := 72) cx (dA ddX7_boy (i := 40) rfl) rfl ?_
              refine x_istore_n (pc := 74) cx (dA ddX7_boy (i := 41) rfl) (by decide) rfl ?_
              refine x_lload (pc := 75) cx (dA ddX7_boy (i := 42) rfl) rfl ?_
              refine x_lstore (pc := 77) cx (dA ddX7_boy (i := 43) rfl) (by decide) rfl ?_
              refine x_iinc (pc := 79) cx (dA ddX7_boy (i := 44) rfl) rfl (iinc1 _) (by decide) rfl ?_
              refine x_goto (pc := 82) (tgt := 25) cx (dA ddX7_boy (i := 45) rfl) (by decide) ?_
              have L := ih (by omega) _ ⟨hO, hT⟩
              rw [e9] at L
              exact x_enter L ⟨.inr rfl, .inr rfl, .inr rfl, .inr rfl, .inr rfl, .inr rfl, trivial⟩
    exact x_enter (L25 0 (Nat.zero_le _) V2 ⟨hO, hT⟩) ⟨.inr rfl, .inr rfl, .inr rfl, .inr rfl, .inr rfl, .inr rfl, trivial⟩
  · refine x_V1 (pc := 2) mX7_183 h0 (hO.pn ch) cx (dA ddX7_boy (i := 2) rfl) (kR ?_)
    rw [show va_rf none = .null from rfl]
    refine x_astore_nN (pc := 5) cx (dA ddX7_boy (i := 3) rfl) (by decide) rfl ?_
    refine x_aload_nN (pc := 6) cx (dA ddX7_boy (i := 4) rfl) rfl ?_
    refine x_ifnonnull_n (pc := 7) cx (dA ddX7_boy (i := 5) rfl) ?_
    refine x_aload_n (pc := 10) cx (dA ddX7_boy (i := 6) rfl) rfl ?_
    refine x_bipush (pc := 11) (v := -2) cx (dA ddX7_boy (i := 7) rfl) (by decide) ?_
    refine x_V1 (pc := 13) mX7_74 h0 (c_X7_refuse hQ (i := 0) (by decide) rfl) cx (dA ddX7_boy (i := 8) rfl) (kI ?_)
    refine x_ireturn (pc := 16) cx (dA ddX7_boy (i := 9) rfl) (by first | exact Nat.le_of_ble_eq_true rfl | omega) (by first | exact Nat.le_of_ble_eq_true rfl | omega) ?_
    first | exact pCI.r hO (by decide) (if_neg (fun q => ch q))
theorem c_X7_houseOf {l : Launch} {Z : zP} {G : zG} {V : zV} {x : Nat} {col : Nat → Nat} {S : SX} (hRC : RC Z G V x col S) {h w : Int32} : CT l Z yX7_houseOf cX7_houseOf 4 (some .int) 8 0 0 [.ref x, .int h, .int w] G V (pCI Z G V x col (fHouseOf S h w)) := by
  refine CT.of (by decide +kernel) (Nat.le_of_ble_eq_true rfl) (fun X hX cx => ?_)
  subst hX
  show Wm Z X 4 G V 0 0 _ 0 [(0, some (.ref x)), (1, some (.int h)), (2, some (.int w))] []
  have hQ := hRC.1
  have h0 := hQ.1
  have hWd := hRC.2.2.2.2.1
  have c6 := hWd.2.1
  have hO := RO.refl hRC
  refine x_aload_n (pc := 0) cx (dA ddX7_houseOf (i := 0) rfl) rfl ?_
  refine gX7_10 (pc := 1) (rfA hQ.2.1.1) cx (dA ddX7_houseOf (i := 1) rfl) h0 ?_
  refine x_iload_n (pc := 4) cx (dA ddX7_houseOf (i := 2) rfl) rfl ?_
  by_cases ch : okc S h
  · obtain ⟨i, hi, rfl, ti⟩ := i32_in ch
    have i6 : i < 6 := by omega
    have eX : hX S (nI i) = S.1.2.1 i := hX_at (by omega)
    obtain ⟨hV, hN, zN⟩ := hWd.2.2.1 i hi
    have oH := (hQ.2.1.2.2.2.2.2.2 i i6).2
    have hB := hN.1
    have b4 := hB.1
    have n125 := st125 b4
    have h06 := hN.2.1
    have ehs : hsA (x + 1) S.1.1 (nI i) = some (x + 1 + 5 + 2 * i) := by unfold hsA; rw [nI_toInt (by omega), if_pos (by omega)]; rfl
    refine x_V1 (pc := 5) mX7_156 hQ.2.1.2.1 (c_X6_houseAt hQ.2.1.2 hWd.1 c6) cx (dA ddX7_houseOf (i := 3) rfl) (kR ?_)
    rw [ehs, show va_rf (some (x + 1 + 5 + 2 * i)) = .ref (x + 1 + 5 + 2 * i) from rfl]
    refine x_astore_n (pc := 8) cx (dA ddX7_houseOf (i := 4) rfl) (by decide) rfl ?_
    refine x_aload_n (pc := 9) cx (dA ddX7_houseOf (i := 5) rfl) rfl ?_
    refine x_ifnull_s (pc := 10) cx (dA ddX7_houseOf (i := 6) rfl) ?_
    refine x_iload_n (pc := 13) cx (dA ddX7_houseOf (i := 7) rfl) rfl ?_
    refine x_if_lt (pc := 14) (tgt := 22) cx (dA ddX7_houseOf (i := 8) rfl) (by decide) (fun c14 => ?_) (fun c14 => ?_)
    · rw [i32_lt, toI_0] at c14
      refine x_aload_n (pc := 22) cx (dA ddX7_houseOf (i := 12) rfl) rfl ?_
      refine x_bipush (pc := 23) (v := -2) cx (dA ddX7_houseOf (i := 13) rfl) (by decide) ?_
      refine x_V1 (pc := 25) mX7_74 h0 (c_X7_refuse hQ (i := 0) (by decide) rfl) cx (dA ddX7_houseOf (i := 14) rfl) (kI ?_)
      refine x_ireturn (pc := 28) cx (dA ddX7_houseOf (i := 15) rfl) (by first | exact Nat.le_of_ble_eq_true rfl | omega) (by first | exact Nat.le_of_ble_eq_true rfl | omega) ?_
      first | exact pCI.r hO (by decide) (if_neg (fun q => ch q.1)) | exact pCI.r hO (by decide) (if_neg (fun q => by have := q.2; omega))
    · rw [i32_lt, toI_0] at c14
      refine x_iload_n (pc := 17) cx (dA ddX7_houseOf (i := 9) rfl) rfl ?_
      refine x_iconst (pc := 18) (v := nI 5) cx (dA ddX7_houseOf (i := 10) rfl) (by decide) ?_
      refine x_icmp_lt (pc := 19) (tgt := 29) cx (dA ddX7_houseOf (i := 11) rfl) (by decide) (fun c19 => ?_) (fun c19 => ?_)
      · rw [i32_lt, show (nI 5).toInt = 5 from rfl] at c19
        have cw : 0 ≤ w.toInt ∧ w.toInt ≤ 4 := by omega
        obtain ⟨w, hw, rfl, tw⟩ := i32_in (x := w) (n := 5) (by omega)
        refine x_aload_n (pc := 29) cx (dA ddX7_houseOf (i := 16) rfl) rfl ?_
        refine x_iload_n (pc := 30) cx (dA ddX7_houseOf (i := 17) rfl) rfl ?_
        refine x_V1 (pc := 31) mX7_160 oH.1 (c_X0_number oH hV hB (w := w) hw) cx (dA ddX7_houseOf (i := 18) rfl) (kI ?_)
        refine x_ireturn (pc := 34) cx (dA ddX7_houseOf (i := 19) rfl) (by first | exact Nat.le_of_ble_eq_true rfl | omega) (by first | exact Nat.le_of_ble_eq_true rfl | omega) ?_
        exact pCI.q hO (by unfold fHouseOf; rw [if_pos ⟨ch, cw⟩]; simp only [hX, ti, tw])
      · rw [i32_lt, show (nI 5).toInt = 5 from rfl] at c19
        refine x_aload_n (pc := 22) cx (dA ddX7_houseOf (i := 12) rfl) rfl ?_
        refine x_bipush (pc := 23) (v := -2) cx (dA ddX7_houseOf (i := 13) rfl) (by decide) ?_
        refine x_V1 (pc := 25) mX7_74 h0 (c_X7_refuse hQ (i := 0) (by decide) rfl) cx (dA ddX7_houseOf (i := 14) rfl) (kI ?_)
        refine x_ireturn (pc := 28) cx (dA ddX7_houseOf (i := 15) rfl) (by first | exact Nat.le_of_ble_eq_true rfl | omega) (by first | exact Nat.le_of_ble_eq_true rfl | omega) ?_
        first | exact pCI.r hO (by decide) (if_neg (fun q => ch q.1)) | exact pCI.r hO (by decide) (if_neg (fun q => by have := q.2; omega))
  · have ehs : hsA (x + 1) S.1.1 h = none := if_neg ch
    refine x_V1 (pc := 5) mX7_156 hQ.2.1.2.1 (c_X6_houseAt hQ.2.1.2 hWd.1 c6) cx (dA ddX7_houseOf (i := 3) rfl) (kR ?_)
    rw [ehs, show va_rf none = .null from rfl]
    refine x_astore_nN (pc := 8) cx (dA ddX7_houseOf (i := 4) rfl) (by decide) rfl ?_
    refine x_aload_nN (pc := 9) cx (dA ddX7_houseOf (i := 5) rfl) rfl ?_
    refine x_ifnull_n (pc := 10) (tgt := 22) cx (dA ddX7_houseOf (i := 6) rfl) (by decide) ?_
    refine x_aload_n (pc := 22) cx (dA ddX7_houseOf (i := 12) rfl) rfl ?_
    refine x_bipush (pc := 23) (v := -2) cx (dA ddX7_houseOf (i := 13) rfl) (by decide) ?_
    refine x_V1 (pc := 25) mX7_74 h0 (c_X7_refuse hQ (i := 0) (by decide) rfl) cx (dA ddX7_houseOf (i := 14) rfl) (kI ?_)
    refine x_ireturn (pc := 28) cx (dA ddX7_houseOf (i := 15) rfl) (by first | exact Nat.le_of_ble_eq_true rfl | omega) (by first | exact Nat.le_of_ble_eq_true rfl | omega) ?_
    first | exact pCI.r hO (by decide) (if_neg (fun q => ch q.1)) | exact pCI.r hO (by decide) (if_neg (fun q => by have := q.2; omega))
theorem c_X7_scale {l : Launch} {Z : zP} {G : zG} {V : zV} {x : Nat} {col : Nat → Nat} {S : SX} (hRC : RC Z G V x col S) {h d : Int32} : CT l Z yX7_scale cX7_scale 4 (some .long) 8 0 0 [.ref x, .int h, .int d] G V (pCJ Z G V x col (fScale S h d)) := by
  refine CT.of (by decide +kernel) (Nat.le_of_ble_eq_true rfl) (fun X hX cx => ?_)
  subst hX
  show Wm Z X 4 G V 0 0 _ 0 [(0, some (.ref x)), (1, some (.int h)), (2, some (.int d))] []
  have hQ := hRC.1
  have h0 := hQ.1
  have hWd := hRC.2.2.2.2.1
  have c6 := hWd.2.1
  have hO := RO.refl hRC
  refine x_aload_n (pc := 0) cx (dA ddX7_scale (i := 0) rfl) rfl ?_
  refine gX7_10 (pc := 1) (rfA hQ.2.1.1) cx (dA ddX7_scale (i := 1) rfl) h0 ?_
  refine x_iload_n (pc := 4) cx (dA ddX7_scale (i := 2) rfl) rfl ?_
  by_cases ch : okc S h
  · obtain ⟨i, hi, rfl, ti⟩ := i32_in ch
    have i6 : i < 6 := by omega
    have eX : hX S (nI i) = S.1.2.1 i := hX_at (by omega)
    obtain ⟨hV, hN, zN⟩ := hWd.2.2.1 i hi
    have oH := (hQ.2.1.2.2.2.2.2.2 i i6).2
    have hB := hN.1
    have b4 := hB.1
    have n125 := st125 b4
    have h06 := hN.2.1
    have ehs : hsA (x + 1) S.1.1 (nI i) = some (x + 1 + 5 + 2 * i) := by unfold hsA; rw [nI_toInt (by omega), if_pos (by omega)]; rfl
    refine x_V1 (pc := 5) mX7_156 hQ.2.1.2.1 (c_X6_houseAt hQ.2.1.2 hWd.1 c6) cx (dA ddX7_scale (i := 3) rfl) (kR ?_)
    rw [ehs, show va_rf (some (x + 1 + 5 + 2 * i)) = .ref (x + 1 + 5 + 2 * i) from rfl]
    refine x_astore_n (pc := 8) cx (dA ddX7_scale (i := 4) rfl) (by decide) rfl ?_
    refine x_aload_n (pc := 9) cx (dA ddX7_scale (i := 5) rfl) rfl ?_
    refine x_ifnull_s (pc := 10) cx (dA ddX7_scale (i := 6) rfl) ?_
    refine x_iload_n (pc := 13) cx (dA ddX7_scale (i := 7) rfl) rfl ?_
    refine x_if_lt (pc := 14) (tgt := 25) cx (dA ddX7_scale (i := 8) rfl) (by decide) (fun c14 => ?_) (fun c14 => ?_)
    · rw [i32_lt, toI_0] at c14
      refine x_aload_n (pc := 25) cx (dA ddX7_scale (i := 13) rfl) rfl ?_
      refine x_bipush (pc := 26) (v := -2) cx (dA ddX7_scale (i := 14) rfl) (by decide) ?_
      refine x_V1 (pc := 28) mX7_74 h0 (c_X7_refuse hQ (i := 0) (by decide) rfl) cx (dA ddX7_scale (i := 15) rfl) (kI ?_)
      refine x_i2l (pc := 31) cx (dA ddX7_scale (i := 16) rfl) ?_
      refine x_lreturn (pc := 32) cx (dA ddX7_scale (i := 17) rfl) (by first | exact Nat.le_of_ble_eq_true rfl | omega) (by first | exact Nat.le_of_ble_eq_true rfl | omega) ?_
      first | exact pCJ.r hO (by decide) (if_neg (fun q => ch q.1)) | exact pCJ.r hO (by decide) (if_neg (fun q => by have := q.2; rw [eX] at this; omega))
    · rw [i32_lt, toI_0] at c14
      refine x_iload_n (pc := 17) cx (dA ddX7_scale (i := 9) rfl) rfl ?_
      refine x_aload_n (pc := 18) cx (dA ddX7_scale (i := 10) rfl) rfl ?_
      refine x_V0 (pc := 19) mX7_193 oH.1 (c_X0_days oH hV hB) cx (dA ddX7_scale (i := 11) rfl) (kI ?_)
      refine x_icmp_le (pc := 22) (tgt := 33) cx (dA ddX7_scale (i := 12) rfl) (by decide) (fun c22 => ?_) (fun c22 => ?_)
      · rw [i32_le, nI_toInt (by omega)] at c22
        have cP : okl (hX S (nI i)) d := by rw [eX]; omega
        obtain ⟨d, hd, rfl, td⟩ := i32_in (x := d) (n := S.1.2.1 i 0 + 1) (by omega)
        refine x_iload_n (pc := 33) cx (dA ddX7_scale (i := 18) rfl) rfl ?_
        refine x_aload_n (pc := 34) cx (dA ddX7_scale (i := 19) rfl) rfl ?_
        refine x_V0 (pc := 35) mX7_196 oH.1 (c_X0_sorts oH hV hB) cx (dA ddX7_scale (i := 20) rfl) (kI ?_)
        refine x_S2 (pc := 38) mX7_199 (c_X7_scaleOf (a := d) (b := S.1.2.1 i 4) (by have : d * (1 + S.1.2.1 i 4) ≤ 6 * 4 := Nat.mul_le_mul (by omega) (by omega); omega)) cx (dA ddX7_scale (i := 21) rfl) (kJ ?_)
        refine x_lreturn (pc := 41) cx (dA ddX7_scale (i := 22) rfl) (by first | exact Nat.le_of_ble_eq_true rfl | omega) (by first | exact Nat.le_of_ble_eq_true rfl | omega) ?_
        exact pCJ.q hO (by unfold fScale; rw [if_pos ⟨ch, cP⟩]; simp only [hX, ti, td]; rfl)
      · rw [i32_le, nI_toInt (by omega)] at c22
        refine x_aload_n (pc := 25) cx (dA ddX7_scale (i := 13) rfl) rfl ?_
        refine x_bipush (pc := 26) (v := -2) cx (dA ddX7_scale (i := 14) rfl) (by decide) ?_
        refine x_V1 (pc := 28) mX7_74 h0 (c_X7_refuse hQ (i := 0) (by decide) rfl) cx (dA ddX7_scale (i := 15) rfl) (kI ?_)
        refine x_i2l (pc := 31) cx (dA ddX7_scale (i := 16) rfl) ?_
        refine x_lreturn (pc := 32) cx (dA ddX7_scale (i := 17) rfl) (by first | exact Nat.le_of_ble_eq_true rfl | omega) (by first | exact Nat.le_of_ble_eq_true rfl | omega) ?_
        first | exact pCJ.r hO (by decide) (if_neg (fun q => ch q.1)) | exact pCJ.r hO (by decide) (if_neg (fun q => by have := q.2; rw [eX] at this; omega))
  · have ehs : hsA (x + 1) S.1.1 h = none := if_neg ch
    refine x_V1 (pc := 5) mX7_156 hQ.2.1.2.1 (c_X6_houseAt hQ.2.1.2 hWd.1 c6) cx (dA ddX7_scale (i := 3) rfl) (kR ?_)
    rw [ehs, show va_rf none = .null from rfl]
    refine x_astore_nN (pc := 8) cx (dA ddX7_scale (i := 4) rfl) (by decide) rfl ?_
    refine x_aload_nN (pc := 9) cx (dA ddX7_scale (i := 5) rfl) rfl ?_
    refine x_ifnull_n (pc := 10) (tgt := 25) cx (dA ddX7_scale (i := 6) rfl) (by decide) ?_
    refine x_aload_n (pc := 25) cx (dA ddX7_scale (i := 13) rfl) rfl ?_
    refine x_bipush (pc := 26) (v := -2) cx (dA ddX7_scale (i := 14) rfl) (by decide) ?_
    refine x_V1 (pc := 28) mX7_74 h0 (c_X7_refuse hQ (i := 0) (by decide) rfl) cx (dA ddX7_scale (i := 15) rfl) (kI ?_)
    refine x_i2l (pc := 31) cx (dA ddX7_scale (i := 16) rfl) ?_
    refine x_lreturn (pc := 32) cx (dA ddX7_scale (i := 17) rfl) (by first | exact Nat.le_of_ble_eq_true rfl | omega) (by first | exact Nat.le_of_ble_eq_true rfl | omega) ?_
    first | exact pCJ.r hO (by decide) (if_neg (fun q => ch q.1)) | exact pCJ.r hO (by decide) (if_neg (fun q => by have := q.2; rw [eX] at this; omega))
theorem c_X7_sortOf {l : Launch} {Z : zP} {G : zG} {V : zV} {x : Nat} {col : Nat → Nat} {S : SX} (hRC : RC Z G V x col S) {h k w : Int32} : CT l Z yX7_sortOf cX7_sortOf 5 (some .int) 8 0 0 [.ref x, .int h, .int k, .int w] G V (pCI Z G V x col (fSortOf S h k w)) := by
  refine CT.of (by decide +kernel) (Nat.le_of_ble_eq_true rfl) (fun X hX cx => ?_)
  subst hX
  show Wm Z X 5 G V 0 0 _ 0 [(0, some (.ref x)), (1, some (.int h)), (2, some (.int k)), (3, some (.int w))] []
  have hQ := hRC.1
  have h0 := hQ.1
  have hWd := hRC.2.2.2.2.1
  have c6 := hWd.2.1
  have hO := RO.refl hRC
  refine x_aload_n (pc := 0) cx (dA ddX7_sortOf (i := 0) rfl) rfl ?_
  refine gX7_10 (pc := 1) (rfA hQ.2.1.1) cx (dA ddX7_sortOf (i := 1) rfl) h0 ?_
  refine x_iload_n (pc := 4) cx (dA ddX7_sortOf (i := 2) rfl) rfl ?_
  by_cases ch : okc S h
  · obtain ⟨i, hi, rfl, ti⟩ := i32_in ch
    have i6 : i < 6 := by omega
    have eX : hX S (nI i) = S.1.2.1 i := hX_at (by omega)
    obtain ⟨hV, hN, zN⟩ := hWd.2.2.1 i hi
    have oH := (hQ.2.1.2.2.2.2.2.2 i i6).2
    have hB := hN.1
    have b4 := hB.1
    have n125 := st125 b4
    have h06 := hN.2.1
    have ehs : hsA (x + 1) S.1.1 (nI i) = some (x + 1 + 5 + 2 * i) := by unfold hsA; rw [nI_toInt (by omega), if_pos (by omega)]; rfl
    refine x_V1 (pc := 5) mX7_156 hQ.2.1.2.1 (c_X6_houseAt hQ.2.1.2 hWd.1 c6) cx (dA ddX7_sortOf (i := 3) rfl) (kR ?_)
    rw [ehs, show va_rf (some (x + 1 + 5 + 2 * i)) = .ref (x + 1 + 5 + 2 * i) from rfl]
    refine x_astore (pc := 8) cx (dA ddX7_sortOf (i := 4) rfl) (by decide) rfl ?_
    refine x_aload (pc := 10) cx (dA ddX7_sortOf (i := 5) rfl) rfl ?_
    refine x_ifnull_s (pc := 12) cx (dA ddX7_sortOf (i := 6) rfl) ?_
    refine x_aload (pc := 15) cx (dA ddX7_sortOf (i := 7) rfl) rfl ?_
    refine x_iload_n (pc := 17) cx (dA ddX7_sortOf (i := 8) rfl) rfl ?_
    refine x_V1 (pc := 18) mX7_163 oH.1 (c_X0_hasSort oH hV hB) cx (dA ddX7_sortOf (i := 9) rfl) (kI ?_)
    refine x_if_eq (pc := 21) (tgt := 33) cx (dA ddX7_sortOf (i := 10) rfl) (by decide) (fun c21 => ?_) (fun c21 => ?_)
    · have cK : ¬ okk (hX S (nI i)) k := by rw [eX]; exact b2i_eq c21
      refine x_aload_n (pc := 33) cx (dA ddX7_sortOf (i := 16) rfl) rfl ?_
      refine x_bipush (pc := 34) (v := -2) cx (dA ddX7_sortOf (i := 17) rfl) (by decide) ?_
      refine x_V1 (pc := 36) mX7_74 h0 (c_X7_refuse hQ (i := 0) (by decide) rfl) cx (dA ddX7_sortOf (i := 18) rfl) (kI ?_)
      refine x_ireturn (pc := 39) cx (dA ddX7_sortOf (i := 19) rfl) (by first | exact Nat.le_of_ble_eq_true rfl | omega) (by first | exact Nat.le_of_ble_eq_true rfl | omega) ?_
      first | exact pCI.r hO (by decide) (if_neg (fun q => ch q.1)) | exact pCI.r hO (by decide) (if_neg (fun q => cK q.2.1)) | exact pCI.r hO (by decide) (if_neg (fun q => by have := q.2.2; omega))
    · have cK := b2i_ne c21
      obtain ⟨k, hk, rfl, tk⟩ := i32_in (x := k) (n := S.1.2.1 i 4) cK
      have cK : okk (hX S (nI i)) (nI k) := by rw [eX]; exact cK
      refine x_iload_n (pc := 24) cx (dA ddX7_sortOf (i := 11) rfl) rfl ?_
      refine x_if_lt (pc := 25) (tgt := 33) cx (dA ddX7_sortOf (i := 12) rfl) (by decide) (fun c25 => ?_) (fun c25 => ?_)
      · rw [i32_lt, toI_0] at c25
        refine x_aload_n (pc := 33) cx (dA ddX7_sortOf (i := 16) rfl) rfl ?_
        refine x_bipush (pc := 34) (v := -2) cx (dA ddX7_sortOf (i := 17) rfl) (by decide) ?_
        refine x_V1 (pc := 36) mX7_74 h0 (c_X7_refuse hQ (i := 0) (by decide) rfl) cx (dA ddX7_sortOf (i := 18) rfl) (kI ?_)
        refine x_ireturn (pc := 39) cx (dA ddX7_sortOf (i := 19) rfl) (by first | exact Nat.le_of_ble_eq_true rfl | omega) (by first | exact Nat.le_of_ble_eq_true rfl | omega) ?_
        first | exact pCI.r hO (by decide) (if_neg (fun q => ch q.1)) | exact pCI.r hO (by decide) (if_neg (fun q => cK q.2.1)) | exact pCI.r hO (by decide) (if_neg (fun q => by have := q.2.2; omega))
      · rw [i32_lt, toI_0] at c25
        refine x_iload_n (pc := 28) cx (dA ddX7_sortOf (i := 13) rfl) rfl ?_
        refine x_iconst (pc := 29) (v := nI 5) cx (dA ddX7_sortOf (i := 14) rfl) (by decide) ?_
        refine x_icmp_lt (pc := 30) (tgt := 40) cx (dA ddX7_sortOf (i := 15) rfl) (by decide) (fun c30 => ?_) (fun c30 => ?_)
        · rw [i32_lt, show (nI 5).toInt = 5 from rfl] at c30
          have cw : 0 ≤ w.toInt ∧ w.toInt ≤ 4 := by omega
          obtain ⟨w, hw, rfl, tw⟩ := i32_in (x := w) (n := 5) (by omega)
          refine x_aload (pc := 40) cx (dA ddX7_sortOf (i := 20) rfl) rfl ?_
          refine x_iload_n (pc := 42) cx (dA ddX7_sortOf (i := 21) rfl) rfl ?_
          refine x_iload_n (pc := 43) cx (dA ddX7_sortOf (i := 22) rfl) rfl ?_
          refine x_V2 (pc := 44) mX7_166 oH.1 (c_X0_sortNumber oH hV hB (s := k) (w := w) (by omega) hw) cx (dA ddX7_sortOf (i := 23) rfl) (kI ?_)
          refine x_ireturn (pc := 47) cx (dA ddX7_sortOf (i := 24) rfl) (by first | exact Nat.le_of_ble_eq_true rfl | omega) (by first | exact Nat.le_of_ble_eq_true rfl | omega) ?_
          exact pCI.q hO (by unfold fSortOf; rw [if_pos ⟨ch, cK, cw⟩]; simp only [hX, ti, tk, tw])
        · rw [i32_lt, show (nI 5).toInt = 5 from rfl] at c30
          refine x_aload_n (pc := 33) cx (dA ddX7_sortOf (i := 16) rfl) rfl ?_
          refine x_bipush (pc := 34) (v := -2) cx (dA ddX7_sortOf (i := 17) rfl) (by decide) ?_
          refine x_V1 (pc := 36) mX7_74 h0 (c_X7_refuse hQ (i := 0) (by decide) rfl) cx (dA ddX7_sortOf (i := 18) rfl) (kI ?_)
          refine x_ireturn (pc := 39) cx (dA ddX7_sortOf (i := 19) rfl) (by first | exact Nat.le_of_ble_eq_true rfl | omega) (by first | exact Nat.le_of_ble_eq_true rfl | omega) ?_
          first | exact pCI.r hO (by decide) (if_neg (fun q => ch q.1)) | exact pCI.r hO (by decide) (if_neg (fun q => cK q.2.1)) | exact pCI.r hO (by decide) (if_neg (fun q => by have := q.2.2; omega))
  · have ehs : hsA (x + 1) S.1.1 h = none := if_neg ch
    refine x_V1 (pc := 5) mX7_156 hQ.2.1.2.1 (c_X6_houseAt hQ.2.1.2 hWd.1 c6) cx (dA ddX7_sortOf (i := 3) rfl) (kR ?_)
    rw [ehs, show va_rf none = .null from rfl]
    refine x_astoreN (pc := 8) cx (dA ddX7_sortOf (i := 4) rfl) (by decide) rfl ?_
    refine x_aloadN (pc := 10) cx (dA ddX7_sortOf (i := 5) rfl) rfl ?_
    refine x_ifnull_n (pc := 12) (tgt := 33) cx (dA ddX7_sortOf (i := 6) rfl) (by decide) ?_
    refine x_aload_n (pc := 33) cx (dA ddX7_sortOf (i := 16) rfl) rfl ?_
    refine x_bipush (pc := 34) (v := -2) cx (dA ddX7_sortOf (i := 17) rfl) (by decide) ?_
    refine x_V1 (pc := 36) mX7_74 h0 (c_X7_refuse hQ (i := 0) (by decide) rfl) cx (dA ddX7_sortOf (i := 18) rfl) (kI ?_)
    refine x_ireturn (pc := 39) cx (dA ddX7_sortOf (i := 19) rfl) (by first | exact Nat.le_of_ble_eq_true rfl | omega) (by first | exact Nat.le_of_ble_eq_true rfl | omega) ?_
    first | exact pCI.r hO (by decide) (if_neg (fun q => ch q.1)) | exact pCI.r hO (by decide) (if_neg (fun q => cK q.2.1)) | exact pCI.r hO (by decide) (if_neg (fun q => by have := q.2.2; omega))
theorem c_X7_of {l : Launch} {Z : zP} {G : zG} {V : zV} {x : Nat} {col : Nat → Nat} {S : SX} (hRC : RC Z G V x col S) {t k : Int32} : CT l Z yX7_of cX7_of 3 (some .int) 8 0 0 [.ref x, .int t, .int k] G V (pCI Z G V x col (fOf S t k)) := by
  refine CT.of (by decide +kernel) (Nat.le_of_ble_eq_true rfl) (fun X hX cx => ?_)
  subst hX
  show Wm Z X 3 G V 0 0 _ 0 [(0, some (.ref x)), (1, some (.int t)), (2, some (.int k))] []
  have hQ := hRC.1
  have h0 := hQ.1
  have hWd := hRC.2.2.2.2.1
  have c6 := hWd.2.1
  have hO := RO.refl hRC
  refine x_iload_n (pc := 0) cx (dA ddX7_of (i := 0) rfl) rfl ?_
  refine x_if_lt (pc := 1) (tgt := 19) cx (dA ddX7_of (i := 1) rfl) (by decide) (fun c1 => ?_) (fun c1 => ?_)
  · rw [i32_lt, toI_0] at c1
    refine x_aload_n (pc := 19) cx (dA ddX7_of (i := 10) rfl) rfl ?_
    refine x_bipush (pc := 20) (v := -2) cx (dA ddX7_of (i := 11) rfl) (by decide) ?_
    refine x_V1 (pc := 22) mX7_74 h0 (c_X7_refuse hQ (i := 0) (by decide) rfl) cx (dA ddX7_of (i := 12) rfl) (kI ?_)
    refine x_ireturn (pc := 25) cx (dA ddX7_of (i := 13) rfl) (by first | exact Nat.le_of_ble_eq_true rfl | omega) (by first | exact Nat.le_of_ble_eq_true rfl | omega) ?_
    first | exact pCI.r hO (by decide) (if_neg (fun q => by have := q.1; omega)) | exact pCI.r hO (by decide) (if_neg (fun q => by have := q.2; omega))
  · rw [i32_lt, toI_0] at c1
    refine x_iload_n (pc := 4) cx (dA ddX7_of (i := 2) rfl) rfl ?_
    refine x_bipush (pc := 5) (v := nI 125) cx (dA ddX7_of (i := 3) rfl) (by decide) ?_
    refine x_icmp_ge (pc := 7) (tgt := 19) cx (dA ddX7_of (i := 4) rfl) (by decide) (fun c7 => ?_) (fun c7 => ?_)
    · rw [i32_le, show (nI 125).toInt = 125 from rfl] at c7
      refine x_aload_n (pc := 19) cx (dA ddX7_of (i := 10) rfl) rfl ?_
      refine x_bipush (pc := 20) (v := -2) cx (dA ddX7_of (i := 11) rfl) (by decide) ?_
      refine x_V1 (pc := 22) mX7_74 h0 (c_X7_refuse hQ (i := 0) (by decide) rfl) cx (dA ddX7_of (i := 12) rfl) (kI ?_)
      refine x_ireturn (pc := 25) cx (dA ddX7_of (i := 13) rfl) (by first | exact Nat.le_of_ble_eq_true rfl | omega) (by first | exact Nat.le_of_ble_eq_true rfl | omega) ?_
      first | exact pCI.r hO (by decide) (if_neg (fun q => by have := q.1; omega)) | exact pCI.r hO (by decide) (if_neg (fun q => by have := q.2; omega))
    · rw [i32_le, show (nI 125).toInt = 125 from rfl] at c7
      refine x_iload_n (pc := 10) cx (dA ddX7_of (i := 5) rfl) rfl ?_
      refine x_if_lt (pc := 11) (tgt := 19) cx (dA ddX7_of (i := 6) rfl) (by decide) (fun c11 => ?_) (fun c11 => ?_)
      · rw [i32_lt, toI_0] at c11
        refine x_aload_n (pc := 19) cx (dA ddX7_of (i := 10) rfl) rfl ?_
        refine x_bipush (pc := 20) (v := -2) cx (dA ddX7_of (i := 11) rfl) (by decide) ?_
        refine x_V1 (pc := 22) mX7_74 h0 (c_X7_refuse hQ (i := 0) (by decide) rfl) cx (dA ddX7_of (i := 12) rfl) (kI ?_)
        refine x_ireturn (pc := 25) cx (dA ddX7_of (i := 13) rfl) (by first | exact Nat.le_of_ble_eq_true rfl | omega) (by first | exact Nat.le_of_ble_eq_true rfl | omega) ?_
        first | exact pCI.r hO (by decide) (if_neg (fun q => by have := q.1; omega)) | exact pCI.r hO (by decide) (if_neg (fun q => by have := q.2; omega))
      · rw [i32_lt, toI_0] at c11
        refine x_iload_n (pc := 14) cx (dA ddX7_of (i := 7) rfl) rfl ?_
        refine x_iconst (pc := 15) (v := nI 3) cx (dA ddX7_of (i := 8) rfl) (by decide) ?_
        refine x_icmp_lt (pc := 16) (tgt := 26) cx (dA ddX7_of (i := 9) rfl) (by decide) (fun c16 => ?_) (fun c16 => ?_)
        · rw [i32_lt, show (nI 3).toInt = 3 from rfl] at c16
          have C : (0 ≤ t.toInt ∧ t.toInt ≤ 124) ∧ 0 ≤ k.toInt ∧ k.toInt ≤ 2 := by omega
          obtain ⟨t, ht, rfl, tt⟩ := i32_in (x := t) (n := 125) (by omega)
          obtain ⟨k, hk, rfl, tk⟩ := i32_in (x := k) (n := 3) (by omega)
          refine x_iload_n (pc := 26) cx (dA ddX7_of (i := 14) rfl) rfl ?_
          refine x_iload_n (pc := 27) cx (dA ddX7_of (i := 15) rfl) rfl ?_
          refine x_S2 (pc := 28) mX7_180 (c_X7_standing ht hk) cx (dA ddX7_of (i := 16) rfl) (kI ?_)
          refine x_ireturn (pc := 31) cx (dA ddX7_of (i := 17) rfl) (by first | exact Nat.le_of_ble_eq_true rfl | omega) (by first | exact Nat.le_of_ble_eq_true rfl | omega) ?_
          exact pCI.q hO (by unfold fOf; rw [if_pos C, tt, tk])
        · rw [i32_lt, show (nI 3).toInt = 3 from rfl] at c16
          refine x_aload_n (pc := 19) cx (dA ddX7_of (i := 10) rfl) rfl ?_
          refine x_bipush (pc := 20) (v := -2) cx (dA ddX7_of (i := 11) rfl) (by decide) ?_
          refine x_V1 (pc := 22) mX7_74 h0 (c_X7_refuse hQ (i := 0) (by decide) rfl) cx (dA ddX7_of (i := 12) rfl) (kI ?_)
          refine x_ireturn (pc := 25) cx (dA ddX7_of (i := 13) rfl) (by first | exact Nat.le_of_ble_eq_true rfl | omega) (by first | exact Nat.le_of_ble_eq_true rfl | omega) ?_
          first | exact pCI.r hO (by decide) (if_neg (fun q => by have := q.1; omega)) | exact pCI.r hO (by decide) (if_neg (fun q => by have := q.2; omega))
