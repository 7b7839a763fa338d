theorem ldP_lt {N : Nat → Nat} (hN : HOK N) {z s : Nat} (h1 : 1 ≤ z) (h6 : z ≤ 6) (hs : s < 5 ^ N 4) : ldP N z s ≤ s := by
  have h := ruL_le hN (κ := 4) (b := 0) (m := 0) (rf := fun _ => true) h1 h6 hs
  unfold ruL at h
  rwa [if_pos rfl] at h
theorem nI_max {a b : Nat} (ha : a < 2 ^ 31) (hb : b < 2 ^ 31) : (if nI a < nI b then nI b else nI a) = nI (max a b) := by
  by_cases h : a < b
  · rw [if_pos ((nI_ltI ha hb).mpr h), Nat.max_eq_right (by omega)]
  · rw [if_neg (fun q => h ((nI_ltI ha hb).mp q)), Nat.max_eq_left (by omega)]
theorem jdR_le {N : Nat → Nat} (hB : HouseB N) {s : Nat} {g : Nat → Int64} : ∀ {n : Nat}, jdB s g n = true → n ≤ N 4 → jdR N g n ≤ 1188 := by
  intro n h hn
  have hk : ∀ i, i < n → 0 ≤ g i ∧ g i ≤ lN (dig s i) := fun i hi => Classical.byContradiction (fun q => by rw [jdB_f q hi] at h; cases h)
  have h1 := sumN_le (n := n) (M := 4 * 99) (f := fun i => (g i).toNatClampNeg * N (5 + 5 * i + 0)) (fun i hi => by
    have dl := dig_lt s i
    have gk := l64_nat (hk i hi).1 (hk i hi).2 (by omega)
    have h4 := hB.1
    exact Nat.mul_le_mul (by omega) (hB.2 _ (by omega)))
  have h3 := hB.1
  have h2 : n * (4 * 99) ≤ 3 * (4 * 99) := Nat.mul_le_mul_right _ (by omega)
  unfold jdR
  omega
theorem c_X1_spread {l : Launch} {Z : zP} {G : zG} {V : zV} {p : Nat} (hP : PlanAt Z G p) {N : Nat → Nat} (hH : PlanH V p N) {K : Nat} (hC : PlanC V p N K) {q κ b m : Nat} {rf : Nat → Bool} (hR : RuleAt Z G V q κ b m rf) {z : Nat} (hz : z ≤ N 0) (hK4 : κ = 4 → N 0 < K) : CT l Z yX1_spread cX1_spread 4 none 5 0 0 [.ref p, .ref q, .int (nI z)] G V (pV G (chJ V p N (chP N (fun d => ruL N κ b m rf d) (N 0 - z)))) := by
  refine CT.of (by decide +kernel) (Nat.le_of_ble_eq_true rfl) (fun X hX cx => ?_)
  subst hX
  show Wm Z X 4 G V 0 0 _ 0 [(0, some (.ref p)), (1, some (.ref q)), (2, some (.int (nI z)))] []
  have h0 := hP.1
  have hh := hP.2.2.1.1
  have hN := hH.1
  have hB := hN.1
  have n4 := hB.1
  have hV := hH.2.1
  have n125 := st125 n4
  have eD := hH.2.2.1
  have eS := hH.2.2.2.1
  have eN := hH.2.2.2.2.1
  have eK := hC.1
  have h06 := hN.2.1
  have hL : ∀ d, 1 ≤ d → d ≤ 6 → ∀ s, s < 5 ^ N 4 → ruL N κ b m rf d s ≤ s := fun d h1 h6 s hs => ruL_le hN h1 h6 hs
  refine x_aload_n (pc := 0) cx (dA ddX1_spread (i := 0) rfl) rfl ?_
  refine x_V0 (pc := 1) mX1_226 h0 (c_X1_startSpread hP hH) cx (dA ddX1_spread (i := 1) rfl) (kV ?_)
  rw [show (fun t => if t = 0 then 1 else 0) = chP N (fun d => ruL N κ b m rf d) 0 from rfl]
  refine x_aload_n (pc := 4) cx (dA ddX1_spread (i := 2) rfl) rfl ?_
  refine gX1_66 (pc := 5) (congrArg Value.int eD) cx (dA ddX1_spread (i := 3) rfl) h0 ?_
  refine x_istore_n (pc := 8) cx (dA ddX1_spread (i := 4) rfl) (by decide) rfl ?_
  have L9 : ∀ i, i ≤ N 0 - z → ∀ v : Int32, v.toInt = (N 0 : Int) - (i : Int) → Wm Z X 4 G (chJ V p N (chP N (fun d => ruL N κ b m rf d) i)) 0 0 (rQ Z X 0 0 (pV G (chJ V p N (chP N (fun d => ruL N κ b m rf d) (N 0 - z))))) 9 [(0, some (.ref p)), (1, some (.ref q)), (2, some (.int (nI z))), (3, some (.int v))] [] := by
    refine lpU (N 0 - z) (fun i hi ih => ?_)
    intro v hv
    refine x_iload_n (pc := 9) cx (dA ddX1_spread (i := 5) rfl) rfl ?_
    refine x_iload_n (pc := 10) cx (dA ddX1_spread (i := 6) rfl) rfl ?_
    refine x_icmp_le (pc := 11) (tgt := 31) cx (dA ddX1_spread (i := 7) rfl) (by decide) (fun c11 => ?_) (fun c11 => ?_)
    · rw [i32_le, hv, nI_toInt (by omega)] at c11
      have ei : i = N 0 - z := by omega
      subst ei
      refine x_return (pc := 31) cx (dA ddX1_spread (i := 17) rfl) (by first | exact Nat.le_of_ble_eq_true rfl | omega) (by first | exact Nat.le_of_ble_eq_true rfl | omega) ?_
      exact ⟨rfl, rfl, rfl⟩
    · rw [i32_le, hv, nI_toInt (by omega)] at c11
      have ev : v = nI (N 0 - i) := by apply Int32.toInt_inj.mp; rw [hv, nI_toInt (by omega)]; omega
      subst ev
      refine x_aload_n (pc := 14) cx (dA ddX1_spread (i := 8) rfl) rfl ?_
      refine x_aload_n (pc := 15) cx (dA ddX1_spread (i := 9) rfl) rfl ?_
      refine x_iload_n (pc := 16) cx (dA ddX1_spread (i := 10) rfl) rfl ?_
      refine x_V2 (pc := 17) mX1_229 h0 (c_X1_spreadLoad (V := V) hP hH hR (d := N 0 - i) (f := (chP N (fun d => ruL N κ b m rf d) i)) (by omega) (fun t ht => chP_lt hN hL (by omega) ht) (hL _ (by omega) (by omega)) (fun e s hs => (hC.2.2.2 (N 0 - i) (by omega) (by have := hK4 e; omega) s hs).2)) cx (dA ddX1_spread (i := 11) rfl) (kJ ?_)
      refine x_pop2L (pc := 20) cx (dA ddX1_spread (i := 12) rfl) ?_
      refine x_aload_n (pc := 21) cx (dA ddX1_spread (i := 13) rfl) rfl ?_
      refine x_V0 (pc := 22) mX1_233 h0 (c_X1_spreadWhatComes (V := V) hP hH) cx (dA ddX1_spread (i := 14) rfl) (kV ?_)
      rw [show cmS N (sprA N (ruL N κ b m rf (N 0 - i)) (chP N (fun d => ruL N κ b m rf d) i) (5 ^ N 4)) (N 4) = chP N (fun d => ruL N κ b m rf d) (i + 1) from rfl]
      refine x_iinc (pc := 25) cx (dA ddX1_spread (i := 15) rfl) rfl rfl (by decide) rfl ?_
      refine x_goto (pc := 28) (tgt := 9) cx (dA ddX1_spread (i := 16) rfl) (by decide) ?_
      exact x_enter (ih (by omega) _ (by rw [nI_dec _ (by omega)]; omega)) ⟨.inr rfl, .inr rfl, .inr rfl, .inr rfl, trivial⟩
  exact x_enter (L9 0 (Nat.zero_le _) (nI (N 0)) (by rw [nI_toInt (by omega)]; omega)) ⟨.inr rfl, .inr rfl, .inr rfl, .inr rfl, trivial⟩
theorem c_X1_statesBy {l : Launch} {Z : zP} {G : zG} {V : zV} {p : Nat} (hP : PlanAt Z G p) {N : Nat → Nat} (hH : PlanH V p N) {K : Nat} (hC : PlanC V p N K) {q κ b m : Nat} {rf : Nat → Bool} (hR : RuleAt Z G V q κ b m rf) {z : Nat} (hz : z ≤ N 0) (hK4 : κ = 4 → N 0 < K) : CT l Z yX1_statesBy cX1_statesBy 5 (some .int) 6 0 0 [.ref p, .ref q, .int (nI z)] G V (pI (nI (ctA (chP N (fun d => ruL N κ b m rf d) (N 0 - z)) (5 ^ N 4))) G (chJ V p N (chP N (fun d => ruL N κ b m rf d) (N 0 - z)))) := by
  refine CT.of (by decide +kernel) (Nat.le_of_ble_eq_true rfl) (fun X hX cx => ?_)
  subst hX
  show Wm Z X 5 G V 0 0 _ 0 [(0, some (.ref p)), (1, some (.ref q)), (2, some (.int (nI z)))] []
  have h0 := hP.1
  have hh := hP.2.2.1.1
  have hN := hH.1
  have hB := hN.1
  have n4 := hB.1
  have hV := hH.2.1
  have n125 := st125 n4
  have eD := hH.2.2.1
  have eS := hH.2.2.2.1
  have eN := hH.2.2.2.2.1
  have eK := hC.1
  have h06 := hN.2.1
  have hL : ∀ d, 1 ≤ d → d ≤ 6 → ∀ s, s < 5 ^ N 4 → ruL N κ b m rf d s ≤ s := fun d h1 h6 s hs => ruL_le hN h1 h6 hs
  refine x_aload_n (pc := 0) cx (dA ddX1_statesBy (i := 0) rfl) rfl ?_
  refine x_aload_n (pc := 1) cx (dA ddX1_statesBy (i := 1) rfl) rfl ?_
  refine x_iload_n (pc := 2) cx (dA ddX1_statesBy (i := 2) rfl) rfl ?_
  refine x_V2 (pc := 3) mX1_222 h0 (c_X1_spread hP hH hC hR hz hK4) cx (dA ddX1_statesBy (i := 3) rfl) (kV ?_)
  refine x_iconst (pc := 6) (v := nI 0) cx (dA ddX1_statesBy (i := 4) rfl) (by decide) ?_
  refine x_istore_n (pc := 7) cx (dA ddX1_statesBy (i := 5) rfl) (by decide) rfl ?_
  refine x_iconst (pc := 8) (v := nI 0) cx (dA ddX1_statesBy (i := 6) rfl) (by decide) ?_
  refine x_istore (pc := 9) cx (dA ddX1_statesBy (i := 7) rfl) (by decide) rfl ?_
  have L11 : ∀ s, s ≤ 5 ^ N 4 → Wm Z X 5 G (chJ V p N (chP N (fun d => ruL N κ b m rf d) (N 0 - z))) 0 0 (rQ Z X 0 0 (pI (nI (ctA (chP N (fun d => ruL N κ b m rf d) (N 0 - z)) (5 ^ N 4))) G (chJ V p N (chP N (fun d => ruL N κ b m rf d) (N 0 - z))))) 11 [(0, some (.ref p)), (3, some (.int (nI (ctA (chP N (fun d => ruL N κ b m rf d) (N 0 - z)) s)))), (4, some (.int (nI s)))] [] := by
    refine lpU (5 ^ N 4) (fun s hs ih => ?_)
    refine x_iload (pc := 11) cx (dA ddX1_statesBy (i := 8) rfl) rfl ?_
    refine x_aload_n (pc := 13) cx (dA ddX1_statesBy (i := 9) rfl) rfl ?_
    refine gX1_76 (pc := 14) (congrArg Value.int eN) cx (dA ddX1_statesBy (i := 10) rfl) h0 ?_
    refine x_icmp_ge (pc := 17) (tgt := 43) cx (dA ddX1_statesBy (i := 11) rfl) (by decide) (fun c17 => ?_) (fun c17 => ?_)
    · have c17 := cleT (by omega) (by omega) c17
      have es : s = 5 ^ N 4 := by omega
      subst es
      refine x_iload_n (pc := 43) cx (dA ddX1_statesBy (i := 22) rfl) rfl ?_
      refine x_ireturn (pc := 44) cx (dA ddX1_statesBy (i := 23) rfl) (by first | exact Nat.le_of_ble_eq_true rfl | omega) (by first | exact Nat.le_of_ble_eq_true rfl | omega) ?_
      exact ⟨rfl, rfl, rfl⟩
    · have c17 := cleF (by omega) (by omega) c17
      have cl := chP_lt hN hL (i := N 0 - z) (by omega) c17
      refine x_aload_n (pc := 20) cx (dA ddX1_statesBy (i := 12) rfl) rfl ?_
      refine gX1_44 (pc := 21) (rfA hP.2.2.2.2.2.2.2.2.2.2.2.1) cx (dA ddX1_statesBy (i := 13) rfl) h0 ?_
      refine x_iload (pc := 24) cx (dA ddX1_statesBy (i := 14) rfl) rfl ?_
      refine x_SN2 (pc := 26) mX1_109 (c_X7_at_ hP.2.2.2.2.2.2.2.2.2.2.2.2 (by decide)) cx (dA ddX1_statesBy (i := 15) rfl) (kJ ?_)
      rw [ch_get c17 n125]
      refine x_lconst (pc := 29) (v := lN 0) cx (dA ddX1_statesBy (i := 16) rfl) rfl ?_
      refine x_lc_eq (pc := 30) (tgt := 37) cx (dA ddX1_statesBy (i := 17) rfl) (dA ddX1_statesBy (i := 18) rfl) (by decide) (fun c30 => ?_) (fun c30 => ?_)
      · have e9 : ctA (chP N (fun d => ruL N κ b m rf d) (N 0 - z)) (s + 1) = ctA (chP N (fun d => ruL N κ b m rf d) (N 0 - z)) s := if_pos ((lN_0 cl).mp c30)
        refine x_iinc (pc := 37) cx (dA ddX1_statesBy (i := 20) rfl) rfl (iinc1 _) (by decide) rfl ?_
        refine x_goto (pc := 40) (tgt := 11) cx (dA ddX1_statesBy (i := 21) rfl) (by decide) ?_
        have L := ih (by omega)
        rw [e9] at L
        exact x_enter L ⟨.inr rfl, .inr rfl, .inr rfl, trivial⟩
      · have e9 : ctA (chP N (fun d => ruL N κ b m rf d) (N 0 - z)) (s + 1) = ctA (chP N (fun d => ruL N κ b m rf d) (N 0 - z)) s + 1 := if_neg (fun e => c30 ((lN_0 cl).mpr e))
        refine x_iinc (pc := 34) cx (dA ddX1_statesBy (i := 19) rfl) rfl (iinc1 _) (by decide) rfl ?_
        refine x_iinc (pc := 37) cx (dA ddX1_statesBy (i := 20) rfl) rfl (iinc1 _) (by decide) rfl ?_
        refine x_goto (pc := 40) (tgt := 11) cx (dA ddX1_statesBy (i := 21) rfl) (by decide) ?_
        have L := ih (by omega)
        rw [e9] at L
        exact x_enter L ⟨.inr rfl, .inr rfl, .inr rfl, trivial⟩
  exact x_enter (L11 0 (Nat.zero_le _)) ⟨.inr rfl, .inr rfl, .inr rfl, trivial⟩
theorem c_X1_boxesBy {l : Launch} {Z : zP} {G : zG} {V : zV} {p : Nat} (hP : PlanAt Z G p) {N : Nat → Nat} (hH : PlanH V p N) {K : Nat} (hC : PlanC V p N K) {q κ b m : Nat} {rf : Nat → Bool} (hR : RuleAt Z G V q κ b m rf) (hK4 : κ = 4 → N 0 < K) : CT l Z yX1_boxesBy cX1_boxesBy 5 (some .long) 5 0 0 [.ref p, .ref q] G V (pJ (lN (boP N (fun d => ruL N κ b m rf d) (N 0))) G (chJ V p N (chP N (fun d => ruL N κ b m rf d) (N 0)))) := by
  refine CT.of (by decide +kernel) (Nat.le_of_ble_eq_true rfl) (fun X hX cx => ?_)
  subst hX
  show Wm Z X 5 G V 0 0 _ 0 [(0, some (.ref p)), (1, some (.ref q))] []
  have h0 := hP.1
  have hh := hP.2.2.1.1
  have hN := hH.1
  have hB := hN.1
  have n4 := hB.1
  have hV := hH.2.1
  have n125 := st125 n4
  have eD := hH.2.2.1
  have eS := hH.2.2.2.1
  have eN := hH.2.2.2.2.1
  have eK := hC.1
  have h06 := hN.2.1
  have hL : ∀ d, 1 ≤ d → d ≤ 6 → ∀ s, s < 5 ^ N 4 → ruL N κ b m rf d s ≤ s := fun d h1 h6 s hs => ruL_le hN h1 h6 hs
  refine x_lconst (pc := 0) (v := lN 0) cx (dA ddX1_boxesBy (i := 0) rfl) rfl ?_
  refine x_lstore_n (pc := 1) cx (dA ddX1_boxesBy (i := 1) rfl) (by decide) rfl ?_
  refine x_aload_n (pc := 2) cx (dA ddX1_boxesBy (i := 2) rfl) rfl ?_
  refine x_V0 (pc := 3) mX1_226 h0 (c_X1_startSpread hP hH) cx (dA ddX1_boxesBy (i := 3) rfl) (kV ?_)
  rw [show (fun t => if t = 0 then 1 else 0) = chP N (fun d => ruL N κ b m rf d) 0 from rfl]
  refine x_aload_n (pc := 6) cx (dA ddX1_boxesBy (i := 4) rfl) rfl ?_
  refine gX1_66 (pc := 7) (congrArg Value.int eD) cx (dA ddX1_boxesBy (i := 5) rfl) h0 ?_
  refine x_istore (pc := 10) cx (dA ddX1_boxesBy (i := 6) rfl) (by decide) rfl ?_
  have L12 : ∀ i, i ≤ N 0 → ∀ v : Int32, v.toInt = (N 0 : Int) - (i : Int) → Wm Z X 5 G (chJ V p N (chP N (fun d => ruL N κ b m rf d) i)) 0 0 (rQ Z X 0 0 (pJ (lN (boP N (fun d => ruL N κ b m rf d) (N 0))) G (chJ V p N (chP N (fun d => ruL N κ b m rf d) (N 0))))) 12 [(0, some (.ref p)), (1, some (.ref q)), (2, some (.long (lN (boP N (fun d => ruL N κ b m rf d) i)))), (4, some (.int v))] [] := by
    refine lpU (N 0) (fun i hi ih => ?_)
    intro v hv
    refine x_iload (pc := 12) cx (dA ddX1_boxesBy (i := 7) rfl) rfl ?_
    refine x_if_le (pc := 14) (tgt := 44) cx (dA ddX1_boxesBy (i := 8) rfl) (by decide) (fun c14 => ?_) (fun c14 => ?_)
    · rw [i32_le, hv, toI_0] at c14
      have ei : i = N 0 := by omega
      subst ei
      refine x_lload_n (pc := 44) cx (dA ddX1_boxesBy (i := 24) rfl) rfl ?_
      refine x_lreturn (pc := 45) cx (dA ddX1_boxesBy (i := 25) rfl) (by first | exact Nat.le_of_ble_eq_true rfl | omega) (by first | exact Nat.le_of_ble_eq_true rfl | omega) ?_
      exact ⟨rfl, rfl, rfl⟩
    · rw [i32_le, hv, toI_0] at c14
      have ev : v = nI (N 0 - i) := by apply Int32.toInt_inj.mp; rw [hv, nI_toInt (by omega)]; omega
      subst ev
      refine x_lload_n (pc := 17) cx (dA ddX1_boxesBy (i := 9) rfl) rfl ?_
      refine x_aload_n (pc := 18) cx (dA ddX1_boxesBy (i := 10) rfl) rfl ?_
      refine x_aload_n (pc := 19) cx (dA ddX1_boxesBy (i := 11) rfl) rfl ?_
      refine x_iload (pc := 20) cx (dA ddX1_boxesBy (i := 12) rfl) rfl ?_
      refine x_V2 (pc := 22) mX1_229 h0 (c_X1_spreadLoad (V := V) hP hH hR (d := N 0 - i) (f := (chP N (fun d => ruL N κ b m rf d) i)) (by omega) (fun t ht => chP_lt hN hL (by omega) ht) (hL _ (by omega) (by omega)) (fun e s hs => (hC.2.2.2 (N 0 - i) (by omega) (by have := hK4 e; omega) s hs).2)) cx (dA ddX1_boxesBy (i := 13) rfl) (kJ ?_)
      refine x_aload_n (pc := 25) cx (dA ddX1_boxesBy (i := 14) rfl) rfl ?_
      refine x_iload (pc := 26) cx (dA ddX1_boxesBy (i := 15) rfl) rfl ?_
      refine x_V1 (pc := 28) mX1_157 h0 (c_X1_unitOf (V := chJ V p N (sprA N (ruL N κ b m rf (N 0 - i)) (chP N (fun d => ruL N κ b m rf d) i) (5 ^ N 4))) hP hH (d := N 0 - i) (by omega) (by omega)) cx (dA ddX1_boxesBy (i := 16) rfl) (kJ ?_)
      refine x_lmul (pc := 31) cx (dA ddX1_boxesBy (i := 17) rfl) ?_
      refine x_ladd (pc := 32) cx (dA ddX1_boxesBy (i := 18) rfl) ?_
      rw [lN_mul, lN_add, show boP N (fun d => ruL N κ b m rf d) i + sprS N (ruL N κ b m rf (N 0 - i)) (chP N (fun d => ruL N κ b m rf d) i) (5 ^ N 4) * 4 ^ ((N 0 - i) * (1 + N 4) - 1) = boP N (fun d => ruL N κ b m rf d) (i + 1) from rfl]
      refine x_lstore_n (pc := 33) cx (dA ddX1_boxesBy (i := 19) rfl) (by decide) rfl ?_
      refine x_aload_n (pc := 34) cx (dA ddX1_boxesBy (i := 20) rfl) rfl ?_
      refine x_V0 (pc := 35) mX1_233 h0 (c_X1_spreadWhatComes (V := V) hP hH) cx (dA ddX1_boxesBy (i := 21) rfl) (kV ?_)
      rw [show cmS N (sprA N (ruL N κ b m rf (N 0 - i)) (chP N (fun d => ruL N κ b m rf d) i) (5 ^ N 4)) (N 4) = chP N (fun d => ruL N κ b m rf d) (i + 1) from rfl]
      refine x_iinc (pc := 38) cx (dA ddX1_boxesBy (i := 22) rfl) rfl rfl (by decide) rfl ?_
      refine x_goto (pc := 41) (tgt := 12) cx (dA ddX1_boxesBy (i := 23) rfl) (by decide) ?_
      exact x_enter (ih (by omega) _ (by rw [nI_dec _ (by omega)]; omega)) ⟨.inr rfl, .inr rfl, .inr rfl, .inr rfl, trivial⟩
  exact x_enter (L12 0 (Nat.zero_le _) (nI (N 0)) (by rw [nI_toInt (by omega)]; omega)) ⟨.inr rfl, .inr rfl, .inr rfl, .inr rfl, trivial⟩
