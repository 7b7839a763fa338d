theorem ldP_lt {N : Nat → Nat} (hN : HOK N) {z s : Nat} (h1 : 1 ≤ z) (h6 : z ≤ 6) (hs : s < 5 ^ N 4) : ldP N z s ≤ s := by
  have h := ruL_le hN (κ := 4) (b := 0) (m := 0) (rf := fun _ => true) h1 h6 hs
  unfold ruL at h
  rwa [if_pos rfl] at h
theorem nI_max {a b : Nat} (ha : a < 2 ^ 31) (hb : b < 2 ^ 31) : (if nI a < nI b then nI b else nI a) = nI (max a b) := by
  by_cases h : a < b
  · rw [if_pos ((nI_ltI ha hb).mpr h), Nat.max_eq_right (by omega)]
  · rw [if_neg (fun q => h ((nI_ltI ha hb).mp q)), Nat.max_eq_left (by omega)]
theorem jdR_le {N : Nat → Nat} (hB : HouseB N) {s : Nat} {g : Nat → Int64} : ∀ {n : Nat}, jdB s g n = true → n ≤ N 4 → jdR N g n ≤ 1188 := by
  intro n h hn
  have hk : ∀ i, i < n → 0 ≤ g i ∧ g i ≤ lN (dig s i) := fun i hi => Classical.byContradiction (fun q => by rw [jdB_f q hi] at h; cases h)
  have h1 := sumN_le (n := n) (M := 4 * 99) (f := fun i => (g i).toNatClampNeg * N (5 + 5 * i + 0)) (fun i hi => by
    have dl := dig_lt s i
    have gk := l64_nat (hk i hi).1 (hk i hi).2 (by omega)
    have h4 := hB.1
    exact Nat.mul_le_mul (by omega) (hB.2 _ (by omega)))
  have h3 := hB.1
  have h2 : n * (4 * 99) ≤ 3 * (4 * 99) := Nat.mul_le_mul_right _ (by omega)
  unfold jdR
  omega
theorem c_X1_isRoomOfSome {l : Launch} {Z : zP} {G : zG} {V : zV} {p : Nat} (hP : PlanAt Z G p) {N : Nat → Nat} (hH : PlanH V p N) {r : Nat} (hr : r < 2 ^ 31) : CT l Z yX1_isRoomOfSome cX1_isRoomOfSome 3 (some .boolean) 2 0 0 [.ref p, .int (nI r)] G V (pI (b2i (rmA N r (5 ^ N 4) = true)) G V) := by
  refine CT.of (by decide +kernel) (Nat.le_of_ble_eq_true rfl) (fun X hX cx => ?_)
  subst hX
  show Wm Z X 3 G V 0 0 _ 0 [(0, some (.ref p)), (1, some (.int (nI r)))] []
  have h0 := hP.1
  have hh := hP.2.2.1.1
  have hN := hH.1
  have hB := hN.1
  have n4 := hB.1
  have hV := hH.2.1
  have n125 := st125 n4
  have eD := hH.2.2.1
  have eS := hH.2.2.2.1
  have eN := hH.2.2.2.2.1
  refine x_iconst (pc := 0) (v := nI 0) cx (dA ddX1_isRoomOfSome (i := 0) rfl) (by decide) ?_
  refine x_istore_n (pc := 1) cx (dA ddX1_isRoomOfSome (i := 1) rfl) (by decide) rfl ?_
  have L2 : ∀ s, s ≤ 5 ^ N 4 → rmA N r s = false → Wm Z X 3 G V 0 0 (rQ Z X 0 0 (pI (b2i (rmA N r (5 ^ N 4) = true)) G V)) 2 [(0, some (.ref p)), (1, some (.int (nI r))), (2, some (.int (nI s)))] [] := by
    refine lpU (5 ^ N 4) (fun s hs ih => ?_)
    intro h0r
    refine x_iload_n (pc := 2) cx (dA ddX1_isRoomOfSome (i := 2) rfl) rfl ?_
    refine x_aload_n (pc := 3) cx (dA ddX1_isRoomOfSome (i := 3) rfl) rfl ?_
    refine gX1_76 (pc := 4) (congrArg Value.int eN) cx (dA ddX1_isRoomOfSome (i := 4) rfl) h0 ?_
    refine x_icmp_ge (pc := 7) (tgt := 27) cx (dA ddX1_isRoomOfSome (i := 5) rfl) (by decide) (fun c7 => ?_) (fun c7 => ?_)
    · have c7 := cleT (by omega) (by omega) c7
      have es : s = 5 ^ N 4 := by omega
      subst es
      refine x_iconst (pc := 27) (v := nI 0) cx (dA ddX1_isRoomOfSome (i := 15) rfl) (by decide) ?_
      refine x_zreturn (pc := 28) cx (dA ddX1_isRoomOfSome (i := 16) rfl) (by first | exact Nat.le_of_ble_eq_true rfl | omega) (by first | exact Nat.le_of_ble_eq_true rfl | omega) rfl ?_
      exact rI (b2i_f (by rw [h0r]; exact fun q => Bool.noConfusion q)).symm
    · have c7 := cleF (by omega) (by omega) c7
      refine x_aload_n (pc := 10) cx (dA ddX1_isRoomOfSome (i := 6) rfl) rfl ?_
      refine x_iload_n (pc := 11) cx (dA ddX1_isRoomOfSome (i := 7) rfl) rfl ?_
      refine x_V1 (pc := 12) mX1_181 h0 (c_X1_roomOf hP hH c7) cx (dA ddX1_isRoomOfSome (i := 8) rfl) (kI ?_)
      have rl := sumP_lt hB (s := s) (w := 0) (by omega)
      refine x_iload_n (pc := 15) cx (dA ddX1_isRoomOfSome (i := 9) rfl) rfl ?_
      refine x_icmp_ne (pc := 16) (tgt := 21) cx (dA ddX1_isRoomOfSome (i := 10) rfl) (by decide) (fun c16 => ?_) (fun c16 => ?_)
      · have c16 := ceqF (by omega) (by omega) c16
        have e9 : rmA N r (s + 1) = false := by show (rmA N r s || decide _) = false; rw [h0r, decide_eq_false c16]; rfl
        refine x_iinc (pc := 21) cx (dA ddX1_isRoomOfSome (i := 13) rfl) rfl (iinc1 _) (by decide) rfl ?_
        refine x_goto (pc := 24) (tgt := 2) cx (dA ddX1_isRoomOfSome (i := 14) rfl) (by decide) ?_
        exact x_enter (ih (by omega) e9) ⟨.inr rfl, .inr rfl, .inr rfl, trivial⟩
      · have c16 := ceqT (by omega) (by omega) c16
        refine x_iconst (pc := 19) (v := nI 1) cx (dA ddX1_isRoomOfSome (i := 11) rfl) (by decide) ?_
        refine x_zreturn (pc := 20) cx (dA ddX1_isRoomOfSome (i := 12) rfl) (by first | exact Nat.le_of_ble_eq_true rfl | omega) (by first | exact Nat.le_of_ble_eq_true rfl | omega) rfl ?_
        exact rI (b2i_t (rmA_t c16 c7)).symm
  exact x_enter (L2 0 (Nat.zero_le _) rfl) ⟨.inr rfl, .inr rfl, .inr rfl, trivial⟩
theorem c_X1_leastRoomSent {l : Launch} {Z : zP} {G : zG} {V : zV} {p : Nat} (hP : PlanAt Z G p) {N : Nat → Nat} (hH : PlanH V p N) {K : Nat} (hC : PlanC V p N K) {z : Nat} (h1 : 1 ≤ z) (h6 : z ≤ 6) (hz : z < K) : CT l Z yX1_leastRoomSent cX1_leastRoomSent 4 (some .int) 2 0 0 [.ref p, .int (nI z)] G V (pI (nhV (lrS N z (5 ^ N 4))) G V) := by
  refine CT.of (by decide +kernel) (Nat.le_of_ble_eq_true rfl) (fun X hX cx => ?_)
  subst hX
  show Wm Z X 4 G V 0 0 _ 0 [(0, some (.ref p)), (1, some (.int (nI z)))] []
  have h0 := hP.1
  have hh := hP.2.2.1.1
  have hN := hH.1
  have hB := hN.1
  have n4 := hB.1
  have hV := hH.2.1
  have n125 := st125 n4
  have eD := hH.2.2.1
  have eS := hH.2.2.2.1
  have eN := hH.2.2.2.2.1
  have eK := hC.1
  refine x_iconst (pc := 0) (v := -1) cx (dA ddX1_leastRoomSent (i := 0) rfl) (by decide) ?_
  refine x_istore_n (pc := 1) cx (dA ddX1_leastRoomSent (i := 1) rfl) (by decide) rfl ?_
  refine x_iconst (pc := 2) (v := nI 0) cx (dA ddX1_leastRoomSent (i := 2) rfl) (by decide) ?_
  refine x_istore_n (pc := 3) cx (dA ddX1_leastRoomSent (i := 3) rfl) (by decide) rfl ?_
  have L4 : ∀ s, s ≤ 5 ^ N 4 → Wm Z X 4 G V 0 0 (rQ Z X 0 0 (pI (nhV (lrS N z (5 ^ N 4))) G V)) 4 [(0, some (.ref p)), (1, some (.int (nI z))), (2, some (.int (nhV (lrS N z s)))), (3, some (.int (nI s)))] [] := by
    refine lpU (5 ^ N 4) (fun s hs ih => ?_)
    refine x_iload_n (pc := 4) cx (dA ddX1_leastRoomSent (i := 4) rfl) rfl ?_
    refine x_aload_n (pc := 5) cx (dA ddX1_leastRoomSent (i := 5) rfl) rfl ?_
    refine gX1_76 (pc := 6) (congrArg Value.int eN) cx (dA ddX1_leastRoomSent (i := 6) rfl) h0 ?_
    refine x_icmp_ge (pc := 9) (tgt := 47) cx (dA ddX1_leastRoomSent (i := 7) rfl) (by decide) (fun c9 => ?_) (fun c9 => ?_)
    · have c9 := cleT (by omega) (by omega) c9
      have es : s = 5 ^ N 4 := by omega
      subst es
      refine x_iload_n (pc := 47) cx (dA ddX1_leastRoomSent (i := 27) rfl) rfl ?_
      refine x_ireturn (pc := 48) cx (dA ddX1_leastRoomSent (i := 28) rfl) (by first | exact Nat.le_of_ble_eq_true rfl | omega) (by first | exact Nat.le_of_ble_eq_true rfl | omega) ?_
      exact rI rfl
    · have c9 := cleF (by omega) (by omega) c9
      have lt31 : ldP N z s < 2 ^ 31 := by have := ldP_lt hN h1 h6 c9; omega
      have rl := sumP_lt hB (s := s) (w := 0) (by omega)
      have rv : ∀ v, lrS N z s = some v → v < 2 ^ 31 := fun v e => by have := lrS_le hB e; omega
      refine x_aload_n (pc := 12) cx (dA ddX1_leastRoomSent (i := 8) rfl) rfl ?_
      refine x_iload_n (pc := 13) cx (dA ddX1_leastRoomSent (i := 9) rfl) rfl ?_
      refine x_iload_n (pc := 14) cx (dA ddX1_leastRoomSent (i := 10) rfl) rfl ?_
      refine x_V2 (pc := 15) mX1_112 h0 (c_X1_loadWorkedOut hP hH h6 c9 (hC.2.2.2 z h1 hz _ c9).2) cx (dA ddX1_leastRoomSent (i := 11) rfl) (kI ?_)
      refine x_if_eq (pc := 18) (tgt := 41) cx (dA ddX1_leastRoomSent (i := 12) rfl) (by decide) (fun c18 => ?_) (fun c18 => ?_)
      · have e9 : lrS N z (s + 1) = lrS N z s := if_neg (fun q => q.1 (nI_inj (b := 0) lt31 (by decide) c18))
        refine x_iinc (pc := 41) cx (dA ddX1_leastRoomSent (i := 25) rfl) rfl (iinc1 _) (by decide) rfl ?_
        refine x_goto (pc := 44) (tgt := 4) cx (dA ddX1_leastRoomSent (i := 26) rfl) (by decide) ?_
        have L := ih (by omega)
        rw [e9] at L
        exact x_enter L ⟨.inr rfl, .inr rfl, .inr rfl, .inr rfl, trivial⟩
      · have l0 : ldP N z s ≠ 0 := fun e => c18 (by rw [e]; rfl)
        refine x_iload_n (pc := 21) cx (dA ddX1_leastRoomSent (i := 13) rfl) rfl ?_
        refine x_iconst (pc := 22) (v := -1) cx (dA ddX1_leastRoomSent (i := 14) rfl) (by decide) ?_
        refine x_icmp_eq (pc := 23) (tgt := 35) cx (dA ddX1_leastRoomSent (i := 15) rfl) (by decide) (fun c23 => ?_) (fun c23 => ?_)
        · have n0 := (nhV_m1 rv).mp c23
          have e9 : lrS N z (s + 1) = some (sumP N s 0) := if_pos ⟨l0, fun r e => by rw [n0] at e; cases e⟩
          refine x_aload_n (pc := 35) cx (dA ddX1_leastRoomSent (i := 21) rfl) rfl ?_
          refine x_iload_n (pc := 36) cx (dA ddX1_leastRoomSent (i := 22) rfl) rfl ?_
          refine x_V1 (pc := 37) mX1_181 h0 (c_X1_roomOf hP hH c9) cx (dA ddX1_leastRoomSent (i := 23) rfl) (kI ?_)
          refine x_istore_n (pc := 40) cx (dA ddX1_leastRoomSent (i := 24) rfl) (by decide) rfl ?_
          refine x_iinc (pc := 41) cx (dA ddX1_leastRoomSent (i := 25) rfl) rfl (iinc1 _) (by decide) rfl ?_
          refine x_goto (pc := 44) (tgt := 4) cx (dA ddX1_leastRoomSent (i := 26) rfl) (by decide) ?_
          have L := ih (by omega)
          rw [e9] at L
          exact x_enter L ⟨.inr rfl, .inr rfl, .inr rfl, .inr rfl, trivial⟩
        · obtain ⟨r, er⟩ : ∃ r, lrS N z s = some r := by cases h : lrS N z s with | none => exact absurd ((nhV_m1 rv).mpr h) c23 | some r => exact ⟨r, rfl⟩
          have r31 := rv r er
          rw [er]
          refine x_aload_n (pc := 26) cx (dA ddX1_leastRoomSent (i := 16) rfl) rfl ?_
          refine x_iload_n (pc := 27) cx (dA ddX1_leastRoomSent (i := 17) rfl) rfl ?_
          refine x_V1 (pc := 28) mX1_181 h0 (c_X1_roomOf hP hH c9) cx (dA ddX1_leastRoomSent (i := 18) rfl) (kI ?_)
          refine x_iload_n (pc := 31) cx (dA ddX1_leastRoomSent (i := 19) rfl) rfl ?_
          rw [show nhV (some r) = nI r from rfl]
          refine x_icmp_ge (pc := 32) (tgt := 41) cx (dA ddX1_leastRoomSent (i := 20) rfl) (by decide) (fun c32 => ?_) (fun c32 => ?_)
          · have c32 := cleT (by omega) (by omega) c32
            have e9 : lrS N z (s + 1) = lrS N z s := if_neg (fun q => absurd (q.2 r er) (by omega))
            rw [er] at e9
            refine x_iinc (pc := 41) cx (dA ddX1_leastRoomSent (i := 25) rfl) rfl (iinc1 _) (by decide) rfl ?_
            refine x_goto (pc := 44) (tgt := 4) cx (dA ddX1_leastRoomSent (i := 26) rfl) (by decide) ?_
            have L := ih (by omega)
            rw [e9] at L
            exact x_enter L ⟨.inr rfl, .inr rfl, .inr rfl, .inr rfl, trivial⟩
          · have c32 := cleF (by omega) (by omega) c32
            have e9 : lrS N z (s + 1) = some (sumP N s 0) := if_pos ⟨l0, fun x e => by rw [er] at e; cases e; exact c32⟩
            refine x_aload_n (pc := 35) cx (dA ddX1_leastRoomSent (i := 21) rfl) rfl ?_
            refine x_iload_n (pc := 36) cx (dA ddX1_leastRoomSent (i := 22) rfl) rfl ?_
            refine x_V1 (pc := 37) mX1_181 h0 (c_X1_roomOf hP hH c9) cx (dA ddX1_leastRoomSent (i := 23) rfl) (kI ?_)
            refine x_istore_n (pc := 40) cx (dA ddX1_leastRoomSent (i := 24) rfl) (by decide) rfl ?_
            refine x_iinc (pc := 41) cx (dA ddX1_leastRoomSent (i := 25) rfl) rfl (iinc1 _) (by decide) rfl ?_
            refine x_goto (pc := 44) (tgt := 4) cx (dA ddX1_leastRoomSent (i := 26) rfl) (by decide) ?_
            have L := ih (by omega)
            rw [e9] at L
            exact x_enter L ⟨.inr rfl, .inr rfl, .inr rfl, .inr rfl, trivial⟩
  exact x_enter (L4 0 (Nat.zero_le _)) ⟨.inr rfl, .inr rfl, .inr rfl, .inr rfl, trivial⟩
theorem c_X1_oddFrom {l : Launch} {Z : zP} {G : zG} {V : zV} {p : Nat} (hP : PlanAt Z G p) {N : Nat → Nat} (hH : PlanH V p N) {K : Nat} (hC : PlanC V p N K) {z : Nat} (h1 : 1 ≤ z) (h6 : z ≤ 6) (hz : z < K) {r : Nat} (hr : r < 2 ^ 31) : CT l Z yX1_oddFrom cX1_oddFrom 4 (some .int) 2 0 0 [.ref p, .int (nI z), .int (nI r)] G V (pI (nhV (odA N z r (5 ^ N 4))) G V) := by
  refine CT.of (by decide +kernel) (Nat.le_of_ble_eq_true rfl) (fun X hX cx => ?_)
  subst hX
  show Wm Z X 4 G V 0 0 _ 0 [(0, some (.ref p)), (1, some (.int (nI z))), (2, some (.int (nI r)))] []
  have h0 := hP.1
  have hh := hP.2.2.1.1
  have hN := hH.1
  have hB := hN.1
  have n4 := hB.1
  have hV := hH.2.1
  have n125 := st125 n4
  have eD := hH.2.2.1
  have eS := hH.2.2.2.1
  have eN := hH.2.2.2.2.1
  have eK := hC.1
  refine x_iconst (pc := 0) (v := nI 0) cx (dA ddX1_oddFrom (i := 0) rfl) (by decide) ?_
  refine x_istore_n (pc := 1) cx (dA ddX1_oddFrom (i := 1) rfl) (by decide) rfl ?_
  have L2 : ∀ s, s ≤ 5 ^ N 4 → odA N z r s = none → Wm Z X 4 G V 0 0 (rQ Z X 0 0 (pI (nhV (odA N z r (5 ^ N 4))) G V)) 2 [(0, some (.ref p)), (1, some (.int (nI z))), (2, some (.int (nI r))), (3, some (.int (nI s)))] [] := by
    refine lpU (5 ^ N 4) (fun s hs ih => ?_)
    intro h0o
    refine x_iload_n (pc := 2) cx (dA ddX1_oddFrom (i := 2) rfl) rfl ?_
    refine x_aload_n (pc := 3) cx (dA ddX1_oddFrom (i := 3) rfl) rfl ?_
    refine gX1_76 (pc := 4) (congrArg Value.int eN) cx (dA ddX1_oddFrom (i := 4) rfl) h0 ?_
    refine x_icmp_ge (pc := 7) (tgt := 36) cx (dA ddX1_oddFrom (i := 5) rfl) (by decide) (fun c7 => ?_) (fun c7 => ?_)
    · have c7 := cleT (by omega) (by omega) c7
      have es : s = 5 ^ N 4 := by omega
      subst es
      refine x_iconst (pc := 36) (v := -1) cx (dA ddX1_oddFrom (i := 20) rfl) (by decide) ?_
      refine x_ireturn (pc := 37) cx (dA ddX1_oddFrom (i := 21) rfl) (by first | exact Nat.le_of_ble_eq_true rfl | omega) (by first | exact Nat.le_of_ble_eq_true rfl | omega) ?_
      exact rI (by rw [h0o]; rfl)
    · have c7 := cleF (by omega) (by omega) c7
      have lt31 : ldP N z s < 2 ^ 31 := by have := ldP_lt hN h1 h6 c7; omega
      have rl := sumP_lt hB (s := s) (w := 0) (by omega)
      refine x_aload_n (pc := 10) cx (dA ddX1_oddFrom (i := 6) rfl) rfl ?_
      refine x_iload_n (pc := 11) cx (dA ddX1_oddFrom (i := 7) rfl) rfl ?_
      refine x_V1 (pc := 12) mX1_181 h0 (c_X1_roomOf hP hH c7) cx (dA ddX1_oddFrom (i := 8) rfl) (kI ?_)
      refine x_iload_n (pc := 15) cx (dA ddX1_oddFrom (i := 9) rfl) rfl ?_
      refine x_icmp_lt (pc := 16) (tgt := 30) cx (dA ddX1_oddFrom (i := 10) rfl) (by decide) (fun c16 => ?_) (fun c16 => ?_)
      · have c16 := cltT (by omega) (by omega) c16
        have e9 := odA_none (z := z) h0o (fun q => absurd q.1 (by omega))
        refine x_iinc (pc := 30) cx (dA ddX1_oddFrom (i := 18) rfl) rfl (iinc1 _) (by decide) rfl ?_
        refine x_goto (pc := 33) (tgt := 2) cx (dA ddX1_oddFrom (i := 19) rfl) (by decide) ?_
        exact x_enter (ih (by omega) e9) ⟨.inr rfl, .inr rfl, .inr rfl, .inr rfl, trivial⟩
      · have c16 := cltF (by omega) (by omega) c16
        refine x_aload_n (pc := 19) cx (dA ddX1_oddFrom (i := 11) rfl) rfl ?_
        refine x_iload_n (pc := 20) cx (dA ddX1_oddFrom (i := 12) rfl) rfl ?_
        refine x_iload_n (pc := 21) cx (dA ddX1_oddFrom (i := 13) rfl) rfl ?_
        refine x_V2 (pc := 22) mX1_112 h0 (c_X1_loadWorkedOut hP hH h6 c7 (hC.2.2.2 z h1 hz _ c7).2) cx (dA ddX1_oddFrom (i := 14) rfl) (kI ?_)
        refine x_if_ne (pc := 25) (tgt := 30) cx (dA ddX1_oddFrom (i := 15) rfl) (by decide) (fun c25 => ?_) (fun c25 => ?_)
        · have l0 : ldP N z s ≠ 0 := fun e => c25 (by rw [e]; rfl)
          have e9 := odA_none h0o (fun q => l0 q.2)
          refine x_iinc (pc := 30) cx (dA ddX1_oddFrom (i := 18) rfl) rfl (iinc1 _) (by decide) rfl ?_
          refine x_goto (pc := 33) (tgt := 2) cx (dA ddX1_oddFrom (i := 19) rfl) (by decide) ?_
          exact x_enter (ih (by omega) e9) ⟨.inr rfl, .inr rfl, .inr rfl, .inr rfl, trivial⟩
        · have l0 : ldP N z s = 0 := nI_inj (b := 0) lt31 (by decide) c25
          refine x_iload_n (pc := 28) cx (dA ddX1_oddFrom (i := 16) rfl) rfl ?_
          refine x_ireturn (pc := 29) cx (dA ddX1_oddFrom (i := 17) rfl) (by first | exact Nat.le_of_ble_eq_true rfl | omega) (by first | exact Nat.le_of_ble_eq_true rfl | omega) ?_
          exact rI (by rw [odA_some h0o ⟨c16, l0⟩ c7]; rfl)
  exact x_enter (L2 0 (Nat.zero_le _) rfl) ⟨.inr rfl, .inr rfl, .inr rfl, .inr rfl, trivial⟩
theorem c_X1_oddState {l : Launch} {Z : zP} {G : zG} {V : zV} {p : Nat} (hP : PlanAt Z G p) {N : Nat → Nat} (hH : PlanH V p N) {K : Nat} (hC : PlanC V p N K) {z : Nat} (h1 : 1 ≤ z) (h6 : z ≤ 6) : CT l Z yX1_oddState cX1_oddState 3 (some .int) 4 0 0 [.ref p, .int (nI z)] G V (pIx (nhV (oddP N z)) G (PX V p N (max K (z + 1)))) := by
  refine CT.of (by decide +kernel) (Nat.le_of_ble_eq_true rfl) (fun X hX cx => ?_)
  subst hX
  show Wm Z X 3 G V 0 0 _ 0 [(0, some (.ref p)), (1, some (.int (nI z)))] []
  have h0 := hP.1
  have hh := hP.2.2.1.1
  have hN := hH.1
  have hB := hN.1
  have n4 := hB.1
  have hV := hH.2.1
  have n125 := st125 n4
  have eD := hH.2.2.1
  have eS := hH.2.2.2.1
  have eN := hH.2.2.2.2.1
  have eK := hC.1
  refine x_aload_n (pc := 0) cx (dA ddX1_oddState (i := 0) rfl) rfl ?_
  refine x_iload_n (pc := 1) cx (dA ddX1_oddState (i := 1) rfl) rfl ?_
  refine x_V1 (pc := 2) mX1_102 h0 (c_X1_workOut hP hH hC h6) cx (dA ddX1_oddState (i := 2) rfl) (kVx fun V2 h2 => ?_)
  obtain ⟨K2, hK2, hw⟩ := h2
  have hH2 := hw.1
  have hC2 := hw.2.1
  refine x_aload_n (pc := 5) cx (dA ddX1_oddState (i := 3) rfl) rfl ?_
  refine x_iload_n (pc := 6) cx (dA ddX1_oddState (i := 4) rfl) rfl ?_
  refine x_V1 (pc := 7) mX1_208 h0 (c_X1_leastRoomSent hP hH2 hC2 h1 h6 (by omega)) cx (dA ddX1_oddState (i := 5) rfl) (kI ?_)
  have rv : ∀ v, lrS N z (5 ^ N 4) = some v → v < 2 ^ 31 := fun v e => by have := lrS_le hB e; omega
  refine x_istore_n (pc := 10) cx (dA ddX1_oddState (i := 6) rfl) (by decide) rfl ?_
  refine x_iload_n (pc := 11) cx (dA ddX1_oddState (i := 7) rfl) rfl ?_
  refine x_iconst (pc := 12) (v := -1) cx (dA ddX1_oddState (i := 8) rfl) (by decide) ?_
  refine x_icmp_ne (pc := 13) (tgt := 20) cx (dA ddX1_oddState (i := 9) rfl) (by decide) (fun c13 => ?_) (fun c13 => ?_)
  · obtain ⟨r, er⟩ : ∃ r, lrS N z (5 ^ N 4) = some r := by cases h : lrS N z (5 ^ N 4) with | none => exact absurd ((nhV_m1 rv).mpr h) c13 | some r => exact ⟨r, rfl⟩
    have r31 := rv r er
    rw [er]
    have e9 : oddP N z = odA N z r (5 ^ N 4) := by unfold oddP; rw [er]
    refine x_aload_n (pc := 20) cx (dA ddX1_oddState (i := 12) rfl) rfl ?_
    refine x_iload_n (pc := 21) cx (dA ddX1_oddState (i := 13) rfl) rfl ?_
    refine x_iload_n (pc := 22) cx (dA ddX1_oddState (i := 14) rfl) rfl ?_
    rw [show nhV (some r) = nI r from rfl]
    refine x_V2 (pc := 23) mX1_211 h0 (c_X1_oddFrom hP hH2 hC2 h1 h6 (by omega) r31) cx (dA ddX1_oddState (i := 15) rfl) (kI ?_)
    refine x_ireturn (pc := 26) cx (dA ddX1_oddState (i := 16) rfl) (by first | exact Nat.le_of_ble_eq_true rfl | omega) (by first | exact Nat.le_of_ble_eq_true rfl | omega) ?_
    rw [e9]
    exact ⟨rfl, rfl, K2, hK2, hw⟩
  · have n0 := (nhV_m1 rv).mp c13
    have e9 : oddP N z = none := by unfold oddP; rw [n0]
    refine x_iconst (pc := 16) (v := -1) cx (dA ddX1_oddState (i := 10) rfl) (by decide) ?_
    refine x_goto (pc := 17) (tgt := 26) cx (dA ddX1_oddState (i := 11) rfl) (by decide) ?_
    refine x_ireturn (pc := 26) cx (dA ddX1_oddState (i := 16) rfl) (by first | exact Nat.le_of_ble_eq_true rfl | omega) (by first | exact Nat.le_of_ble_eq_true rfl | omega) ?_
    rw [e9]
    exact ⟨rfl, rfl, K2, hK2, hw⟩
theorem c_X1_bar {l : Launch} {Z : zP} {G : zG} {V : zV} {p : Nat} (hP : PlanAt Z G p) {N : Nat → Nat} (hH : PlanH V p N) {K : Nat} (hC : PlanC V p N K) {z : Nat} (h1 : 1 ≤ z) (h6 : z ≤ 6) : CT l Z yX1_bar cX1_bar 5 (some .int) 4 0 0 [.ref p, .int (nI z)] G V (pIx (nhV (barP N z)) G (PX V p N (max K (z + 1)))) := by
  refine CT.of (by decide +kernel) (Nat.le_of_ble_eq_true rfl) (fun X hX cx => ?_)
  subst hX
  show Wm Z X 5 G V 0 0 _ 0 [(0, some (.ref p)), (1, some (.int (nI z)))] []
  have h0 := hP.1
  have hh := hP.2.2.1.1
  have hN := hH.1
  have hB := hN.1
  have n4 := hB.1
  have hV := hH.2.1
  have n125 := st125 n4
  have eD := hH.2.2.1
  have eS := hH.2.2.2.1
  have eN := hH.2.2.2.2.1
  have eK := hC.1
  refine x_aload_n (pc := 0) cx (dA ddX1_bar (i := 0) rfl) rfl ?_
  refine x_iload_n (pc := 1) cx (dA ddX1_bar (i := 1) rfl) rfl ?_
  refine x_V1 (pc := 2) mX1_102 h0 (c_X1_workOut hP hH hC h6) cx (dA ddX1_bar (i := 2) rfl) (kVx fun V2 h2 => ?_)
  obtain ⟨K2, hK2, hw⟩ := h2
  have hH2 := hw.1
  have hC2 := hw.2.1
  refine x_aload_n (pc := 5) cx (dA ddX1_bar (i := 3) rfl) rfl ?_
  refine x_iload_n (pc := 6) cx (dA ddX1_bar (i := 4) rfl) rfl ?_
  refine x_V1 (pc := 7) mX1_208 h0 (c_X1_leastRoomSent hP hH2 hC2 h1 h6 (by omega)) cx (dA ddX1_bar (i := 5) rfl) (kI ?_)
  have rv : ∀ v, lrS N z (5 ^ N 4) = some v → v < 2 ^ 31 := fun v e => by have := lrS_le hB e; omega
  have eN := hH2.2.2.2.2.1
  refine x_istore_n (pc := 10) cx (dA ddX1_bar (i := 6) rfl) (by decide) rfl ?_
  refine x_iload_n (pc := 11) cx (dA ddX1_bar (i := 7) rfl) rfl ?_
  refine x_iconst (pc := 12) (v := -1) cx (dA ddX1_bar (i := 8) rfl) (by decide) ?_
  refine x_icmp_eq (pc := 13) (tgt := 26) cx (dA ddX1_bar (i := 9) rfl) (by decide) (fun c13 => ?_) (fun c13 => ?_)
  · have n0 := (nhV_m1 rv).mp c13
    have e9 : barP N z = none := by unfold barP; rw [n0]
    refine x_iconst (pc := 26) (v := -1) cx (dA ddX1_bar (i := 16) rfl) (by decide) ?_
    refine x_ireturn (pc := 27) cx (dA ddX1_bar (i := 17) rfl) (by first | exact Nat.le_of_ble_eq_true rfl | omega) (by first | exact Nat.le_of_ble_eq_true rfl | omega) ?_
    rw [e9]
    exact ⟨rfl, rfl, K2, hK2, hw⟩
  · obtain ⟨r, er⟩ : ∃ r, lrS N z (5 ^ N 4) = some r := by cases h : lrS N z (5 ^ N 4) with | none => exact absurd ((nhV_m1 rv).mpr h) c13 | some r => exact ⟨r, rfl⟩
    have r31 := rv r er
    rw [er]
    refine x_aload_n (pc := 16) cx (dA ddX1_bar (i := 10) rfl) rfl ?_
    refine x_iload_n (pc := 17) cx (dA ddX1_bar (i := 11) rfl) rfl ?_
    refine x_iload_n (pc := 18) cx (dA ddX1_bar (i := 12) rfl) rfl ?_
    rw [show nhV (some r) = nI r from rfl]
    refine x_V2 (pc := 19) mX1_211 h0 (c_X1_oddFrom hP hH2 hC2 h1 h6 (by omega) r31) cx (dA ddX1_bar (i := 13) rfl) (kI ?_)
    have ov : ∀ v, odA N z r (5 ^ N 4) = some v → v < 2 ^ 31 := fun v e => by have := odA_lt e; omega
    refine x_iconst (pc := 22) (v := -1) cx (dA ddX1_bar (i := 14) rfl) (by decide) ?_
    refine x_icmp_eq (pc := 23) (tgt := 28) cx (dA ddX1_bar (i := 15) rfl) (by decide) (fun c23 => ?_) (fun c23 => ?_)
    · have n0 := (nhV_m1 ov).mp c23
      have e9 : barP N z = some (brA N z (5 ^ N 4)) := by unfold barP; rw [er]; dsimp only; rw [n0]
      refine x_iconst (pc := 28) (v := nI 0) cx (dA ddX1_bar (i := 18) rfl) (by decide) ?_
      refine x_istore_n (pc := 29) cx (dA ddX1_bar (i := 19) rfl) (by decide) rfl ?_
      refine x_iconst (pc := 30) (v := nI 0) cx (dA ddX1_bar (i := 20) rfl) (by decide) ?_
      refine x_istore (pc := 31) cx (dA ddX1_bar (i := 21) rfl) (by decide) rfl ?_
      have L33 : ∀ s, s ≤ 5 ^ N 4 → Wm Z X 5 G V2 0 0 (rQ Z X 0 0 (pIx (nhV (barP N z)) G (PX V p N (max K (z + 1))))) 33 [(0, some (.ref p)), (1, some (.int (nI z))), (3, some (.int (nI (brA N z s)))), (4, some (.int (nI s)))] [] := by
        refine lpU (5 ^ N 4) (fun s hs ih => ?_)
        refine x_iload (pc := 33) cx (dA ddX1_bar (i := 22) rfl) rfl ?_
        refine x_aload_n (pc := 35) cx (dA ddX1_bar (i := 23) rfl) rfl ?_
        refine gX1_76 (pc := 36) (congrArg Value.int eN) cx (dA ddX1_bar (i := 24) rfl) h0 ?_
        refine x_icmp_ge (pc := 39) (tgt := 71) cx (dA ddX1_bar (i := 25) rfl) (by decide) (fun c39 => ?_) (fun c39 => ?_)
        · have c39 := cleT (by omega) (by omega) c39
          have es : s = 5 ^ N 4 := by omega
          subst es
          refine x_iload_n (pc := 71) cx (dA ddX1_bar (i := 41) rfl) rfl ?_
          refine x_ireturn (pc := 72) cx (dA ddX1_bar (i := 42) rfl) (by first | exact Nat.le_of_ble_eq_true rfl | omega) (by first | exact Nat.le_of_ble_eq_true rfl | omega) ?_
          rw [e9]
          exact ⟨rfl, rfl, K2, hK2, hw⟩
        · have c39 := cleF (by omega) (by omega) c39
          have lt31 : ldP N z s < 2 ^ 31 := by have := ldP_lt hN h1 h6 c39; omega
          have rl := sumP_lt hB (s := s) (w := 0) (by omega)
          have bl := brA_le hB (z := z) s
          refine x_aload_n (pc := 42) cx (dA ddX1_bar (i := 26) rfl) rfl ?_
          refine x_iload_n (pc := 43) cx (dA ddX1_bar (i := 27) rfl) rfl ?_
          refine x_iload (pc := 44) cx (dA ddX1_bar (i := 28) rfl) rfl ?_
          refine x_V2 (pc := 46) mX1_112 h0 (c_X1_loadWorkedOut hP hH2 h6 c39 (hC2.2.2.2 z h1 (by omega) _ c39).2) cx (dA ddX1_bar (i := 29) rfl) (kI ?_)
          refine x_if_ne (pc := 49) (tgt := 65) cx (dA ddX1_bar (i := 30) rfl) (by decide) (fun c49 => ?_) (fun c49 => ?_)
          · have l0 : ldP N z s ≠ 0 := fun e => c49 (by rw [e]; rfl)
            have eb : brA N z (s + 1) = brA N z s := if_neg l0
            refine x_iinc (pc := 65) cx (dA ddX1_bar (i := 39) rfl) rfl (iinc1 _) (by decide) rfl ?_
            refine x_goto (pc := 68) (tgt := 33) cx (dA ddX1_bar (i := 40) rfl) (by decide) ?_
            have L := ih (by omega)
            rw [eb] at L
            exact x_enter L ⟨.inr rfl, .inr rfl, .inr rfl, .inr rfl, trivial⟩
          · have l0 : ldP N z s = 0 := nI_inj (b := 0) lt31 (by decide) c49
            have eb : brA N z (s + 1) = max (brA N z s) (sumP N s 0 + 1) := if_pos l0
            refine x_iload_n (pc := 52) cx (dA ddX1_bar (i := 31) rfl) rfl ?_
            refine x_aload_n (pc := 53) cx (dA ddX1_bar (i := 32) rfl) rfl ?_
            refine x_iload (pc := 54) cx (dA ddX1_bar (i := 33) rfl) rfl ?_
            refine x_V1 (pc := 56) mX1_181 h0 (c_X1_roomOf hP hH2 c39) cx (dA ddX1_bar (i := 34) rfl) (kI ?_)
            refine x_iconst (pc := 59) (v := nI 1) cx (dA ddX1_bar (i := 35) rfl) (by decide) ?_
            refine x_iadd (pc := 60) cx (dA ddX1_bar (i := 36) rfl) ?_
            rw [nI_add]
            refine x_mmax (pc := 61) mX1_214.1 cx (dA ddX1_bar (i := 37) rfl) ?_
            rw [nI_max (by omega) (by omega)]
            refine x_istore_n (pc := 64) cx (dA ddX1_bar (i := 38) rfl) (by decide) rfl ?_
            refine x_iinc (pc := 65) cx (dA ddX1_bar (i := 39) rfl) rfl (iinc1 _) (by decide) rfl ?_
            refine x_goto (pc := 68) (tgt := 33) cx (dA ddX1_bar (i := 40) rfl) (by decide) ?_
            have L := ih (by omega)
            rw [eb] at L
            exact x_enter L ⟨.inr rfl, .inr rfl, .inr rfl, .inr rfl, trivial⟩
      exact x_enter (L33 0 (Nat.zero_le _)) ⟨.inr rfl, .inr rfl, .inr rfl, .inr rfl, trivial⟩
    · have e9 : barP N z = none := by unfold barP; rw [er]; dsimp only; cases h : odA N z r (5 ^ N 4) with | none => exact absurd ((nhV_m1 ov).mpr h) c23 | some v => rfl
      refine x_iconst (pc := 26) (v := -1) cx (dA ddX1_bar (i := 16) rfl) (by decide) ?_
      refine x_ireturn (pc := 27) cx (dA ddX1_bar (i := 17) rfl) (by first | exact Nat.le_of_ble_eq_true rfl | omega) (by first | exact Nat.le_of_ble_eq_true rfl | omega) ?_
      rw [e9]
      exact ⟨rfl, rfl, K2, hK2, hw⟩
theorem c_X1_judgeOf {l : Launch} {Z : zP} {G : zG} {V : zV} {p : Nat} (hP : PlanAt Z G p) {N : Nat → Nat} (hH : PlanH V p N) {s : Nat} (hs : s < 5 ^ N 4) {r m : Nat} (hR : RowAt Z G r m) (hm : N 4 ≤ m) : CT l Z yX1_judgeOf cX1_judgeOf 8 (some .int) 2 0 0 [.ref p, .ref r, .int (nI s)] G V (pI (nI (jdP N s (V.2.2.2 (r + 1)))) G V) := by
  refine CT.of (by decide +kernel) (Nat.le_of_ble_eq_true rfl) (fun X hX cx => ?_)
  subst hX
  show Wm Z X 8 G V 0 0 _ 0 [(0, some (.ref p)), (1, some (.ref r)), (2, some (.int (nI s)))] []
  have h0 := hP.1
  have hh := hP.2.2.1.1
  have hN := hH.1
  have hB := hN.1
  have n4 := hB.1
  have hV := hH.2.1
  have n125 := st125 n4
  have eD := hH.2.2.1
  have eS := hH.2.2.2.1
  have eN := hH.2.2.2.2.1
  have m125 := hR.2.2.2
  refine x_lconst (pc := 0) (v := lN 0) cx (dA ddX1_judgeOf (i := 0) rfl) rfl ?_
  refine x_lstore_n (pc := 1) cx (dA ddX1_judgeOf (i := 1) rfl) (by decide) rfl ?_
  refine x_iconst (pc := 2) (v := nI 0) cx (dA ddX1_judgeOf (i := 2) rfl) (by decide) ?_
  refine x_istore (pc := 3) cx (dA ddX1_judgeOf (i := 3) rfl) (by decide) rfl ?_
  have L5 : ∀ j, j ≤ N 4 → jdB s (V.2.2.2 (r + 1)) j = true → Wm Z X 8 G V 0 0 (rQ Z X 0 0 (pI (nI (jdP N s (V.2.2.2 (r + 1)))) G V)) 5 [(0, some (.ref p)), (1, some (.ref r)), (2, some (.int (nI s))), (3, some (.long (lN (jdR N (V.2.2.2 (r + 1)) j)))), (5, some (.int (nI j)))] [] := by
    refine lpU (N 4) (fun j hj ih => ?_)
    intro hj1
    refine x_iload (pc := 5) cx (dA ddX1_judgeOf (i := 4) rfl) rfl ?_
    refine x_aload_n (pc := 7) cx (dA ddX1_judgeOf (i := 5) rfl) rfl ?_
    refine gX1_71 (pc := 8) (congrArg Value.int eS) cx (dA ddX1_judgeOf (i := 6) rfl) h0 ?_
    refine x_icmp_ge (pc := 11) (tgt := 67) cx (dA ddX1_judgeOf (i := 7) rfl) (by decide) (fun c11 => ?_) (fun c11 => ?_)
    · have c11 := cleT (by omega) (by omega) c11
      have ej : j = N 4 := by omega
      subst ej
      have jr : jdR N (V.2.2.2 (r + 1)) (N 4) ≤ 1188 := jdR_le hB hj1 (Nat.le_refl _)
      refine x_lload_n (pc := 67) cx (dA ddX1_judgeOf (i := 38) rfl) rfl ?_
      refine x_aload_n (pc := 68) cx (dA ddX1_judgeOf (i := 39) rfl) rfl ?_
      refine gX1_12 (pc := 69) (rfA hP.2.1) cx (dA ddX1_judgeOf (i := 40) rfl) h0 ?_
      refine x_iconst (pc := 72) (v := nI 2) cx (dA ddX1_judgeOf (i := 41) rfl) (by decide) ?_
      refine x_V1 (pc := 73) mX1_120 hh (c_X0_number hP.2.2.1 hV hB (w := 2) (by omega)) cx (dA ddX1_judgeOf (i := 42) rfl) (kI ?_)
      refine x_i2l (pc := 76) cx (dA ddX1_judgeOf (i := 43) rfl) ?_
      have b2 := hB.2 2 (by omega)
      rw [nI_l (by omega)]
      refine x_lc_le (pc := 77) (tgt := 85) cx (dA ddX1_judgeOf (i := 44) rfl) (dA ddX1_judgeOf (i := 45) rfl) (by decide) (fun c77 => ?_) (fun c77 => ?_)
      · have c77 := (pk_lLE (by omega) (by omega)).mp c77
        refine x_iconst (pc := 85) (v := nI 0) cx (dA ddX1_judgeOf (i := 48) rfl) (by decide) ?_
        refine x_ireturn (pc := 86) cx (dA ddX1_judgeOf (i := 49) rfl) (by first | exact Nat.le_of_ble_eq_true rfl | omega) (by first | exact Nat.le_of_ble_eq_true rfl | omega) ?_
        refine rI ?_
        unfold jdP
        rw [hj1, if_pos rfl]
        first | rw [if_pos (by omega)] | rw [if_neg (by omega)]
      · have c77 : ¬ _ ≤ _ := fun q => c77 ((pk_lLE (by omega) (by omega)).mpr q)
        refine x_iconst (pc := 81) (v := nI 2) cx (dA ddX1_judgeOf (i := 46) rfl) (by decide) ?_
        refine x_goto (pc := 82) (tgt := 86) cx (dA ddX1_judgeOf (i := 47) rfl) (by decide) ?_
        refine x_ireturn (pc := 86) cx (dA ddX1_judgeOf (i := 49) rfl) (by first | exact Nat.le_of_ble_eq_true rfl | omega) (by first | exact Nat.le_of_ble_eq_true rfl | omega) ?_
        refine rI ?_
        unfold jdP
        rw [hj1, if_pos rfl]
        first | rw [if_pos (by omega)] | rw [if_neg (by omega)]
    · have c11 := cleF (by omega) (by omega) c11
      have n9 := hB.2 (5 + 5 * j + 0) (by omega)
      have dl := dig_lt s j
      refine x_aload_n (pc := 14) cx (dA ddX1_judgeOf (i := 8) rfl) rfl ?_
      refine x_iload (pc := 15) cx (dA ddX1_judgeOf (i := 9) rfl) rfl ?_
      refine x_V1 (pc := 17) mX1_217 hR.1 (c_X2_valueAt hR) cx (dA ddX1_judgeOf (i := 10) rfl) (kJ ?_)
      rw [atL_in (by omega) (by omega)]
      refine x_lstore (pc := 20) cx (dA ddX1_judgeOf (i := 11) rfl) (by decide) rfl ?_
      refine x_lload (pc := 22) cx (dA ddX1_judgeOf (i := 12) rfl) rfl ?_
      refine x_lconst (pc := 24) (v := lN 0) cx (dA ddX1_judgeOf (i := 13) rfl) rfl ?_
      refine x_lc_lt (pc := 25) (tgt := 42) cx (dA ddX1_judgeOf (i := 14) rfl) (dA ddX1_judgeOf (i := 15) rfl) (by decide) (fun c25 => ?_) (fun c25 => ?_)
      · have bad : ¬ (0 ≤ (V.2.2.2 (r + 1)) j ∧ (V.2.2.2 (r + 1)) j ≤ lN (dig s j)) := fun q => absurd c25 (Int64.not_lt.mpr q.1)
        refine x_iconst (pc := 42) (v := nI 1) cx (dA ddX1_judgeOf (i := 23) rfl) (by decide) ?_
        refine x_ireturn (pc := 43) cx (dA ddX1_judgeOf (i := 24) rfl) (by first | exact Nat.le_of_ble_eq_true rfl | omega) (by first | exact Nat.le_of_ble_eq_true rfl | omega) ?_
        refine rI ?_
        have e8 : jdP N s (V.2.2.2 (r + 1)) = 1 := by unfold jdP; rw [jdB_f bad c11, if_neg (fun q => Bool.noConfusion q)]
        rw [e8]
      · have g0 : (0 : Int64) ≤ V.2.2.2 (r + 1) j := Int64.not_lt.mp c25
        refine x_lload (pc := 29) cx (dA ddX1_judgeOf (i := 16) rfl) rfl ?_
        refine x_iload_n (pc := 31) cx (dA ddX1_judgeOf (i := 17) rfl) rfl ?_
        refine x_iload (pc := 32) cx (dA ddX1_judgeOf (i := 18) rfl) rfl ?_
        refine x_SN2 (pc := 34) mX1_170 (c_X7_standing (by omega) (by omega)) cx (dA ddX1_judgeOf (i := 19) rfl) (kI ?_)
        refine x_i2l (pc := 37) cx (dA ddX1_judgeOf (i := 20) rfl) ?_
        rw [nI_l (by omega)]
        refine x_lc_le (pc := 38) (tgt := 44) cx (dA ddX1_judgeOf (i := 21) rfl) (dA ddX1_judgeOf (i := 22) rfl) (by decide) (fun c38 => ?_) (fun c38 => ?_)
        · have gk := l64_nat g0 c38 (by omega)
          have e9 : jdB s (V.2.2.2 (r + 1)) (j + 1) = true := by show (jdB s (V.2.2.2 (r + 1)) j && (decide _ && decide _)) = true; rw [hj1, decide_eq_true g0, decide_eq_true c38]; rfl
          refine x_lload_n (pc := 44) cx (dA ddX1_judgeOf (i := 25) rfl) rfl ?_
          refine x_lload (pc := 45) cx (dA ddX1_judgeOf (i := 26) rfl) rfl ?_
          refine x_aload_n (pc := 47) cx (dA ddX1_judgeOf (i := 27) rfl) rfl ?_
          refine gX1_12 (pc := 48) (rfA hP.2.1) cx (dA ddX1_judgeOf (i := 28) rfl) h0 ?_
          refine x_iload (pc := 51) cx (dA ddX1_judgeOf (i := 29) rfl) rfl ?_
          refine x_iconst (pc := 53) (v := nI 0) cx (dA ddX1_judgeOf (i := 30) rfl) (by decide) ?_
          refine x_V2 (pc := 54) mX1_167 hh (c_X0_sortNumber hP.2.2.1 hV hB (s := j) (w := 0) (by omega) (by omega)) cx (dA ddX1_judgeOf (i := 31) rfl) (kI ?_)
          refine x_i2l (pc := 57) cx (dA ddX1_judgeOf (i := 32) rfl) ?_
          rw [nI_l (by omega)]
          refine x_lmul (pc := 58) cx (dA ddX1_judgeOf (i := 33) rfl) ?_
          refine x_ladd (pc := 59) cx (dA ddX1_judgeOf (i := 34) rfl) ?_
          rw [gk.2, lN_mul, lN_add, ← gk.2, show jdR N (V.2.2.2 (r + 1)) j + ((V.2.2.2 (r + 1)) j).toNatClampNeg * N (5 + 5 * j + 0) = jdR N (V.2.2.2 (r + 1)) (j + 1) from rfl]
          refine x_lstore_n (pc := 60) cx (dA ddX1_judgeOf (i := 35) rfl) (by decide) rfl ?_
          refine x_iinc (pc := 61) cx (dA ddX1_judgeOf (i := 36) rfl) rfl (iinc1 _) (by decide) rfl ?_
          refine x_goto (pc := 64) (tgt := 5) cx (dA ddX1_judgeOf (i := 37) rfl) (by decide) ?_
          exact x_enter (ih (by omega) e9) ⟨.inr rfl, .inr rfl, .inr rfl, .inr rfl, .inr rfl, trivial⟩
        · have bad : ¬ (0 ≤ (V.2.2.2 (r + 1)) j ∧ (V.2.2.2 (r + 1)) j ≤ lN (dig s j)) := fun q => c38 q.2
          refine x_iconst (pc := 42) (v := nI 1) cx (dA ddX1_judgeOf (i := 23) rfl) (by decide) ?_
          refine x_ireturn (pc := 43) cx (dA ddX1_judgeOf (i := 24) rfl) (by first | exact Nat.le_of_ble_eq_true rfl | omega) (by first | exact Nat.le_of_ble_eq_true rfl | omega) ?_
          refine rI ?_
          have e8 : jdP N s (V.2.2.2 (r + 1)) = 1 := by unfold jdP; rw [jdB_f bad c11, if_neg (fun q => Bool.noConfusion q)]
          rw [e8]
  exact x_enter (L5 0 (Nat.zero_le _) rfl) ⟨.inr rfl, .inr rfl, .inr rfl, .inr rfl, .inr rfl, trivial⟩
theorem c_X1_spread {l : Launch} {Z : zP} {G : zG} {V : zV} {p : Nat} (hP : PlanAt Z G p) {N : Nat → Nat} (hH : PlanH V p N) {K : Nat} (hC : PlanC V p N K) {q κ b m : Nat} {rf : Nat → Bool} (hR : RuleAt Z G V q κ b m rf) {z : Nat} (hz : z ≤ N 0) (hK4 : κ = 4 → N 0 < K) : CT l Z yX1_spread cX1_spread 4 none 5 0 0 [.ref p, .ref q, .int (nI z)] G V (pV G (chJ V p N (chP N (fun d => ruL N κ b m rf d) (N 0 - z)))) := by
  refine CT.of (by decide +kernel) (Nat.le_of_ble_eq_true rfl) (fun X hX cx => ?_)
  subst hX
  show Wm Z X 4 G V 0 0 _ 0 [(0, some (.ref p)), (1, some (.ref q)), (2, some (.int (nI z)))] []
  have h0 := hP.1
  have hh := hP.2.2.1.1
  have hN := hH.1
  have hB := hN.1
  have n4 := hB.1
  have hV := hH.2.1
  have n125 := st125 n4
  have eD := hH.2.2.1
  have eS := hH.2.2.2.1
  have eN := hH.2.2.2.2.1
  have eK := hC.1
  have h06 := hN.2.1
  have hL : ∀ d, 1 ≤ d → d ≤ 6 → ∀ s, s < 5 ^ N 4 → ruL N κ b m rf d s ≤ s := fun d h1 h6 s hs => ruL_le hN h1 h6 hs
  refine x_aload_n (pc := 0) cx (dA ddX1_spread (i := 0) rfl) rfl ?_
  refine x_V0 (pc := 1) mX1_226 h0 (c_X1_startSpread hP hH) cx (dA ddX1_spread (i := 1) rfl) (kV ?_)
  rw [show (fun t => if t = 0 then 1 else 0) = chP N (fun d => ruL N κ b m rf d) 0 from rfl]
  refine x_aload_n (pc := 4) cx (dA ddX1_spread (i := 2) rfl) rfl ?_
  refine gX1_66 (pc := 5) (congrArg Value.int eD) cx (dA ddX1_spread (i := 3) rfl) h0 ?_
  refine x_istore_n (pc := 8) cx (dA ddX1_spread (i := 4) rfl) (by decide) rfl ?_
  have L9 : ∀ i, i ≤ N 0 - z → ∀ v : Int32, v.toInt = (N 0 : Int) - (i : Int) → Wm Z X 4 G (chJ V p N (chP N (fun d => ruL N κ b m rf d) i)) 0 0 (rQ Z X 0 0 (pV G (chJ V p N (chP N (fun d => ruL N κ b m rf d) (N 0 - z))))) 9 [(0, some (.ref p)), (1, some (.ref q)), (2, some (.int (nI z))), (3, some (.int v))] [] := by
    refine lpU (N 0 - z) (fun i hi ih => ?_)
    intro v hv
    refine x_iload_n (pc := 9) cx (dA ddX1_spread (i := 5) rfl) rfl ?_
    refine x_iload_n (pc := 10) cx (dA ddX1_spread (i := 6) rfl) rfl ?_
    refine x_icmp_le (pc := 11) (tgt := 31) cx (dA ddX1_spread (i := 7) rfl) (by decide) (fun c11 => ?_) (fun c11 => ?_)
    · rw [i32_le, hv, nI_toInt (by omega)] at c11
      have ei : i = N 0 - z := by omega
      subst ei
      refine x_return (pc := 31) cx (dA ddX1_spread (i := 17) rfl) (by first | exact Nat.le_of_ble_eq_true rfl | omega) (by first | exact Nat.le_of_ble_eq_true rfl | omega) ?_
      exact ⟨rfl, rfl, rfl⟩
    · rw [i32_le, hv, nI_toInt (by omega)] at c11
      have ev : v = nI (N 0 - i) := by apply Int32.toInt_inj.mp; rw [hv, nI_toInt (by omega)]; omega
      subst ev
      refine x_aload_n (pc := 14) cx (dA ddX1_spread (i := 8) rfl) rfl ?_
      refine x_aload_n (pc := 15) cx (dA ddX1_spread (i := 9) rfl) rfl ?_
      refine x_iload_n (pc := 16) cx (dA ddX1_spread (i := 10) rfl) rfl ?_
      refine x_V2 (pc := 17) mX1_229 h0 (c_X1_spreadLoad (V := V) hP hH hR (d := N 0 - i) (f := (chP N (fun d => ruL N κ b m rf d) i)) (by omega) (fun t ht => chP_lt hN hL (by omega) ht) (hL _ (by omega) (by omega)) (fun e s hs => (hC.2.2.2 (N 0 - i) (by omega) (by have := hK4 e; omega) s hs).2)) cx (dA ddX1_spread (i := 11) rfl) (kJ ?_)
      refine x_pop2L (pc := 20) cx (dA ddX1_spread (i := 12) rfl) ?_
      refine x_aload_n (pc := 21) cx (dA ddX1_spread (i := 13) rfl) rfl ?_
      refine x_V0 (pc := 22) mX1_233 h0 (c_X1_spreadWhatComes (V := V) hP hH) cx (dA ddX1_spread (i := 14) rfl) (kV ?_)
      rw [show cmS N (sprA N (ruL N κ b m rf (N 0 - i)) (chP N (fun d => ruL N κ b m rf d) i) (5 ^ N 4)) (N 4) = chP N (fun d => ruL N κ b m rf d) (i + 1) from rfl]
      refine x_iinc (pc := 25) cx (dA ddX1_spread (i := 15) rfl) rfl rfl (by decide) rfl ?_
      refine x_goto (pc := 28) (tgt := 9) cx (dA ddX1_spread (i := 16) rfl) (by decide) ?_
      exact x_enter (ih (by omega) _ (by rw [nI_dec _ (by omega)]; omega)) ⟨.inr rfl, .inr rfl, .inr rfl, .inr rfl, trivial⟩
  exact x_enter (L9 0 (Nat.zero_le _) (nI (N 0)) (by rw [nI_toInt (by omega)]; omega)) ⟨.inr rfl, .inr rfl, .inr rfl, .inr rfl, trivial⟩
theorem c_X1_chanceBy {l : Launch} {Z : zP} {G : zG} {V : zV} {p : Nat} (hP : PlanAt Z G p) {N : Nat → Nat} (hH : PlanH V p N) {K : Nat} (hC : PlanC V p N K) {q κ b m : Nat} {rf : Nat → Bool} (hR : RuleAt Z G V q κ b m rf) {z : Nat} (hz : z ≤ N 0) (hK4 : κ = 4 → N 0 < K) {s : Nat} (hs : s < 5 ^ N 4) : CT l Z yX1_chanceBy cX1_chanceBy 4 (some .long) 6 0 0 [.ref p, .ref q, .int (nI z), .int (nI s)] G V (pJ (lN (chP N (fun d => ruL N κ b m rf d) (N 0 - z) s)) G (chJ V p N (chP N (fun d => ruL N κ b m rf d) (N 0 - z)))) := by
  refine CT.of (by decide +kernel) (Nat.le_of_ble_eq_true rfl) (fun X hX cx => ?_)
  subst hX
  show Wm Z X 4 G V 0 0 _ 0 [(0, some (.ref p)), (1, some (.ref q)), (2, some (.int (nI z))), (3, some (.int (nI s)))] []
  have h0 := hP.1
  have hh := hP.2.2.1.1
  have hN := hH.1
  have hB := hN.1
  have n4 := hB.1
  have hV := hH.2.1
  have n125 := st125 n4
  have eD := hH.2.2.1
  have eS := hH.2.2.2.1
  have eN := hH.2.2.2.2.1
  have eK := hC.1
  have h06 := hN.2.1
  have hL : ∀ d, 1 ≤ d → d ≤ 6 → ∀ s, s < 5 ^ N 4 → ruL N κ b m rf d s ≤ s := fun d h1 h6 s hs => ruL_le hN h1 h6 hs
  refine x_aload_n (pc := 0) cx (dA ddX1_chanceBy (i := 0) rfl) rfl ?_
  refine x_aload_n (pc := 1) cx (dA ddX1_chanceBy (i := 1) rfl) rfl ?_
  refine x_iload_n (pc := 2) cx (dA ddX1_chanceBy (i := 2) rfl) rfl ?_
  refine x_V2 (pc := 3) mX1_222 h0 (c_X1_spread hP hH hC hR hz hK4) cx (dA ddX1_chanceBy (i := 3) rfl) (kV ?_)
  refine x_aload_n (pc := 6) cx (dA ddX1_chanceBy (i := 4) rfl) rfl ?_
  refine gX1_44 (pc := 7) (rfA hP.2.2.2.2.2.2.2.2.2.2.2.1) cx (dA ddX1_chanceBy (i := 5) rfl) h0 ?_
  refine x_iload_n (pc := 10) cx (dA ddX1_chanceBy (i := 6) rfl) rfl ?_
  refine x_SN2 (pc := 11) mX1_109 (c_X7_at_ hP.2.2.2.2.2.2.2.2.2.2.2.2 (by decide)) cx (dA ddX1_chanceBy (i := 7) rfl) (kJ ?_)
  rw [ch_get hs n125]
  refine x_lreturn (pc := 14) cx (dA ddX1_chanceBy (i := 8) rfl) (by first | exact Nat.le_of_ble_eq_true rfl | omega) (by first | exact Nat.le_of_ble_eq_true rfl | omega) ?_
  exact ⟨rfl, rfl, rfl⟩
theorem c_X1_statesBy {l : Launch} {Z : zP} {G : zG} {V : zV} {p : Nat} (hP : PlanAt Z G p) {N : Nat → Nat} (hH : PlanH V p N) {K : Nat} (hC : PlanC V p N K) {q κ b m : Nat} {rf : Nat → Bool} (hR : RuleAt Z G V q κ b m rf) {z : Nat} (hz : z ≤ N 0) (hK4 : κ = 4 → N 0 < K) : CT l Z yX1_statesBy cX1_statesBy 5 (some .int) 6 0 0 [.ref p, .ref q, .int (nI z)] G V (pI (nI (ctA (chP N (fun d => ruL N κ b m rf d) (N 0 - z)) (5 ^ N 4))) G (chJ V p N (chP N (fun d => ruL N κ b m rf d) (N 0 - z)))) := by
  refine CT.of (by decide +kernel) (Nat.le_of_ble_eq_true rfl) (fun X hX cx => ?_)
  subst hX
  show Wm Z X 5 G V 0 0 _ 0 [(0, some (.ref p)), (1, some (.ref q)), (2, some (.int (nI z)))] []
  have h0 := hP.1
  have hh := hP.2.2.1.1
  have hN := hH.1
  have hB := hN.1
  have n4 := hB.1
  have hV := hH.2.1
  have n125 := st125 n4
  have eD := hH.2.2.1
  have eS := hH.2.2.2.1
  have eN := hH.2.2.2.2.1
  have eK := hC.1
  have h06 := hN.2.1
  have hL : ∀ d, 1 ≤ d → d ≤ 6 → ∀ s, s < 5 ^ N 4 → ruL N κ b m rf d s ≤ s := fun d h1 h6 s hs => ruL_le hN h1 h6 hs
  refine x_aload_n (pc := 0) cx (dA ddX1_statesBy (i := 0) rfl) rfl ?_
  refine x_aload_n (pc := 1) cx (dA ddX1_statesBy (i := 1) rfl) rfl ?_
  refine x_iload_n (pc := 2) cx (dA ddX1_statesBy (i := 2) rfl) rfl ?_
  refine x_V2 (pc := 3) mX1_222 h0 (c_X1_spread hP hH hC hR hz hK4) cx (dA ddX1_statesBy (i := 3) rfl) (kV ?_)
  refine x_iconst (pc := 6) (v := nI 0) cx (dA ddX1_statesBy (i := 4) rfl) (by decide) ?_
  refine x_istore_n (pc := 7) cx (dA ddX1_statesBy (i := 5) rfl) (by decide) rfl ?_
  refine x_iconst (pc := 8) (v := nI 0) cx (dA ddX1_statesBy (i := 6) rfl) (by decide) ?_
  refine x_istore (pc := 9) cx (dA ddX1_statesBy (i := 7) rfl) (by decide) rfl ?_
  have L11 : ∀ s, s ≤ 5 ^ N 4 → Wm Z X 5 G (chJ V p N (chP N (fun d => ruL N κ b m rf d) (N 0 - z))) 0 0 (rQ Z X 0 0 (pI (nI (ctA (chP N (fun d => ruL N κ b m rf d) (N 0 - z)) (5 ^ N 4))) G (chJ V p N (chP N (fun d => ruL N κ b m rf d) (N 0 - z))))) 11 [(0, some (.ref p)), (3, some (.int (nI (ctA (chP N (fun d => ruL N κ b m rf d) (N 0 - z)) s)))), (4, some (.int (nI s)))] [] := by
    refine lpU (5 ^ N 4) (fun s hs ih => ?_)
    refine x_iload (pc := 11) cx (dA ddX1_statesBy (i := 8) rfl) rfl ?_
    refine x_aload_n (pc := 13) cx (dA ddX1_statesBy (i := 9) rfl) rfl ?_
    refine gX1_76 (pc := 14) (congrArg Value.int eN) cx (dA ddX1_statesBy (i := 10) rfl) h0 ?_
    refine x_icmp_ge (pc := 17) (tgt := 43) cx (dA ddX1_statesBy (i := 11) rfl) (by decide) (fun c17 => ?_) (fun c17 => ?_)
    · have c17 := cleT (by omega) (by omega) c17
      have es : s = 5 ^ N 4 := by omega
      subst es
      refine x_iload_n (pc := 43) cx (dA ddX1_statesBy (i := 22) rfl) rfl ?_
      refine x_ireturn (pc := 44) cx (dA ddX1_statesBy (i := 23) rfl) (by first | exact Nat.le_of_ble_eq_true rfl | omega) (by first | exact Nat.le_of_ble_eq_true rfl | omega) ?_
      exact ⟨rfl, rfl, rfl⟩
    · have c17 := cleF (by omega) (by omega) c17
      have cl := chP_lt hN hL (i := N 0 - z) (by omega) c17
      refine x_aload_n (pc := 20) cx (dA ddX1_statesBy (i := 12) rfl) rfl ?_
      refine gX1_44 (pc := 21) (rfA hP.2.2.2.2.2.2.2.2.2.2.2.1) cx (dA ddX1_statesBy (i := 13) rfl) h0 ?_
      refine x_iload (pc := 24) cx (dA ddX1_statesBy (i := 14) rfl) rfl ?_
      refine x_SN2 (pc := 26) mX1_109 (c_X7_at_ hP.2.2.2.2.2.2.2.2.2.2.2.2 (by decide)) cx (dA ddX1_statesBy (i := 15) rfl) (kJ ?_)
      rw [ch_get c17 n125]
      refine x_lconst (pc := 29) (v := lN 0) cx (dA ddX1_statesBy (i := 16) rfl) rfl ?_
      refine x_lc_eq (pc := 30) (tgt := 37) cx (dA ddX1_statesBy (i := 17) rfl) (dA ddX1_statesBy (i := 18) rfl) (by decide) (fun c30 => ?_) (fun c30 => ?_)
      · have e9 : ctA (chP N (fun d => ruL N κ b m rf d) (N 0 - z)) (s + 1) = ctA (chP N (fun d => ruL N κ b m rf d) (N 0 - z)) s := if_pos ((lN_0 cl).mp c30)
        refine x_iinc (pc := 37) cx (dA ddX1_statesBy (i := 20) rfl) rfl (iinc1 _) (by decide) rfl ?_
        refine x_goto (pc := 40) (tgt := 11) cx (dA ddX1_statesBy (i := 21) rfl) (by decide) ?_
        have L := ih (by omega)
        rw [e9] at L
        exact x_enter L ⟨.inr rfl, .inr rfl, .inr rfl, trivial⟩
      · have e9 : ctA (chP N (fun d => ruL N κ b m rf d) (N 0 - z)) (s + 1) = ctA (chP N (fun d => ruL N κ b m rf d) (N 0 - z)) s + 1 := if_neg (fun e => c30 ((lN_0 cl).mpr e))
        refine x_iinc (pc := 34) cx (dA ddX1_statesBy (i := 19) rfl) rfl (iinc1 _) (by decide) rfl ?_
        refine x_iinc (pc := 37) cx (dA ddX1_statesBy (i := 20) rfl) rfl (iinc1 _) (by decide) rfl ?_
        refine x_goto (pc := 40) (tgt := 11) cx (dA ddX1_statesBy (i := 21) rfl) (by decide) ?_
        have L := ih (by omega)
        rw [e9] at L
        exact x_enter L ⟨.inr rfl, .inr rfl, .inr rfl, trivial⟩
  exact x_enter (L11 0 (Nat.zero_le _)) ⟨.inr rfl, .inr rfl, .inr rfl, trivial⟩
theorem c_X1_heldBy {l : Launch} {Z : zP} {G : zG} {V : zV} {p : Nat} (hP : PlanAt Z G p) {N : Nat → Nat} (hH : PlanH V p N) {K : Nat} (hC : PlanC V p N K) {q κ b m : Nat} {rf : Nat → Bool} (hR : RuleAt Z G V q κ b m rf) {k : Nat} (hk : k < 3) (hK4 : κ = 4 → N 0 < K) : CT l Z yX1_heldBy cX1_heldBy 9 (some .long) 5 0 0 [.ref p, .ref q, .int (nI k)] G V (pJ (lN (heP N (fun d => ruL N κ b m rf d) k (N 0))) G (chJ V p N (chP N (fun d => ruL N κ b m rf d) (N 0)))) := by
  refine CT.of (by decide +kernel) (Nat.le_of_ble_eq_true rfl) (fun X hX cx => ?_)
  subst hX
  show Wm Z X 9 G V 0 0 _ 0 [(0, some (.ref p)), (1, some (.ref q)), (2, some (.int (nI k)))] []
  have h0 := hP.1
  have hh := hP.2.2.1.1
  have hN := hH.1
  have hB := hN.1
  have n4 := hB.1
  have hV := hH.2.1
  have n125 := st125 n4
  have eD := hH.2.2.1
  have eS := hH.2.2.2.1
  have eN := hH.2.2.2.2.1
  have eK := hC.1
  have h06 := hN.2.1
  have hL : ∀ d, 1 ≤ d → d ≤ 6 → ∀ s, s < 5 ^ N 4 → ruL N κ b m rf d s ≤ s := fun d h1 h6 s hs => ruL_le hN h1 h6 hs
  refine x_lconst (pc := 0) (v := lN 0) cx (dA ddX1_heldBy (i := 0) rfl) rfl ?_
  refine x_lstore_n (pc := 1) cx (dA ddX1_heldBy (i := 1) rfl) (by decide) rfl ?_
  refine x_aload_n (pc := 2) cx (dA ddX1_heldBy (i := 2) rfl) rfl ?_
  refine x_V0 (pc := 3) mX1_226 h0 (c_X1_startSpread hP hH) cx (dA ddX1_heldBy (i := 3) rfl) (kV ?_)
  rw [show (fun t => if t = 0 then 1 else 0) = chP N (fun d => ruL N κ b m rf d) 0 from rfl]
  refine x_aload_n (pc := 6) cx (dA ddX1_heldBy (i := 4) rfl) rfl ?_
  refine gX1_66 (pc := 7) (congrArg Value.int eD) cx (dA ddX1_heldBy (i := 5) rfl) h0 ?_
  refine x_istore (pc := 10) cx (dA ddX1_heldBy (i := 6) rfl) (by decide) rfl ?_
  have L12 : ∀ i, i ≤ N 0 → ∀ v : Int32, v.toInt = (N 0 : Int) - (i : Int) → Wm Z X 9 G (chJ V p N (chP N (fun d => ruL N κ b m rf d) i)) 0 0 (rQ Z X 0 0 (pJ (lN (heP N (fun d => ruL N κ b m rf d) k (N 0))) G (chJ V p N (chP N (fun d => ruL N κ b m rf d) (N 0))))) 12 [(0, some (.ref p)), (1, some (.ref q)), (2, some (.int (nI k))), (3, some (.long (lN (heP N (fun d => ruL N κ b m rf d) k i)))), (5, some (.int v))] [] := by
    refine lpU (N 0) (fun i hi ih => ?_)
    intro v hv
    refine x_iload (pc := 12) cx (dA ddX1_heldBy (i := 7) rfl) rfl ?_
    refine x_if_le (pc := 14) (tgt := 90) cx (dA ddX1_heldBy (i := 8) rfl) (by decide) (fun c14 => ?_) (fun c14 => ?_)
    · rw [i32_le, hv, toI_0] at c14
      have ei : i = N 0 := by omega
      subst ei
      refine x_lload_n (pc := 90) cx (dA ddX1_heldBy (i := 48) rfl) rfl ?_
      refine x_lreturn (pc := 91) cx (dA ddX1_heldBy (i := 49) rfl) (by first | exact Nat.le_of_ble_eq_true rfl | omega) (by first | exact Nat.le_of_ble_eq_true rfl | omega) ?_
      exact ⟨rfl, rfl, rfl⟩
    · rw [i32_le, hv, toI_0] at c14
      have ev : v = nI (N 0 - i) := by apply Int32.toInt_inj.mp; rw [hv, nI_toInt (by omega)]; omega
      subst ev
      refine x_aload_n (pc := 17) cx (dA ddX1_heldBy (i := 9) rfl) rfl ?_
      refine x_aload_n (pc := 18) cx (dA ddX1_heldBy (i := 10) rfl) rfl ?_
      refine x_iload (pc := 19) cx (dA ddX1_heldBy (i := 11) rfl) rfl ?_
      refine x_V2 (pc := 21) mX1_229 h0 (c_X1_spreadLoad (V := V) hP hH hR (d := N 0 - i) (f := (chP N (fun d => ruL N κ b m rf d) i)) (by omega) (fun t ht => chP_lt hN hL (by omega) ht) (hL _ (by omega) (by omega)) (fun e s hs => (hC.2.2.2 (N 0 - i) (by omega) (by have := hK4 e; omega) s hs).2)) cx (dA ddX1_heldBy (i := 12) rfl) (kJ ?_)
      refine x_pop2L (pc := 24) cx (dA ddX1_heldBy (i := 13) rfl) ?_
      refine x_lconst (pc := 25) (v := lN 0) cx (dA ddX1_heldBy (i := 14) rfl) rfl ?_
      refine x_lstore (pc := 26) cx (dA ddX1_heldBy (i := 15) rfl) (by decide) rfl ?_
      refine x_iconst (pc := 28) (v := nI 0) cx (dA ddX1_heldBy (i := 16) rfl) (by decide) ?_
      refine x_istore (pc := 29) cx (dA ddX1_heldBy (i := 17) rfl) (by decide) rfl ?_
      have L31 : ∀ s, s ≤ 5 ^ N 4 → Wm Z X 9 G (chJ V p N (sprA N (ruL N κ b m rf (N 0 - i)) (chP N (fun d => ruL N κ b m rf d) i) (5 ^ N 4))) 0 0 (rQ Z X 0 0 (pJ (lN (heP N (fun d => ruL N κ b m rf d) k (N 0))) G (chJ V p N (chP N (fun d => ruL N κ b m rf d) (N 0))))) 31 [(0, some (.ref p)), (1, some (.ref q)), (2, some (.int (nI k))), (3, some (.long (lN (heP N (fun d => ruL N κ b m rf d) k i)))), (5, some (.int (nI (N 0 - i)))), (6, some (.long (lN (sumN s (fun t => (sprA N (ruL N κ b m rf (N 0 - i)) (chP N (fun d => ruL N κ b m rf d) i) (5 ^ N 4)) t * dig t k))))), (8, some (.int (nI s)))] [] := by
        refine lpU (5 ^ N 4) (fun s hs ih2 => ?_)
        refine x_iload (pc := 31) cx (dA ddX1_heldBy (i := 18) rfl) rfl ?_
        refine x_aload_n (pc := 33) cx (dA ddX1_heldBy (i := 19) rfl) rfl ?_
        refine gX1_76 (pc := 34) (congrArg Value.int eN) cx (dA ddX1_heldBy (i := 20) rfl) h0 ?_
        refine x_icmp_ge (pc := 37) (tgt := 68) cx (dA ddX1_heldBy (i := 21) rfl) (by decide) (fun c37 => ?_) (fun c37 => ?_)
        · have c37 := cleT (by omega) (by omega) c37
          have es : s = 5 ^ N 4 := by omega
          subst es
          refine x_lload_n (pc := 68) cx (dA ddX1_heldBy (i := 36) rfl) rfl ?_
          refine x_lload (pc := 69) cx (dA ddX1_heldBy (i := 37) rfl) rfl ?_
          refine x_aload_n (pc := 71) cx (dA ddX1_heldBy (i := 38) rfl) rfl ?_
          refine x_iload (pc := 72) cx (dA ddX1_heldBy (i := 39) rfl) rfl ?_
          refine x_V1 (pc := 74) mX1_157 h0 (c_X1_unitOf (V := chJ V p N (sprA N (ruL N κ b m rf (N 0 - i)) (chP N (fun d => ruL N κ b m rf d) i) (5 ^ N 4))) hP hH (d := N 0 - i) (by omega) (by omega)) cx (dA ddX1_heldBy (i := 40) rfl) (kJ ?_)
          refine x_lmul (pc := 77) cx (dA ddX1_heldBy (i := 41) rfl) ?_
          refine x_ladd (pc := 78) cx (dA ddX1_heldBy (i := 42) rfl) ?_
          rw [lN_mul, lN_add, show heP N (fun d => ruL N κ b m rf d) k i + sumN (5 ^ N 4) (fun t => (sprA N (ruL N κ b m rf (N 0 - i)) (chP N (fun d => ruL N κ b m rf d) i) (5 ^ N 4)) t * dig t k) * 4 ^ ((N 0 - i) * (1 + N 4) - 1) = heP N (fun d => ruL N κ b m rf d) k (i + 1) from rfl]
          refine x_lstore_n (pc := 79) cx (dA ddX1_heldBy (i := 43) rfl) (by decide) rfl ?_
          refine x_aload_n (pc := 80) cx (dA ddX1_heldBy (i := 44) rfl) rfl ?_
          refine x_V0 (pc := 81) mX1_233 h0 (c_X1_spreadWhatComes (V := V) hP hH) cx (dA ddX1_heldBy (i := 45) rfl) (kV ?_)
          rw [show cmS N (sprA N (ruL N κ b m rf (N 0 - i)) (chP N (fun d => ruL N κ b m rf d) i) (5 ^ N 4)) (N 4) = chP N (fun d => ruL N κ b m rf d) (i + 1) from rfl]
          refine x_iinc (pc := 84) cx (dA ddX1_heldBy (i := 46) rfl) rfl rfl (by decide) rfl ?_
          refine x_goto (pc := 87) (tgt := 12) cx (dA ddX1_heldBy (i := 47) rfl) (by decide) ?_
          exact x_enter (ih (by omega) _ (by rw [nI_dec _ (by omega)]; omega)) ⟨.inr rfl, .inr rfl, .inr rfl, .inr rfl, .inr rfl, trivial⟩
        · have c37 := cleF (by omega) (by omega) c37
          have dl := dig_lt s k
          refine x_lload (pc := 40) cx (dA ddX1_heldBy (i := 22) rfl) rfl ?_
          refine x_aload_n (pc := 42) cx (dA ddX1_heldBy (i := 23) rfl) rfl ?_
          refine gX1_44 (pc := 43) (rfA hP.2.2.2.2.2.2.2.2.2.2.2.1) cx (dA ddX1_heldBy (i := 24) rfl) h0 ?_
          refine x_iload (pc := 46) cx (dA ddX1_heldBy (i := 25) rfl) rfl ?_
          refine x_SN2 (pc := 48) mX1_109 (c_X7_at_ hP.2.2.2.2.2.2.2.2.2.2.2.2 (by decide)) cx (dA ddX1_heldBy (i := 26) rfl) (kJ ?_)
          rw [ch_get c37 n125]
          refine x_iload (pc := 51) cx (dA ddX1_heldBy (i := 27) rfl) rfl ?_
          refine x_iload_n (pc := 53) cx (dA ddX1_heldBy (i := 28) rfl) rfl ?_
          refine x_SN2 (pc := 54) mX1_170 (c_X7_standing (by omega) (by omega)) cx (dA ddX1_heldBy (i := 29) rfl) (kI ?_)
          refine x_i2l (pc := 57) cx (dA ddX1_heldBy (i := 30) rfl) ?_
          rw [nI_l (by omega)]
          refine x_lmul (pc := 58) cx (dA ddX1_heldBy (i := 31) rfl) ?_
          refine x_ladd (pc := 59) cx (dA ddX1_heldBy (i := 32) rfl) ?_
          rw [lN_mul, lN_add, show sumN s (fun t => (sprA N (ruL N κ b m rf (N 0 - i)) (chP N (fun d => ruL N κ b m rf d) i) (5 ^ N 4)) t * dig t k) + (sprA N (ruL N κ b m rf (N 0 - i)) (chP N (fun d => ruL N κ b m rf d) i) (5 ^ N 4)) s * dig s k = sumN (s + 1) (fun t => (sprA N (ruL N κ b m rf (N 0 - i)) (chP N (fun d => ruL N κ b m rf d) i) (5 ^ N 4)) t * dig t k) from rfl]
          refine x_lstore (pc := 60) cx (dA ddX1_heldBy (i := 33) rfl) (by decide) rfl ?_
          refine x_iinc (pc := 62) cx (dA ddX1_heldBy (i := 34) rfl) rfl (iinc1 _) (by decide) rfl ?_
          refine x_goto (pc := 65) (tgt := 31) cx (dA ddX1_heldBy (i := 35) rfl) (by decide) ?_
          exact x_enter (ih2 (by omega)) ⟨.inr rfl, .inr rfl, .inr rfl, .inr rfl, .inr rfl, .inr rfl, .inr rfl, trivial⟩
      exact x_enter (L31 0 (Nat.zero_le _)) ⟨.inr rfl, .inr rfl, .inr rfl, .inr rfl, .inr rfl, .inr rfl, .inr rfl, trivial⟩
  exact x_enter (L12 0 (Nat.zero_le _) (nI (N 0)) (by rw [nI_toInt (by omega)]; omega)) ⟨.inr rfl, .inr rfl, .inr rfl, .inr rfl, .inr rfl, trivial⟩
theorem c_X1_boxesBy {l : Launch} {Z : zP} {G : zG} {V : zV} {p : Nat} (hP : PlanAt Z G p) {N : Nat → Nat} (hH : PlanH V p N) {K : Nat} (hC : PlanC V p N K) {q κ b m : Nat} {rf : Nat → Bool} (hR : RuleAt Z G V q κ b m rf) (hK4 : κ = 4 → N 0 < K) : CT l Z yX1_boxesBy cX1_boxesBy 5 (some .long) 5 0 0 [.ref p, .ref q] G V (pJ (lN (boP N (fun d => ruL N κ b m rf d) (N 0))) G (chJ V p N (chP N (fun d => ruL N κ b m rf d) (N 0)))) := by
  refine CT.of (by decide +kernel) (Nat.le_of_ble_eq_true rfl) (fun X hX cx => ?_)
  subst hX
  show Wm Z X 5 G V 0 0 _ 0 [(0, some (.ref p)), (1, some (.ref q))] []
  have h0 := hP.1
  have hh := hP.2.2.1.1
  have hN := hH.1
  have hB := hN.1
  have n4 := hB.1
  have hV := hH.2.1
  have n125 := st125 n4
  have eD := hH.2.2.1
  have eS := hH.2.2.2.1
  have eN := hH.2.2.2.2.1
  have eK := hC.1
  have h06 := hN.2.1
  have hL : ∀ d, 1 ≤ d → d ≤ 6 → ∀ s, s < 5 ^ N 4 → ruL N κ b m rf d s ≤ s := fun d h1 h6 s hs => ruL_le hN h1 h6 hs
  refine x_lconst (pc := 0) (v := lN 0) cx (dA ddX1_boxesBy (i := 0) rfl) rfl ?_
  refine x_lstore_n (pc := 1) cx (dA ddX1_boxesBy (i := 1) rfl) (by decide) rfl ?_
  refine x_aload_n (pc := 2) cx (dA ddX1_boxesBy (i := 2) rfl) rfl ?_
  refine x_V0 (pc := 3) mX1_226 h0 (c_X1_startSpread hP hH) cx (dA ddX1_boxesBy (i := 3) rfl) (kV ?_)
  rw [show (fun t => if t = 0 then 1 else 0) = chP N (fun d => ruL N κ b m rf d) 0 from rfl]
  refine x_aload_n (pc := 6) cx (dA ddX1_boxesBy (i := 4) rfl) rfl ?_
  refine gX1_66 (pc := 7) (congrArg Value.int eD) cx (dA ddX1_boxesBy (i := 5) rfl) h0 ?_
  refine x_istore (pc := 10) cx (dA ddX1_boxesBy (i := 6) rfl) (by decide) rfl ?_
  have L12 : ∀ i, i ≤ N 0 → ∀ v : Int32, v.toInt = (N 0 : Int) - (i : Int) → Wm Z X 5 G (chJ V p N (chP N (fun d => ruL N κ b m rf d) i)) 0 0 (rQ Z X 0 0 (pJ (lN (boP N (fun d => ruL N κ b m rf d) (N 0))) G (chJ V p N (chP N (fun d => ruL N κ b m rf d) (N 0))))) 12 [(0, some (.ref p)), (1, some (.ref q)), (2, some (.long (lN (boP N (fun d => ruL N κ b m rf d) i)))), (4, some (.int v))] [] := by
    refine lpU (N 0) (fun i hi ih => ?_)
    intro v hv
    refine x_iload (pc := 12) cx (dA ddX1_boxesBy (i := 7) rfl) rfl ?_
    refine x_if_le (pc := 14) (tgt := 44) cx (dA ddX1_boxesBy (i := 8) rfl) (by decide) (fun c14 => ?_) (fun c14 => ?_)
    · rw [i32_le, hv, toI_0] at c14
      have ei : i = N 0 := by omega
      subst ei
      refine x_lload_n (pc := 44) cx (dA ddX1_boxesBy (i := 24) rfl) rfl ?_
      refine x_lreturn (pc := 45) cx (dA ddX1_boxesBy (i := 25) rfl) (by first | exact Nat.le_of_ble_eq_true rfl | omega) (by first | exact Nat.le_of_ble_eq_true rfl | omega) ?_
      exact ⟨rfl, rfl, rfl⟩
    · rw [i32_le, hv, toI_0] at c14
      have ev : v = nI (N 0 - i) := by apply Int32.toInt_inj.mp; rw [hv, nI_toInt (by omega)]; omega
      subst ev
      refine x_lload_n (pc := 17) cx (dA ddX1_boxesBy (i := 9) rfl) rfl ?_
      refine x_aload_n (pc := 18) cx (dA ddX1_boxesBy (i := 10) rfl) rfl ?_
      refine x_aload_n (pc := 19) cx (dA ddX1_boxesBy (i := 11) rfl) rfl ?_
      refine x_iload (pc := 20) cx (dA ddX1_boxesBy (i := 12) rfl) rfl ?_
      refine x_V2 (pc := 22) mX1_229 h0 (c_X1_spreadLoad (V := V) hP hH hR (d := N 0 - i) (f := (chP N (fun d => ruL N κ b m rf d) i)) (by omega) (fun t ht => chP_lt hN hL (by omega) ht) (hL _ (by omega) (by omega)) (fun e s hs => (hC.2.2.2 (N 0 - i) (by omega) (by have := hK4 e; omega) s hs).2)) cx (dA ddX1_boxesBy (i := 13) rfl) (kJ ?_)
      refine x_aload_n (pc := 25) cx (dA ddX1_boxesBy (i := 14) rfl) rfl ?_
      refine x_iload (pc := 26) cx (dA ddX1_boxesBy (i := 15) rfl) rfl ?_
      refine x_V1 (pc := 28) mX1_157 h0 (c_X1_unitOf (V := chJ V p N (sprA N (ruL N κ b m rf (N 0 - i)) (chP N (fun d => ruL N κ b m rf d) i) (5 ^ N 4))) hP hH (d := N 0 - i) (by omega) (by omega)) cx (dA ddX1_boxesBy (i := 16) rfl) (kJ ?_)
      refine x_lmul (pc := 31) cx (dA ddX1_boxesBy (i := 17) rfl) ?_
      refine x_ladd (pc := 32) cx (dA ddX1_boxesBy (i := 18) rfl) ?_
      rw [lN_mul, lN_add, show boP N (fun d => ruL N κ b m rf d) i + sprS N (ruL N κ b m rf (N 0 - i)) (chP N (fun d => ruL N κ b m rf d) i) (5 ^ N 4) * 4 ^ ((N 0 - i) * (1 + N 4) - 1) = boP N (fun d => ruL N κ b m rf d) (i + 1) from rfl]
      refine x_lstore_n (pc := 33) cx (dA ddX1_boxesBy (i := 19) rfl) (by decide) rfl ?_
      refine x_aload_n (pc := 34) cx (dA ddX1_boxesBy (i := 20) rfl) rfl ?_
      refine x_V0 (pc := 35) mX1_233 h0 (c_X1_spreadWhatComes (V := V) hP hH) cx (dA ddX1_boxesBy (i := 21) rfl) (kV ?_)
      rw [show cmS N (sprA N (ruL N κ b m rf (N 0 - i)) (chP N (fun d => ruL N κ b m rf d) i) (5 ^ N 4)) (N 4) = chP N (fun d => ruL N κ b m rf d) (i + 1) from rfl]
      refine x_iinc (pc := 38) cx (dA ddX1_boxesBy (i := 22) rfl) rfl rfl (by decide) rfl ?_
      refine x_goto (pc := 41) (tgt := 12) cx (dA ddX1_boxesBy (i := 23) rfl) (by decide) ?_
      exact x_enter (ih (by omega) _ (by rw [nI_dec _ (by omega)]; omega)) ⟨.inr rfl, .inr rfl, .inr rfl, .inr rfl, trivial⟩
  exact x_enter (L12 0 (Nat.zero_le _) (nI (N 0)) (by rw [nI_toInt (by omega)]; omega)) ⟨.inr rfl, .inr rfl, .inr rfl, .inr rfl, trivial⟩
