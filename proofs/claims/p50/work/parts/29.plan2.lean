theorem dD24 {N : Nat → Nat} {d : Nat} (h4 : N 4 ≤ 3) (hd : d ≤ 6) : d * (1 + N 4) ≤ 24 := Nat.mul_le_mul hd (show 1 + N 4 ≤ 4 by omega)
theorem pickP_congr {N : Nat → Nat} {box : Nat} {f g : Nat → Nat} {must : Bool} {s : Nat} (h : ∀ t, t ≤ s → f t = g t) : pickP N box f must s = pickP N box g must s := by
  have hS : ∀ l x, pkS N box f must s l x = pkS N box g must s l x := fun l x => by unfold pkS; rw [h (s - l) (Nat.sub_le _ _)]
  have hA : ∀ b c x a, pkA N box f must s b c x a = pkA N box g must s b c x a := by
    intro b c x a
    induction a with
    | zero => rfl
    | succ a ih => show pkS N box f must s _ _ = pkS N box g must s _ _; rw [ih, hS]
  have hB : ∀ c x b, pkB N box f must s c x b = pkB N box g must s c x b := by
    intro c x b
    induction b with
    | zero => rfl
    | succ b ih => show pkA N box f must s _ _ _ _ = pkA N box g must s _ _ _ _; rw [ih, hA]
  have hC : ∀ c, pkC N box f must s c = pkC N box g must s c := by
    intro c
    induction c with
    | zero => show (0, f s) = (0, g s); rw [h s (Nat.le_refl _)]
    | succ c ih => show pkB N box f must s _ _ _ = pkB N box g must s _ _ _; rw [ih, hB]
  unfold pickP
  rw [hC]
theorem mixP_congr {N : Nat → Nat} {box : Nat} {f g : Nat → Nat} {s l : Nat} (h : ∀ t, t ≤ s → f t = g t) : mixP N box f s l = mixP N box g s l := by
  unfold mixP
  rw [h s (Nat.le_refl _), h (s - l) (Nat.sub_le _ _)]
/-- a stretch by its own places -/
def wAI (V : zV) (a lo hi : Nat) (h : Nat → Int32) : zV := (V.1, V.2.1, (fun x j => if x = a ∧ lo ≤ j ∧ j < hi then h j else V.2.2.1 x j), V.2.2.2)
theorem wAI_0 (V : zV) (a hi : Nat) (h : Nat → Int32) : wAI V a hi hi h = V := by
  obtain ⟨V1, V2, V3, V4⟩ := V
  unfold wAI
  congr 3
  funext x j
  exact if_neg (by omega)
theorem wAI_d {V : zV} {a c hi : Nat} {h : Nat → Int32} (hc : c < hi) {v : Int32} (hv : v = h c) : sAI (wAI V a (c + 1) hi h) a c v = wAI V a c hi h := by
  subst hv
  unfold sAI wAI
  dsimp only
  congr 3
  funext x j
  unfold u2
  dsimp only
  by_cases e : x = a ∧ j = c
  · rw [if_pos e, if_pos (by omega), e.2]
  · rw [if_neg e]
    by_cases e2 : x = a ∧ c + 1 ≤ j ∧ j < hi
    · rw [if_pos e2, if_pos (by omega)]
    · rw [if_neg e2, if_neg (by omega)]
theorem wAI_ne {V : zV} {a lo hi x : Nat} {h : Nat → Int32} (hx : x ≠ a) (j : Nat) : (wAI V a lo hi h).2.2.1 x j = V.2.2.1 x j := if_neg (by omega)
theorem wAI_in {V : zV} {a lo hi j : Nat} {h : Nat → Int32} (h1 : lo ≤ j) (h2 : j < hi) : (wAI V a lo hi h).2.2.1 a j = h j := if_pos ⟨rfl, h1, h2⟩
theorem wAI_out {V : zV} {a lo hi j : Nat} {h : Nat → Int32} (h1 : j < lo ∨ hi ≤ j) : (wAI V a lo hi h).2.2.1 a j = V.2.2.1 a j := if_neg (by omega)
theorem PlanH.wAI {V : zV} {p lo hi : Nat} {N : Nat → Nat} {h : Nat → Int32} (hH : PlanH V p N) : PlanH (wAI V (p + 7) lo hi h) p N := by
  obtain ⟨a1, a2, a3, a4, a5, a6, a7, a8, a9⟩ := hH
  exact ⟨a1, fun j hj => (wAI_ne (by omega) j).trans (a2 j hj), a3, a4, a5, fun s hs => (wAI_ne (by omega) s).trans (a6 s hs), fun s hs => (wAI_ne (by omega) s).trans (a7 s hs), fun s hs => (wAI_ne (by omega) s).trans (a8 s hs), fun s hs => (wAI_ne (by omega) s).trans (a9 s hs)⟩
theorem pkP_le {N : Nat → Nat} {box : Nat} {f : Nat → Nat} {must : Bool} {s : Nat} (hs : s < 125) (hf : ∀ t, t ≤ s → f t < 2 ^ 62) (hb : box < 2 ^ 62) : pickP N box f must s ≤ s := (pkC_ok hs hf hb _ (Nat.le_refl _)).1
theorem c_X1_unitOf {l : Launch} {Z : zP} {G : zG} {V : zV} {p : Nat} (hP : PlanAt Z G p) {N : Nat → Nat} (hH : PlanH V p N) {d : Nat} (h1 : 1 ≤ d) (hd : d ≤ 6) : CT l Z yX1_unitOf cX1_unitOf 2 (some .long) 1 0 0 [.ref p, .int (nI d)] G V (pJ (lN (4 ^ (d * (1 + N 4) - 1))) G V) := by
  refine CT.of (by decide +kernel) (Nat.le_of_ble_eq_true rfl) (fun X hX cx => ?_)
  subst hX
  show Wm Z X 2 G V 0 0 _ 0 [(0, some (.ref p)), (1, some (.int (nI d)))] []
  have h0 := hP.1
  have hh := hP.2.2.1.1
  have hN := hH.1
  have hB := hN.1
  have n4 := hB.1
  have hV := hH.2.1
  have n125 := st125 n4
  have eD := hH.2.2.1
  have eS := hH.2.2.2.1
  have eN := hH.2.2.2.2.1
  have h24 := dD24 n4 hd
  have h11 : 1 ≤ d * (1 + N 4) := Nat.mul_le_mul h1 (show 1 ≤ 1 + N 4 by omega)
  refine x_iload_n (pc := 0) cx (dA ddX1_unitOf (i := 0) rfl) rfl ?_
  refine x_iconst (pc := 1) (v := nI 1) cx (dA ddX1_unitOf (i := 1) rfl) (by decide) ?_
  refine x_aload_n (pc := 2) cx (dA ddX1_unitOf (i := 2) rfl) rfl ?_
  refine gX1_71 (pc := 3) (congrArg Value.int eS) cx (dA ddX1_unitOf (i := 3) rfl) h0 ?_
  refine x_iadd (pc := 6) cx (dA ddX1_unitOf (i := 4) rfl) ?_
  refine x_imul (pc := 7) cx (dA ddX1_unitOf (i := 5) rfl) ?_
  refine x_iconst (pc := 8) (v := nI 1) cx (dA ddX1_unitOf (i := 6) rfl) (by decide) ?_
  refine x_isub (pc := 9) cx (dA ddX1_unitOf (i := 7) rfl) ?_
  rw [nI_add, nI_cmul, pk_sub h11]
  refine x_SN1 (pc := 10) mX1_154 (c_X7_timesOf (by omega)) cx (dA ddX1_unitOf (i := 8) rfl) (kJ ?_)
  refine x_lreturn (pc := 13) cx (dA ddX1_unitOf (i := 9) rfl) (by first | exact Nat.le_of_ble_eq_true rfl | omega) (by first | exact Nat.le_of_ble_eq_true rfl | omega) ?_
  exact rJ rfl
theorem c_X1_boxCost {l : Launch} {Z : zP} {G : zG} {V : zV} {p : Nat} (hP : PlanAt Z G p) {N : Nat → Nat} (hH : PlanH V p N) {d : Nat} (h1 : 1 ≤ d) (hd : d ≤ 6) : CT l Z yX1_boxCost cX1_boxCost 2 (some .long) 2 0 0 [.ref p, .int (nI d)] G V (pJ (lN (boxP N d)) G V) := by
  refine CT.of (by decide +kernel) (Nat.le_of_ble_eq_true rfl) (fun X hX cx => ?_)
  subst hX
  show Wm Z X 2 G V 0 0 _ 0 [(0, some (.ref p)), (1, some (.int (nI d)))] []
  have h0 := hP.1
  have hh := hP.2.2.1.1
  have hN := hH.1
  have hB := hN.1
  have n4 := hB.1
  have hV := hH.2.1
  have n125 := st125 n4
  have eD := hH.2.2.1
  have eS := hH.2.2.2.1
  have eN := hH.2.2.2.2.1
  refine x_aload_n (pc := 0) cx (dA ddX1_boxCost (i := 0) rfl) rfl ?_
  refine gX1_12 (pc := 1) (rfA hP.2.1) cx (dA ddX1_boxCost (i := 1) rfl) h0 ?_
  refine x_iconst (pc := 4) (v := nI 1) cx (dA ddX1_boxCost (i := 2) rfl) (by decide) ?_
  refine x_V1 (pc := 5) mX1_120 hh (c_X0_number hP.2.2.1 hV hB (w := 1) (by omega)) cx (dA ddX1_boxCost (i := 3) rfl) (kI ?_)
  refine x_i2l (pc := 8) cx (dA ddX1_boxCost (i := 4) rfl) ?_
  rw [nI_l (nI20 (hB.2 1 (by omega)))]
  refine x_aload_n (pc := 9) cx (dA ddX1_boxCost (i := 5) rfl) rfl ?_
  refine x_iload_n (pc := 10) cx (dA ddX1_boxCost (i := 6) rfl) rfl ?_
  refine x_V1 (pc := 11) mX1_157 h0 (c_X1_unitOf hP hH h1 hd) cx (dA ddX1_boxCost (i := 7) rfl) (kJ ?_)
  refine x_lmul (pc := 14) cx (dA ddX1_boxCost (i := 8) rfl) ?_
  rw [lN_mul]
  refine x_lreturn (pc := 15) cx (dA ddX1_boxCost (i := 9) rfl) (by first | exact Nat.le_of_ble_eq_true rfl | omega) (by first | exact Nat.le_of_ble_eq_true rfl | omega) ?_
  exact rJ rfl
theorem c_X1_goBackToLoad {l : Launch} {Z : zP} {G : zG} {V : zV} {p : Nat} (hP : PlanAt Z G p) {N : Nat → Nat} (hH : PlanH V p N) {d : Nat} (h1 : 1 ≤ d) (hd : d ≤ 6) {f : Nat → Nat} : CT l Z yX1_goBackToLoad cX1_goBackToLoad 15 none 2 0 0 [.ref p, .int (nI d)] G (wkJ V p N f) (pV G (wkJ V p N (swD N d f))) := by
  refine CT.of (by decide +kernel) (Nat.le_of_ble_eq_true rfl) (fun X hX cx => ?_)
  subst hX
  show Wm Z X 15 G (wkJ V p N f) 0 0 _ 0 [(0, some (.ref p)), (1, some (.int (nI d)))] []
  have h0 := hP.1
  have hh := hP.2.2.1.1
  have hN := hH.1
  have hB := hN.1
  have n4 := hB.1
  have hV := hH.2.1
  have n125 := st125 n4
  have eD := hH.2.2.1
  have eS := hH.2.2.2.1
  have eN := hH.2.2.2.2.1
  refine x_iload_n (pc := 0) cx (dA ddX1_goBackToLoad (i := 0) rfl) rfl ?_
  refine x_iconst (pc := 1) (v := nI 1) cx (dA ddX1_goBackToLoad (i := 1) rfl) (by decide) ?_
  refine x_isub (pc := 2) cx (dA ddX1_goBackToLoad (i := 2) rfl) ?_
  refine x_aload_n (pc := 3) cx (dA ddX1_goBackToLoad (i := 3) rfl) rfl ?_
  refine gX1_71 (pc := 4) (congrArg Value.int eS) cx (dA ddX1_goBackToLoad (i := 4) rfl) h0 ?_
  rw [pk_sub h1]
  refine x_SN2 (pc := 7) mX1_160 (c_X7_scaleOf (a := d - 1) (b := N 4) (by have := dD24 n4 (show d - 1 ≤ 6 by omega); omega)) cx (dA ddX1_goBackToLoad (i := 5) rfl) (kJ ?_)
  rw [show 4 ^ ((d - 1) * (1 + N 4)) = sclP N (d - 1) from rfl]
  refine x_lstore_n (pc := 10) cx (dA ddX1_goBackToLoad (i := 6) rfl) (by decide) rfl ?_
  refine x_iconst (pc := 11) (v := nI 0) cx (dA ddX1_goBackToLoad (i := 7) rfl) (by decide) ?_
  refine x_istore (pc := 12) cx (dA ddX1_goBackToLoad (i := 8) rfl) (by decide) rfl ?_
  have L14 : ∀ j, j ≤ N 4 → Wm Z X 15 G (wkJ V p N (swS N (sclP N (d - 1)) f j)) 0 0 (rQ Z X 0 0 (pV G (wkJ V p N (swD N d f)))) 14 [(0, some (.ref p)), (1, some (.int (nI d))), (2, some (.long (lN ((sclP N (d - 1)) * 4 ^ j)))), (4, some (.int (nI j)))] [] := by
    refine lpU (N 4) (fun j hj ih => ?_)
    refine x_iload (pc := 14) cx (dA ddX1_goBackToLoad (i := 9) rfl) rfl ?_
    refine x_aload_n (pc := 16) cx (dA ddX1_goBackToLoad (i := 10) rfl) rfl ?_
    refine gX1_71 (pc := 17) (congrArg Value.int eS) cx (dA ddX1_goBackToLoad (i := 11) rfl) h0 ?_
    refine x_icmp_ge (pc := 20) (tgt := 156) cx (dA ddX1_goBackToLoad (i := 12) rfl) (by decide) (fun c20 => ?_) (fun c20 => ?_)
    · have c20 := cleT (by omega) (by omega) c20
      have ej : j = N 4 := by omega
      subst ej
      refine x_iconst (pc := 156) (v := nI 0) cx (dA ddX1_goBackToLoad (i := 80) rfl) (by decide) ?_
      refine x_istore (pc := 157) cx (dA ddX1_goBackToLoad (i := 81) rfl) (by decide) rfl ?_
      have L159 : ∀ s, s ≤ 5 ^ N 4 → Wm Z X 15 G (wkJ V p N (upP s (swD N d f) (swS N (sclP N (d - 1)) f (N 4)))) 0 0 (rQ Z X 0 0 (pV G (wkJ V p N (swD N d f)))) 159 [(0, some (.ref p)), (1, some (.int (nI d))), (2, some (.long (lN ((sclP N (d - 1)) * 4 ^ N 4)))), (4, some (.int (nI s)))] [] := by
        refine lpU (5 ^ N 4) (fun s hs ih2 => ?_)
        refine x_iload (pc := 159) cx (dA ddX1_goBackToLoad (i := 82) rfl) rfl ?_
        refine x_aload_n (pc := 161) cx (dA ddX1_goBackToLoad (i := 83) rfl) rfl ?_
        refine gX1_76 (pc := 162) (congrArg Value.int eN) cx (dA ddX1_goBackToLoad (i := 84) rfl) h0 ?_
        refine x_icmp_ge (pc := 165) (tgt := 205) cx (dA ddX1_goBackToLoad (i := 85) rfl) (by decide) (fun c165 => ?_) (fun c165 => ?_)
        · have c165 := cleT (by omega) (by omega) c165
          have es : s = 5 ^ N 4 := by omega
          subst es
          rw [wk_upN]
          refine x_return (pc := 205) cx (dA ddX1_goBackToLoad (i := 104) rfl) (by first | exact Nat.le_of_ble_eq_true rfl | omega) (by first | exact Nat.le_of_ble_eq_true rfl | omega) ?_
          exact ⟨rfl, rfl, rfl⟩
        · have c165 := cleF (by omega) (by omega) c165
          refine x_aload_n (pc := 168) cx (dA ddX1_goBackToLoad (i := 86) rfl) rfl ?_
          refine gX1_41 (pc := 169) (rfA hP.2.2.2.2.2.2.2.2.2.2.1.1) cx (dA ddX1_goBackToLoad (i := 87) rfl) h0 ?_
          refine x_iload (pc := 172) cx (dA ddX1_goBackToLoad (i := 88) rfl) rfl ?_
          refine x_aload_n (pc := 174) cx (dA ddX1_goBackToLoad (i := 89) rfl) rfl ?_
          refine gX1_41 (pc := 175) (rfA hP.2.2.2.2.2.2.2.2.2.2.1.1) cx (dA ddX1_goBackToLoad (i := 90) rfl) h0 ?_
          refine x_iload (pc := 178) cx (dA ddX1_goBackToLoad (i := 91) rfl) rfl ?_
          refine x_SN2 (pc := 180) mX1_109 (c_X7_at_ hP.2.2.2.2.2.2.2.2.2.2.1.2 (by decide)) cx (dA ddX1_goBackToLoad (i := 92) rfl) (kJ ?_)
          rw [wk_get c165 n125, upP_at (Nat.le_refl _)]
          refine x_aload_n (pc := 183) cx (dA ddX1_goBackToLoad (i := 93) rfl) rfl ?_
          refine gX1_22 (pc := 184) (rfA hP.2.2.2.2.1.1) cx (dA ddX1_goBackToLoad (i := 94) rfl) h0 ?_
          refine x_iload (pc := 187) cx (dA ddX1_goBackToLoad (i := 95) rfl) rfl ?_
          refine x_SN2 (pc := 189) mX1_98 (c_X7_at hP.2.2.2.2.1.2 (by decide)) cx (dA ddX1_goBackToLoad (i := 96) rfl) (kI ?_)
          rw [atI_in (by omega) (by decide), show (wkJ V p N (upP s (swD N d f) (swS N (sclP N (d - 1)) f (N 4)))).2.2.1 (p + 4) s = nI (sumP N s 2) from hH.2.2.2.2.2.2.1 s c165]
          refine x_i2l (pc := 192) cx (dA ddX1_goBackToLoad (i := 97) rfl) ?_
          rw [nI_l (by have := sumP_lt hB (s := s) (w := 2) (by omega); omega)]
          refine x_lload_n (pc := 193) cx (dA ddX1_goBackToLoad (i := 98) rfl) rfl ?_
          refine x_lmul (pc := 194) cx (dA ddX1_goBackToLoad (i := 99) rfl) ?_
          refine x_ladd (pc := 195) cx (dA ddX1_goBackToLoad (i := 100) rfl) ?_
          rw [lN_mul, lN_add, show (swS N (sclP N (d - 1)) f (N 4)) s + sumP N s 2 * ((sclP N (d - 1)) * 4 ^ N 4) = swD N d f s from rfl]
          refine x_SN3 (pc := 196) mX1_151 (c_X7_put_ hP.2.2.2.2.2.2.2.2.2.2.1.2 (by omega) (by decide)) cx (dA ddX1_goBackToLoad (i := 101) rfl) (kV ?_)
          rw [wk_set c165, upP_s]
          refine x_iinc (pc := 199) cx (dA ddX1_goBackToLoad (i := 102) rfl) rfl (iinc1 _) (by decide) rfl ?_
          refine x_goto (pc := 202) (tgt := 159) cx (dA ddX1_goBackToLoad (i := 103) rfl) (by decide) ?_
          exact x_enter (ih2 (by omega)) ⟨.inr rfl, .inr rfl, .inr rfl, .inr rfl, trivial⟩
      have L := L159 0 (Nat.zero_le _)
      rw [upP_0] at L
      exact x_enter L ⟨.inr rfl, .inr rfl, .inr rfl, .inr rfl, trivial⟩
    · have c20 := cleF (by omega) (by omega) c20
      have bc := hB.2 (5 + 5 * j + 1) (by omega)
      have br := hB.2 (5 + 5 * j + 3) (by omega)
      have c4 := (hN.2.2.2.2 j c20 1 (by omega)).2
      have c4 : N (5 + 5 * j + 1) ≤ 4 := c4
      refine x_iload (pc := 23) cx (dA ddX1_goBackToLoad (i := 13) rfl) rfl ?_
      refine x_SN1 (pc := 25) mX1_164 (c_X7_oneOf (by omega)) cx (dA ddX1_goBackToLoad (i := 14) rfl) (kI ?_)
      refine x_istore (pc := 28) cx (dA ddX1_goBackToLoad (i := 15) rfl) (by decide) rfl ?_
      refine x_aload_n (pc := 30) cx (dA ddX1_goBackToLoad (i := 16) rfl) rfl ?_
      refine gX1_12 (pc := 31) (rfA hP.2.1) cx (dA ddX1_goBackToLoad (i := 17) rfl) h0 ?_
      refine x_iload (pc := 34) cx (dA ddX1_goBackToLoad (i := 18) rfl) rfl ?_
      refine x_iconst (pc := 36) (v := nI 1) cx (dA ddX1_goBackToLoad (i := 19) rfl) (by decide) ?_
      refine x_V2 (pc := 37) mX1_167 hh (c_X0_sortNumber hP.2.2.1 (V := wkJ V p N (swS N (sclP N (d - 1)) f j)) hV hB (s := j) (w := 1) (by omega) (by omega)) cx (dA ddX1_goBackToLoad (i := 20) rfl) (kI ?_)
      refine x_i2l (pc := 40) cx (dA ddX1_goBackToLoad (i := 21) rfl) ?_
      rw [nI_l (by omega)]
      refine x_lstore (pc := 41) cx (dA ddX1_goBackToLoad (i := 22) rfl) (by decide) rfl ?_
      refine x_aload_n (pc := 43) cx (dA ddX1_goBackToLoad (i := 23) rfl) rfl ?_
      refine gX1_12 (pc := 44) (rfA hP.2.1) cx (dA ddX1_goBackToLoad (i := 24) rfl) h0 ?_
      refine x_iload (pc := 47) cx (dA ddX1_goBackToLoad (i := 25) rfl) rfl ?_
      refine x_iconst (pc := 49) (v := nI 3) cx (dA ddX1_goBackToLoad (i := 26) rfl) (by decide) ?_
      refine x_V2 (pc := 50) mX1_167 hh (c_X0_sortNumber hP.2.2.1 (V := wkJ V p N (swS N (sclP N (d - 1)) f j)) hV hB (s := j) (w := 3) (by omega) (by omega)) cx (dA ddX1_goBackToLoad (i := 27) rfl) (kI ?_)
      refine x_i2l (pc := 53) cx (dA ddX1_goBackToLoad (i := 28) rfl) ?_
      rw [nI_l (by omega)]
      refine x_lload_n (pc := 54) cx (dA ddX1_goBackToLoad (i := 29) rfl) rfl ?_
      refine x_lmul (pc := 55) cx (dA ddX1_goBackToLoad (i := 30) rfl) ?_
      rw [lN_mul]
      refine x_lstore (pc := 56) cx (dA ddX1_goBackToLoad (i := 31) rfl) (by decide) rfl ?_
      refine x_iconst (pc := 58) (v := nI 0) cx (dA ddX1_goBackToLoad (i := 32) rfl) (by decide) ?_
      refine x_istore (pc := 59) cx (dA ddX1_goBackToLoad (i := 33) rfl) (by decide) rfl ?_
      have L61 : ∀ s, s ≤ 5 ^ N 4 → Wm Z X 15 G (wkJ V p N (upP s (swA N j ((sclP N (d - 1)) * 4 ^ j) (swS N (sclP N (d - 1)) f j)) (swS N (sclP N (d - 1)) f j))) 0 0 (rQ Z X 0 0 (pV G (wkJ V p N (swD N d f)))) 61 [(0, some (.ref p)), (1, some (.int (nI d))), (2, some (.long (lN ((sclP N (d - 1)) * 4 ^ j)))), (4, some (.int (nI j))), (5, some (.int (nI (5 ^ j)))), (6, some (.long (lN (N (5 + 5 * j + 1))))), (8, some (.long (lN (N (5 + 5 * j + 3) * ((sclP N (d - 1)) * 4 ^ j))))), (10, some (.int (nI s)))] [] := by
        refine lpU (5 ^ N 4) (fun s hs ih2 => ?_)
        refine x_iload (pc := 61) cx (dA ddX1_goBackToLoad (i := 34) rfl) rfl ?_
        refine x_aload_n (pc := 63) cx (dA ddX1_goBackToLoad (i := 35) rfl) rfl ?_
        refine gX1_76 (pc := 64) (congrArg Value.int eN) cx (dA ddX1_goBackToLoad (i := 36) rfl) h0 ?_
        refine x_icmp_ge (pc := 67) (tgt := 144) cx (dA ddX1_goBackToLoad (i := 37) rfl) (by decide) (fun c67 => ?_) (fun c67 => ?_)
        · have c67 := cleT (by omega) (by omega) c67
          have es : s = 5 ^ N 4 := by omega
          subst es
          rw [wk_upN]
          refine x_lload_n (pc := 144) cx (dA ddX1_goBackToLoad (i := 74) rfl) rfl ?_
          refine x_ldc2 (pc := 145) cx klX1_127 (dA ddX1_goBackToLoad (i := 75) rfl) ?_
          refine x_lmul (pc := 148) cx (dA ddX1_goBackToLoad (i := 76) rfl) ?_
          rw [lN_mul, show (sclP N (d - 1)) * 4 ^ j * 4 = (sclP N (d - 1)) * 4 ^ (j + 1) from by rw [Nat.pow_succ, Nat.mul_assoc]]
          refine x_lstore_n (pc := 149) cx (dA ddX1_goBackToLoad (i := 77) rfl) (by decide) rfl ?_
          refine x_iinc (pc := 150) cx (dA ddX1_goBackToLoad (i := 78) rfl) rfl (iinc1 _) (by decide) rfl ?_
          refine x_goto (pc := 153) (tgt := 14) cx (dA ddX1_goBackToLoad (i := 79) rfl) (by decide) ?_
          exact x_enter (ih (by omega)) ⟨.inr rfl, .inr rfl, .inr rfl, .inr rfl, trivial⟩
        · have c67 := cleF (by omega) (by omega) c67
          refine x_aload_n (pc := 70) cx (dA ddX1_goBackToLoad (i := 38) rfl) rfl ?_
          refine gX1_41 (pc := 71) (rfA hP.2.2.2.2.2.2.2.2.2.2.1.1) cx (dA ddX1_goBackToLoad (i := 39) rfl) h0 ?_
          refine x_iload (pc := 74) cx (dA ddX1_goBackToLoad (i := 40) rfl) rfl ?_
          refine x_SN2 (pc := 76) mX1_109 (c_X7_at_ hP.2.2.2.2.2.2.2.2.2.2.1.2 (by decide)) cx (dA ddX1_goBackToLoad (i := 41) rfl) (kJ ?_)
          rw [wk_get c67 n125, upP_at (Nat.le_refl _)]
          refine x_lstore (pc := 79) cx (dA ddX1_goBackToLoad (i := 42) rfl) (by decide) rfl ?_
          refine x_iload (pc := 81) cx (dA ddX1_goBackToLoad (i := 43) rfl) rfl ?_
          refine x_iload (pc := 83) cx (dA ddX1_goBackToLoad (i := 44) rfl) rfl ?_
          refine x_SN2 (pc := 85) mX1_170 (c_X7_standing (by omega) (by omega)) cx (dA ddX1_goBackToLoad (i := 45) rfl) (kI ?_)
          have dl := dig_lt s j
          refine x_iconst (pc := 88) (v := nI 4) cx (dA ddX1_goBackToLoad (i := 46) rfl) (by decide) ?_
          refine x_icmp_ge (pc := 89) (tgt := 107) cx (dA ddX1_goBackToLoad (i := 47) rfl) (by decide) (fun c89 => ?_) (fun c89 => ?_)
          · have c89 := cleT (by omega) (by omega) c89
            have e : swA N j ((sclP N (d - 1)) * 4 ^ j) (swS N (sclP N (d - 1)) f j) s = N (5 + 5 * j + 1) * ((swS N (sclP N (d - 1)) f j) s + N (5 + 5 * j + 3) * ((sclP N (d - 1)) * 4 ^ j)) + (4 - N (5 + 5 * j + 1)) * (swS N (sclP N (d - 1)) f j) s := by unfold swA; rw [if_neg (by omega)]
            refine x_lload (pc := 107) cx (dA ddX1_goBackToLoad (i := 55) rfl) rfl ?_
            refine x_lload (pc := 109) cx (dA ddX1_goBackToLoad (i := 56) rfl) rfl ?_
            refine x_ladd (pc := 111) cx (dA ddX1_goBackToLoad (i := 57) rfl) ?_
            rw [lN_add]
            refine x_lstore (pc := 112) cx (dA ddX1_goBackToLoad (i := 58) rfl) (by decide) rfl ?_
            refine x_aload_n (pc := 114) cx (dA ddX1_goBackToLoad (i := 59) rfl) rfl ?_
            refine gX1_41 (pc := 115) (rfA hP.2.2.2.2.2.2.2.2.2.2.1.1) cx (dA ddX1_goBackToLoad (i := 60) rfl) h0 ?_
            refine x_iload (pc := 118) cx (dA ddX1_goBackToLoad (i := 61) rfl) rfl ?_
            refine x_lload (pc := 120) cx (dA ddX1_goBackToLoad (i := 62) rfl) rfl ?_
            refine x_lload (pc := 122) cx (dA ddX1_goBackToLoad (i := 63) rfl) rfl ?_
            refine x_lmul (pc := 124) cx (dA ddX1_goBackToLoad (i := 64) rfl) ?_
            refine x_ldc2 (pc := 125) cx klX1_127 (dA ddX1_goBackToLoad (i := 65) rfl) ?_
            refine x_lload (pc := 128) cx (dA ddX1_goBackToLoad (i := 66) rfl) rfl ?_
            refine x_lsub (pc := 130) cx (dA ddX1_goBackToLoad (i := 67) rfl) ?_
            refine x_lload (pc := 131) cx (dA ddX1_goBackToLoad (i := 68) rfl) rfl ?_
            refine x_lmul (pc := 133) cx (dA ddX1_goBackToLoad (i := 69) rfl) ?_
            refine x_ladd (pc := 134) cx (dA ddX1_goBackToLoad (i := 70) rfl) ?_
            rw [lN_sub c4, lN_mul, lN_mul, lN_add, ← e]
            refine x_SN3 (pc := 135) mX1_151 (c_X7_put_ hP.2.2.2.2.2.2.2.2.2.2.1.2 (by omega) (by decide)) cx (dA ddX1_goBackToLoad (i := 71) rfl) (kV ?_)
            rw [wk_set c67, upP_s]
            refine x_iinc (pc := 138) cx (dA ddX1_goBackToLoad (i := 72) rfl) rfl (iinc1 _) (by decide) rfl ?_
            refine x_goto (pc := 141) (tgt := 61) cx (dA ddX1_goBackToLoad (i := 73) rfl) (by decide) ?_
            exact x_enter (ih2 (by omega)) ⟨.inr rfl, .inr rfl, .inr rfl, .inr rfl, .inr rfl, .inr rfl, .inr rfl, .inr rfl, trivial⟩
          · have c89 := cleF (by omega) (by omega) c89
            have up := dig_up n4 c20 c67 c89
            have e : swA N j ((sclP N (d - 1)) * 4 ^ j) (swS N (sclP N (d - 1)) f j) s = N (5 + 5 * j + 1) * ((swS N (sclP N (d - 1)) f j) (s + 5 ^ j)) + (4 - N (5 + 5 * j + 1)) * (swS N (sclP N (d - 1)) f j) s := by unfold swA; rw [if_pos c89]
            refine x_aload_n (pc := 92) cx (dA ddX1_goBackToLoad (i := 48) rfl) rfl ?_
            refine gX1_41 (pc := 93) (rfA hP.2.2.2.2.2.2.2.2.2.2.1.1) cx (dA ddX1_goBackToLoad (i := 49) rfl) h0 ?_
            refine x_iload (pc := 96) cx (dA ddX1_goBackToLoad (i := 50) rfl) rfl ?_
            refine x_iload (pc := 98) cx (dA ddX1_goBackToLoad (i := 51) rfl) rfl ?_
            refine x_iadd (pc := 100) cx (dA ddX1_goBackToLoad (i := 52) rfl) ?_
            rw [nI_add]
            refine x_SN2 (pc := 101) mX1_109 (c_X7_at_ hP.2.2.2.2.2.2.2.2.2.2.1.2 (by decide)) cx (dA ddX1_goBackToLoad (i := 53) rfl) (kJ ?_)
            rw [wk_get up n125, upP_at (Nat.le_add_right _ _)]
            refine x_goto (pc := 104) (tgt := 112) cx (dA ddX1_goBackToLoad (i := 54) rfl) (by decide) ?_
            refine x_lstore (pc := 112) cx (dA ddX1_goBackToLoad (i := 58) rfl) (by decide) rfl ?_
            refine x_aload_n (pc := 114) cx (dA ddX1_goBackToLoad (i := 59) rfl) rfl ?_
            refine gX1_41 (pc := 115) (rfA hP.2.2.2.2.2.2.2.2.2.2.1.1) cx (dA ddX1_goBackToLoad (i := 60) rfl) h0 ?_
            refine x_iload (pc := 118) cx (dA ddX1_goBackToLoad (i := 61) rfl) rfl ?_
            refine x_lload (pc := 120) cx (dA ddX1_goBackToLoad (i := 62) rfl) rfl ?_
            refine x_lload (pc := 122) cx (dA ddX1_goBackToLoad (i := 63) rfl) rfl ?_
            refine x_lmul (pc := 124) cx (dA ddX1_goBackToLoad (i := 64) rfl) ?_
            refine x_ldc2 (pc := 125) cx klX1_127 (dA ddX1_goBackToLoad (i := 65) rfl) ?_
            refine x_lload (pc := 128) cx (dA ddX1_goBackToLoad (i := 66) rfl) rfl ?_
            refine x_lsub (pc := 130) cx (dA ddX1_goBackToLoad (i := 67) rfl) ?_
            refine x_lload (pc := 131) cx (dA ddX1_goBackToLoad (i := 68) rfl) rfl ?_
            refine x_lmul (pc := 133) cx (dA ddX1_goBackToLoad (i := 69) rfl) ?_
            refine x_ladd (pc := 134) cx (dA ddX1_goBackToLoad (i := 70) rfl) ?_
            rw [lN_sub c4, lN_mul, lN_mul, lN_add, ← e]
            refine x_SN3 (pc := 135) mX1_151 (c_X7_put_ hP.2.2.2.2.2.2.2.2.2.2.1.2 (by omega) (by decide)) cx (dA ddX1_goBackToLoad (i := 71) rfl) (kV ?_)
            rw [wk_set c67, upP_s]
            refine x_iinc (pc := 138) cx (dA ddX1_goBackToLoad (i := 72) rfl) rfl (iinc1 _) (by decide) rfl ?_
            refine x_goto (pc := 141) (tgt := 61) cx (dA ddX1_goBackToLoad (i := 73) rfl) (by decide) ?_
            exact x_enter (ih2 (by omega)) ⟨.inr rfl, .inr rfl, .inr rfl, .inr rfl, .inr rfl, .inr rfl, .inr rfl, .inr rfl, trivial⟩
      have L := L61 0 (Nat.zero_le _)
      rw [upP_0] at L
      exact x_enter L ⟨.inr rfl, .inr rfl, .inr rfl, .inr rfl, .inr rfl, .inr rfl, .inr rfl, .inr rfl, trivial⟩
  have L := L14 0 (Nat.zero_le _)
  rw [Nat.pow_zero, Nat.mul_one] at L
  exact x_enter L ⟨.inr rfl, .inr rfl, .inr rfl, .inr rfl, trivial⟩
theorem c_X1_mix {l : Launch} {Z : zP} {G : zG} {V : zV} {p : Nat} (hP : PlanAt Z G p) {N : Nat → Nat} (hH : PlanH V p N) {f : Nat → Nat} {box s q : Nat} (hs : s < 5 ^ N 4) (hl : q ≤ s) : CT l Z yX1_mix cX1_mix 11 none 1 0 0 [.ref p, .int (nI s), .int (nI q), .long (lN box)] G (wkJ V p N f) (pV G (wkJ V p N (numP f s (mixP N box f s q)))) := by
  refine CT.of (by decide +kernel) (Nat.le_of_ble_eq_true rfl) (fun X hX cx => ?_)
  subst hX
  show Wm Z X 11 G (wkJ V p N f) 0 0 _ 0 [(0, some (.ref p)), (1, some (.int (nI s))), (2, some (.int (nI q))), (3, some (.long (lN box)))] []
  have h0 := hP.1
  have hh := hP.2.2.1.1
  have hN := hH.1
  have hB := hN.1
  have n4 := hB.1
  have hV := hH.2.1
  have n125 := st125 n4
  have eD := hH.2.2.1
  have eS := hH.2.2.2.1
  have eN := hH.2.2.2.2.1
  refine x_aload_n (pc := 0) cx (dA ddX1_mix (i := 0) rfl) rfl ?_
  refine gX1_12 (pc := 1) (rfA hP.2.1) cx (dA ddX1_mix (i := 1) rfl) h0 ?_
  refine x_iconst (pc := 4) (v := nI 3) cx (dA ddX1_mix (i := 2) rfl) (by decide) ?_
  refine x_V1 (pc := 5) mX1_120 hh (c_X0_number hP.2.2.1 (V := wkJ V p N f) hV hB (w := 3) (by omega)) cx (dA ddX1_mix (i := 3) rfl) (kI ?_)
  refine x_i2l (pc := 8) cx (dA ddX1_mix (i := 4) rfl) ?_
  have b3 := hN.2.2.2.1
  rw [nI_l (by omega)]
  refine x_lstore (pc := 9) cx (dA ddX1_mix (i := 5) rfl) (by decide) rfl ?_
  refine x_aload_n (pc := 11) cx (dA ddX1_mix (i := 6) rfl) rfl ?_
  refine gX1_41 (pc := 12) (rfA hP.2.2.2.2.2.2.2.2.2.2.1.1) cx (dA ddX1_mix (i := 7) rfl) h0 ?_
  refine x_iload_n (pc := 15) cx (dA ddX1_mix (i := 8) rfl) rfl ?_
  refine x_SN2 (pc := 16) mX1_109 (c_X7_at_ hP.2.2.2.2.2.2.2.2.2.2.1.2 (by decide)) cx (dA ddX1_mix (i := 9) rfl) (kJ ?_)
  rw [wk_get hs n125]
  refine x_lstore (pc := 19) cx (dA ddX1_mix (i := 10) rfl) (by decide) rfl ?_
  refine x_aload_n (pc := 21) cx (dA ddX1_mix (i := 11) rfl) rfl ?_
  refine gX1_41 (pc := 22) (rfA hP.2.2.2.2.2.2.2.2.2.2.1.1) cx (dA ddX1_mix (i := 12) rfl) h0 ?_
  refine x_iload_n (pc := 25) cx (dA ddX1_mix (i := 13) rfl) rfl ?_
  refine x_iload_n (pc := 26) cx (dA ddX1_mix (i := 14) rfl) rfl ?_
  refine x_isub (pc := 27) cx (dA ddX1_mix (i := 15) rfl) ?_
  rw [pk_sub hl]
  refine x_SN2 (pc := 28) mX1_109 (c_X7_at_ hP.2.2.2.2.2.2.2.2.2.2.1.2 (by decide)) cx (dA ddX1_mix (i := 16) rfl) (kJ ?_)
  rw [wk_get (by omega) n125]
  refine x_iload_n (pc := 31) cx (dA ddX1_mix (i := 17) rfl) rfl ?_
  refine x_if_ne (pc := 32) (tgt := 39) cx (dA ddX1_mix (i := 18) rfl) (by decide) (fun c32 => ?_) (fun c32 => ?_)
  · have e9 : (if q = 0 then 0 else box) = box := if_neg (fun e => c32 (by rw [e]; rfl))
    refine x_lload_n (pc := 39) cx (dA ddX1_mix (i := 21) rfl) rfl ?_
    refine x_ladd (pc := 40) cx (dA ddX1_mix (i := 22) rfl) ?_
    refine x_lstore (pc := 41) cx (dA ddX1_mix (i := 23) rfl) (by decide) rfl ?_
    refine x_aload_n (pc := 43) cx (dA ddX1_mix (i := 24) rfl) rfl ?_
    refine gX1_41 (pc := 44) (rfA hP.2.2.2.2.2.2.2.2.2.2.1.1) cx (dA ddX1_mix (i := 25) rfl) h0 ?_
    refine x_iload_n (pc := 47) cx (dA ddX1_mix (i := 26) rfl) rfl ?_
    refine x_lload (pc := 48) cx (dA ddX1_mix (i := 27) rfl) rfl ?_
    refine x_lload (pc := 50) cx (dA ddX1_mix (i := 28) rfl) rfl ?_
    refine x_lmul (pc := 52) cx (dA ddX1_mix (i := 29) rfl) ?_
    refine x_ldc2 (pc := 53) cx klX1_127 (dA ddX1_mix (i := 30) rfl) ?_
    refine x_lload (pc := 56) cx (dA ddX1_mix (i := 31) rfl) rfl ?_
    refine x_lsub (pc := 58) cx (dA ddX1_mix (i := 32) rfl) ?_
    refine x_lload (pc := 59) cx (dA ddX1_mix (i := 33) rfl) rfl ?_
    refine x_lmul (pc := 61) cx (dA ddX1_mix (i := 34) rfl) ?_
    refine x_ladd (pc := 62) cx (dA ddX1_mix (i := 35) rfl) ?_
    rw [lN_add, lN_sub (by omega), lN_mul, lN_mul, lN_add, show N 3 * f s + (4 - N 3) * (f (s - q) + box) = mixP N box f s q from by unfold mixP; rw [e9]]
    refine x_SN3 (pc := 63) mX1_151 (c_X7_put_ hP.2.2.2.2.2.2.2.2.2.2.1.2 (by omega) (by decide)) cx (dA ddX1_mix (i := 36) rfl) (kV ?_)
    rw [wk_set hs]
    refine x_return (pc := 66) cx (dA ddX1_mix (i := 37) rfl) (by first | exact Nat.le_of_ble_eq_true rfl | omega) (by first | exact Nat.le_of_ble_eq_true rfl | omega) ?_
    exact ⟨rfl, rfl, rfl⟩
  · have e9 : (if q = 0 then 0 else box) = 0 := if_pos (nI_inj (b := 0) (by omega) (by decide) c32)
    refine x_lconst (pc := 35) (v := lN 0) cx (dA ddX1_mix (i := 19) rfl) rfl ?_
    refine x_goto (pc := 36) (tgt := 40) cx (dA ddX1_mix (i := 20) rfl) (by decide) ?_
    refine x_ladd (pc := 40) cx (dA ddX1_mix (i := 22) rfl) ?_
    refine x_lstore (pc := 41) cx (dA ddX1_mix (i := 23) rfl) (by decide) rfl ?_
    refine x_aload_n (pc := 43) cx (dA ddX1_mix (i := 24) rfl) rfl ?_
    refine gX1_41 (pc := 44) (rfA hP.2.2.2.2.2.2.2.2.2.2.1.1) cx (dA ddX1_mix (i := 25) rfl) h0 ?_
    refine x_iload_n (pc := 47) cx (dA ddX1_mix (i := 26) rfl) rfl ?_
    refine x_lload (pc := 48) cx (dA ddX1_mix (i := 27) rfl) rfl ?_
    refine x_lload (pc := 50) cx (dA ddX1_mix (i := 28) rfl) rfl ?_
    refine x_lmul (pc := 52) cx (dA ddX1_mix (i := 29) rfl) ?_
    refine x_ldc2 (pc := 53) cx klX1_127 (dA ddX1_mix (i := 30) rfl) ?_
    refine x_lload (pc := 56) cx (dA ddX1_mix (i := 31) rfl) rfl ?_
    refine x_lsub (pc := 58) cx (dA ddX1_mix (i := 32) rfl) ?_
    refine x_lload (pc := 59) cx (dA ddX1_mix (i := 33) rfl) rfl ?_
    refine x_lmul (pc := 61) cx (dA ddX1_mix (i := 34) rfl) ?_
    refine x_ladd (pc := 62) cx (dA ddX1_mix (i := 35) rfl) ?_
    rw [lN_add, lN_sub (by omega), lN_mul, lN_mul, lN_add, show N 3 * f s + (4 - N 3) * (f (s - q) + 0) = mixP N box f s q from by unfold mixP; rw [e9]]
    refine x_SN3 (pc := 63) mX1_151 (c_X7_put_ hP.2.2.2.2.2.2.2.2.2.2.1.2 (by omega) (by decide)) cx (dA ddX1_mix (i := 36) rfl) (kV ?_)
    rw [wk_set hs]
    refine x_return (pc := 66) cx (dA ddX1_mix (i := 37) rfl) (by first | exact Nat.le_of_ble_eq_true rfl | omega) (by first | exact Nat.le_of_ble_eq_true rfl | omega) ?_
    exact ⟨rfl, rfl, rfl⟩
theorem c_X1_pick {l : Launch} {Z : zP} {G : zG} {V : zV} {p : Nat} (hP : PlanAt Z G p) {N : Nat → Nat} (hH : PlanH V p N) {f : Nat → Nat} {box s : Nat} {must : Bool} (hs : s < 5 ^ N 4) (hf : ∀ t, t ≤ s → f t < 2 ^ 62) (hb : box < 2 ^ 62) : CT l Z yX1_pick cX1_pick 15 (some .int) 1 0 0 [.ref p, .int (nI s), .long (lN box), .int (b2i (must = true))] G (wkJ V p N f) (pI (nI (pickP N box f must s)) G (wkJ V p N f)) := by
  refine CT.of (by decide +kernel) (Nat.le_of_ble_eq_true rfl) (fun X hX cx => ?_)
  subst hX
  show Wm Z X 15 G (wkJ V p N f) 0 0 _ 0 [(0, some (.ref p)), (1, some (.int (nI s))), (2, some (.long (lN box))), (4, some (.int (b2i (must = true))))] []
  have h0 := hP.1
  have hh := hP.2.2.1.1
  have hN := hH.1
  have hB := hN.1
  have n4 := hB.1
  have hV := hH.2.1
  have n125 := st125 n4
  have eD := hH.2.2.1
  have eS := hH.2.2.2.1
  have eN := hH.2.2.2.2.1
  have s125 : s < 125 := by omega
  have d3 := dig3 s125
  have g0 := dig_lt s 0
  have g1 := dig_lt s 1
  have g2 := dig_lt s 2
  refine x_aload_n (pc := 0) cx (dA ddX1_pick (i := 0) rfl) rfl ?_
  refine gX1_12 (pc := 1) (rfA hP.2.1) cx (dA ddX1_pick (i := 1) rfl) h0 ?_
  refine x_iconst (pc := 4) (v := nI 2) cx (dA ddX1_pick (i := 2) rfl) (by decide) ?_
  refine x_V1 (pc := 5) mX1_120 hh (c_X0_number hP.2.2.1 (V := wkJ V p N f) hV hB (w := 2) (by omega)) cx (dA ddX1_pick (i := 3) rfl) (kI ?_)
  refine x_istore (pc := 8) cx (dA ddX1_pick (i := 4) rfl) (by decide) rfl ?_
  refine x_iconst (pc := 10) (v := nI 0) cx (dA ddX1_pick (i := 5) rfl) (by decide) ?_
  refine x_istore (pc := 11) cx (dA ddX1_pick (i := 6) rfl) (by decide) rfl ?_
  refine x_aload_n (pc := 13) cx (dA ddX1_pick (i := 7) rfl) rfl ?_
  refine gX1_41 (pc := 14) (rfA hP.2.2.2.2.2.2.2.2.2.2.1.1) cx (dA ddX1_pick (i := 8) rfl) h0 ?_
  refine x_iload_n (pc := 17) cx (dA ddX1_pick (i := 9) rfl) rfl ?_
  refine x_SN2 (pc := 18) mX1_109 (c_X7_at_ hP.2.2.2.2.2.2.2.2.2.2.1.2 (by decide)) cx (dA ddX1_pick (i := 10) rfl) (kJ ?_)
  rw [wk_get hs n125]
  refine x_lstore (pc := 21) cx (dA ddX1_pick (i := 11) rfl) (by decide) rfl ?_
  refine x_iconst (pc := 23) (v := nI 0) cx (dA ddX1_pick (i := 12) rfl) (by decide) ?_
  refine x_istore (pc := 24) cx (dA ddX1_pick (i := 13) rfl) (by decide) rfl ?_
  have L26 : ∀ c, c ≤ dig s 2 + 1 → Wm Z X 15 G (wkJ V p N f) 0 0 (rQ Z X 0 0 (pI (nI (pickP N box f must s)) G (wkJ V p N f))) 26 [(0, some (.ref p)), (1, some (.int (nI s))), (2, some (.long (lN box))), (4, some (.int (b2i (must = true)))), (5, some (.int (nI (N 2)))), (6, some (.int (nI (pkC N box f must s c).1))), (7, some (.long (lN (pkC N box f must s c).2))), (9, some (.int (nI c)))] [] := by
    refine lpU (dig s 2 + 1) (fun c hc ih => ?_)
    refine x_iload (pc := 26) cx (dA ddX1_pick (i := 14) rfl) rfl ?_
    refine x_iload_n (pc := 28) cx (dA ddX1_pick (i := 15) rfl) rfl ?_
    refine x_iconst (pc := 29) (v := nI 2) cx (dA ddX1_pick (i := 16) rfl) (by decide) ?_
    refine x_SN2 (pc := 30) mX1_170 (c_X7_standing (by omega) (by omega)) cx (dA ddX1_pick (i := 17) rfl) (kI ?_)
    refine x_icmp_gt (pc := 33) (tgt := 155) cx (dA ddX1_pick (i := 18) rfl) (by decide) (fun c33 => ?_) (fun c33 => ?_)
    · have c33 := cltT (by omega) (by omega) c33
      have ec : c = dig s 2 + 1 := by omega
      subst ec
      refine x_iload (pc := 155) cx (dA ddX1_pick (i := 78) rfl) rfl ?_
      refine x_ireturn (pc := 157) cx (dA ddX1_pick (i := 79) rfl) (by first | exact Nat.le_of_ble_eq_true rfl | omega) (by first | exact Nat.le_of_ble_eq_true rfl | omega) ?_
      exact rI rfl
    · have c33 := cltF (by omega) (by omega) c33
      have kc := pkC_ok (N := N) (must := must) s125 hf hb c hc
      have c33 : c ≤ dig s 2 := by omega
      refine x_iconst (pc := 36) (v := nI 0) cx (dA ddX1_pick (i := 19) rfl) (by decide) ?_
      refine x_istore (pc := 37) cx (dA ddX1_pick (i := 20) rfl) (by decide) rfl ?_
      have L39 : ∀ b, b ≤ dig s 1 + 1 → Wm Z X 15 G (wkJ V p N f) 0 0 (rQ Z X 0 0 (pI (nI (pickP N box f must s)) G (wkJ V p N f))) 39 [(0, some (.ref p)), (1, some (.int (nI s))), (2, some (.long (lN box))), (4, some (.int (b2i (must = true)))), (5, some (.int (nI (N 2)))), (6, some (.int (nI (pkB N box f must s c (pkC N box f must s c) b).1))), (7, some (.long (lN (pkB N box f must s c (pkC N box f must s c) b).2))), (9, some (.int (nI c))), (10, some (.int (nI b)))] [] := by
        refine lpU (dig s 1 + 1) (fun b hb2 ih2 => ?_)
        refine x_iload (pc := 39) cx (dA ddX1_pick (i := 21) rfl) rfl ?_
        refine x_iload_n (pc := 41) cx (dA ddX1_pick (i := 22) rfl) rfl ?_
        refine x_iconst (pc := 42) (v := nI 1) cx (dA ddX1_pick (i := 23) rfl) (by decide) ?_
        refine x_SN2 (pc := 43) mX1_170 (c_X7_standing (by omega) (by omega)) cx (dA ddX1_pick (i := 24) rfl) (kI ?_)
        refine x_icmp_gt (pc := 46) (tgt := 149) cx (dA ddX1_pick (i := 25) rfl) (by decide) (fun c46 => ?_) (fun c46 => ?_)
        · have c46 := cltT (by omega) (by omega) c46
          have eb : b = dig s 1 + 1 := by omega
          subst eb
          refine x_iinc (pc := 149) cx (dA ddX1_pick (i := 76) rfl) rfl (iinc1 _) (by decide) rfl ?_
          refine x_goto (pc := 152) (tgt := 26) cx (dA ddX1_pick (i := 77) rfl) (by decide) ?_
          exact x_enter (ih (by omega)) ⟨.inr rfl, .inr rfl, .inr rfl, .inr rfl, .inr rfl, .inr rfl, .inr rfl, .inr rfl, trivial⟩
        · have c46 := cltF (by omega) (by omega) c46
          have kb := pkB_ok (N := N) (must := must) (x := (pkC N box f must s c)) s125 hf hb c33 kc b hb2
          have c46 : b ≤ dig s 1 := by omega
          refine x_iconst (pc := 49) (v := nI 0) cx (dA ddX1_pick (i := 26) rfl) (by decide) ?_
          refine x_istore (pc := 50) cx (dA ddX1_pick (i := 27) rfl) (by decide) rfl ?_
          have L52 : ∀ a, a ≤ dig s 0 + 1 → Wm Z X 15 G (wkJ V p N f) 0 0 (rQ Z X 0 0 (pI (nI (pickP N box f must s)) G (wkJ V p N f))) 52 [(0, some (.ref p)), (1, some (.int (nI s))), (2, some (.long (lN box))), (4, some (.int (b2i (must = true)))), (5, some (.int (nI (N 2)))), (6, some (.int (nI (pkA N box f must s b c (pkB N box f must s c (pkC N box f must s c) b) a).1))), (7, some (.long (lN (pkA N box f must s b c (pkB N box f must s c (pkC N box f must s c) b) a).2))), (9, some (.int (nI c))), (10, some (.int (nI b))), (11, some (.int (nI a)))] [] := by
            refine lpU (dig s 0 + 1) (fun a ha ih3 => ?_)
            refine x_iload (pc := 52) cx (dA ddX1_pick (i := 28) rfl) rfl ?_
            refine x_iload_n (pc := 54) cx (dA ddX1_pick (i := 29) rfl) rfl ?_
            refine x_iconst (pc := 55) (v := nI 0) cx (dA ddX1_pick (i := 30) rfl) (by decide) ?_
            refine x_SN2 (pc := 56) mX1_170 (c_X7_standing (by omega) (by omega)) cx (dA ddX1_pick (i := 31) rfl) (kI ?_)
            refine x_icmp_gt (pc := 59) (tgt := 143) cx (dA ddX1_pick (i := 32) rfl) (by decide) (fun c59 => ?_) (fun c59 => ?_)
            · have c59 := cltT (by omega) (by omega) c59
              have ea : a = dig s 0 + 1 := by omega
              subst ea
              refine x_iinc (pc := 143) cx (dA ddX1_pick (i := 74) rfl) rfl (iinc1 _) (by decide) rfl ?_
              refine x_goto (pc := 146) (tgt := 39) cx (dA ddX1_pick (i := 75) rfl) (by decide) ?_
              exact x_enter (ih2 (by omega)) ⟨.inr rfl, .inr rfl, .inr rfl, .inr rfl, .inr rfl, .inr rfl, .inr rfl, .inr rfl, .inr rfl, trivial⟩
            · have c59 := cltF (by omega) (by omega) c59
              have ls : a + 5 * b + 25 * c ≤ s := by omega
              have ka := pkA_ok (N := N) (must := must) (b := b) (c := c) (x := (pkB N box f must s c (pkC N box f must s c) b)) hf hb kb a (fun a2 h2 => by omega)
              have e9 : pkA N box f must s b c (pkB N box f must s c (pkC N box f must s c) b) (a + 1) = pkS N box f must s (a + 5 * b + 25 * c) (pkA N box f must s b c (pkB N box f must s c (pkC N box f must s c) b) a) := rfl
              have ka2 := ka.2
              have ka1 := ka.1
              have rl := sumP_lt hB (s := a + 5 * b + 25 * c) (w := 0) (by omega)
              have r2 := hB.2 2 (by omega)
              have fl := hf (s - (a + 5 * b + 25 * c)) (Nat.sub_le _ _)
              refine x_iload (pc := 62) cx (dA ddX1_pick (i := 33) rfl) rfl ?_
              refine x_iconst (pc := 64) (v := nI 5) cx (dA ddX1_pick (i := 34) rfl) (by decide) ?_
              refine x_iload (pc := 65) cx (dA ddX1_pick (i := 35) rfl) rfl ?_
              refine x_imul (pc := 67) cx (dA ddX1_pick (i := 36) rfl) ?_
              refine x_iadd (pc := 68) cx (dA ddX1_pick (i := 37) rfl) ?_
              refine x_bipush (pc := 69) (v := nI 25) cx (dA ddX1_pick (i := 38) rfl) (by decide) ?_
              refine x_iload (pc := 71) cx (dA ddX1_pick (i := 39) rfl) rfl ?_
              refine x_imul (pc := 73) cx (dA ddX1_pick (i := 40) rfl) ?_
              refine x_iadd (pc := 74) cx (dA ddX1_pick (i := 41) rfl) ?_
              rw [nI_cmul, nI_cmul, nI_add, nI_add]
              refine x_istore (pc := 75) cx (dA ddX1_pick (i := 42) rfl) (by decide) rfl ?_
              refine x_iload (pc := 77) cx (dA ddX1_pick (i := 43) rfl) rfl ?_
              refine x_if_le (pc := 79) (tgt := 137) cx (dA ddX1_pick (i := 44) rfl) (by decide) (fun c79 => ?_) (fun c79 => ?_)
              · have c79 := cleT (b := 0) (by omega) (by omega) c79
                have e8 : pkS N box f must s (a + 5 * b + 25 * c) (pkA N box f must s b c (pkB N box f must s c (pkC N box f must s c) b) a) = (pkA N box f must s b c (pkB N box f must s c (pkC N box f must s c) b) a) := if_neg (fun q => absurd q.1 (by omega))
                refine x_iinc (pc := 137) cx (dA ddX1_pick (i := 72) rfl) rfl (iinc1 _) (by decide) rfl ?_
                refine x_goto (pc := 140) (tgt := 52) cx (dA ddX1_pick (i := 73) rfl) (by decide) ?_
                have L := ih3 (by omega)
                rw [e9, e8] at L
                exact x_enter L ⟨.inr rfl, .inr rfl, .inr rfl, .inr rfl, .inr rfl, .inr rfl, .inr rfl, .inr rfl, .inr rfl, .inr rfl, trivial⟩
              · have c79 := cleF (b := 0) (by omega) (by omega) c79
                refine x_aload_n (pc := 82) cx (dA ddX1_pick (i := 45) rfl) rfl ?_
                refine gX1_18 (pc := 83) (rfA hP.2.2.2.1.1) cx (dA ddX1_pick (i := 46) rfl) h0 ?_
                refine x_iload (pc := 86) cx (dA ddX1_pick (i := 47) rfl) rfl ?_
                refine x_SN2 (pc := 88) mX1_98 (c_X7_at hP.2.2.2.1.2 (by decide)) cx (dA ddX1_pick (i := 48) rfl) (kI ?_)
                rw [atI_in (by omega) (by decide), show (wkJ V p N f).2.2.1 (p + 3) (a + 5 * b + 25 * c) = nI (sumP N (a + 5 * b + 25 * c) 0) from hH.2.2.2.2.2.1 _ (by omega)]
                refine x_iload (pc := 91) cx (dA ddX1_pick (i := 49) rfl) rfl ?_
                refine x_icmp_gt (pc := 93) (tgt := 137) cx (dA ddX1_pick (i := 50) rfl) (by decide) (fun c93 => ?_) (fun c93 => ?_)
                · have c93 := cltT (by omega) (by omega) c93
                  have e8 : pkS N box f must s (a + 5 * b + 25 * c) (pkA N box f must s b c (pkB N box f must s c (pkC N box f must s c) b) a) = (pkA N box f must s b c (pkB N box f must s c (pkC N box f must s c) b) a) := if_neg (fun q => absurd q.2.1 (by omega))
                  refine x_iinc (pc := 137) cx (dA ddX1_pick (i := 72) rfl) rfl (iinc1 _) (by decide) rfl ?_
                  refine x_goto (pc := 140) (tgt := 52) cx (dA ddX1_pick (i := 73) rfl) (by decide) ?_
                  have L := ih3 (by omega)
                  rw [e9, e8] at L
                  exact x_enter L ⟨.inr rfl, .inr rfl, .inr rfl, .inr rfl, .inr rfl, .inr rfl, .inr rfl, .inr rfl, .inr rfl, .inr rfl, trivial⟩
                · have c93 := cltF (by omega) (by omega) c93
                  refine x_aload_n (pc := 96) cx (dA ddX1_pick (i := 51) rfl) rfl ?_
                  refine gX1_41 (pc := 97) (rfA hP.2.2.2.2.2.2.2.2.2.2.1.1) cx (dA ddX1_pick (i := 52) rfl) h0 ?_
                  refine x_iload_n (pc := 100) cx (dA ddX1_pick (i := 53) rfl) rfl ?_
                  refine x_iload (pc := 101) cx (dA ddX1_pick (i := 54) rfl) rfl ?_
                  refine x_isub (pc := 103) cx (dA ddX1_pick (i := 55) rfl) ?_
                  rw [pk_sub ls]
                  refine x_SN2 (pc := 104) mX1_109 (c_X7_at_ hP.2.2.2.2.2.2.2.2.2.2.1.2 (by decide)) cx (dA ddX1_pick (i := 56) rfl) (kJ ?_)
                  rw [wk_get (by omega) n125]
                  refine x_lload_n (pc := 107) cx (dA ddX1_pick (i := 57) rfl) rfl ?_
                  refine x_ladd (pc := 108) cx (dA ddX1_pick (i := 58) rfl) ?_
                  rw [lN_add]
                  refine x_lstore (pc := 109) cx (dA ddX1_pick (i := 59) rfl) (by decide) rfl ?_
                  refine x_lload (pc := 111) cx (dA ddX1_pick (i := 60) rfl) rfl ?_
                  refine x_lload (pc := 113) cx (dA ddX1_pick (i := 61) rfl) rfl ?_
                  refine x_lc_lt (pc := 115) (tgt := 129) cx (dA ddX1_pick (i := 62) rfl) (dA ddX1_pick (i := 63) rfl) (by decide) (fun c115 => ?_) (fun c115 => ?_)
                  · have c115 := (pk_lLT (by omega) ka2).mp c115
                    have e8 : pkS N box f must s (a + 5 * b + 25 * c) (pkA N box f must s b c (pkB N box f must s c (pkC N box f must s c) b) a) = (a + 5 * b + 25 * c, f (s - (a + 5 * b + 25 * c)) + box) := if_pos ⟨c79, c93, Or.inl c115⟩
                    refine x_iload (pc := 129) cx (dA ddX1_pick (i := 68) rfl) rfl ?_
                    refine x_istore (pc := 131) cx (dA ddX1_pick (i := 69) rfl) (by decide) rfl ?_
                    refine x_lload (pc := 133) cx (dA ddX1_pick (i := 70) rfl) rfl ?_
                    refine x_lstore (pc := 135) cx (dA ddX1_pick (i := 71) rfl) (by decide) rfl ?_
                    refine x_iinc (pc := 137) cx (dA ddX1_pick (i := 72) rfl) rfl (iinc1 _) (by decide) rfl ?_
                    refine x_goto (pc := 140) (tgt := 52) cx (dA ddX1_pick (i := 73) rfl) (by decide) ?_
                    have L := ih3 (by omega)
                    rw [e9, e8] at L
                    exact x_enter L ⟨.inr rfl, .inr rfl, .inr rfl, .inr rfl, .inr rfl, .inr rfl, .inr rfl, .inr rfl, .inr rfl, .inr rfl, trivial⟩
                  · have c115 : ¬ _ < _ := fun q => c115 ((pk_lLT (by omega) ka2).mpr q)
                    refine x_iload (pc := 119) cx (dA ddX1_pick (i := 64) rfl) rfl ?_
                    refine x_if_eq (pc := 121) (tgt := 137) cx (dA ddX1_pick (i := 65) rfl) (by decide) (fun c121 => ?_) (fun c121 => ?_)
                    · have c121 := b2i_eq c121
                      have e8 : pkS N box f must s (a + 5 * b + 25 * c) (pkA N box f must s b c (pkB N box f must s c (pkC N box f must s c) b) a) = (pkA N box f must s b c (pkB N box f must s c (pkC N box f must s c) b) a) := if_neg (fun q => q.2.2.elim c115 (fun q => c121 q.1))
                      refine x_iinc (pc := 137) cx (dA ddX1_pick (i := 72) rfl) rfl (iinc1 _) (by decide) rfl ?_
                      refine x_goto (pc := 140) (tgt := 52) cx (dA ddX1_pick (i := 73) rfl) (by decide) ?_
                      have L := ih3 (by omega)
                      rw [e9, e8] at L
                      exact x_enter L ⟨.inr rfl, .inr rfl, .inr rfl, .inr rfl, .inr rfl, .inr rfl, .inr rfl, .inr rfl, .inr rfl, .inr rfl, trivial⟩
                    · have c121 := b2i_ne c121
                      refine x_iload (pc := 124) cx (dA ddX1_pick (i := 66) rfl) rfl ?_
                      refine x_if_ne (pc := 126) (tgt := 137) cx (dA ddX1_pick (i := 67) rfl) (by decide) (fun c126 => ?_) (fun c126 => ?_)
                      · have e8 : pkS N box f must s (a + 5 * b + 25 * c) (pkA N box f must s b c (pkB N box f must s c (pkC N box f must s c) b) a) = (pkA N box f must s b c (pkB N box f must s c (pkC N box f must s c) b) a) := if_neg (fun q => q.2.2.elim c115 (fun q => c126 (by rw [q.2]; rfl)))
                        refine x_iinc (pc := 137) cx (dA ddX1_pick (i := 72) rfl) rfl (iinc1 _) (by decide) rfl ?_
                        refine x_goto (pc := 140) (tgt := 52) cx (dA ddX1_pick (i := 73) rfl) (by decide) ?_
                        have L := ih3 (by omega)
                        rw [e9, e8] at L
                        exact x_enter L ⟨.inr rfl, .inr rfl, .inr rfl, .inr rfl, .inr rfl, .inr rfl, .inr rfl, .inr rfl, .inr rfl, .inr rfl, trivial⟩
                      · have c126 : (pkA N box f must s b c (pkB N box f must s c (pkC N box f must s c) b) a).1 = 0 := nI_inj (by omega) (by omega) c126
                        have e8 : pkS N box f must s (a + 5 * b + 25 * c) (pkA N box f must s b c (pkB N box f must s c (pkC N box f must s c) b) a) = (a + 5 * b + 25 * c, f (s - (a + 5 * b + 25 * c)) + box) := if_pos ⟨c79, c93, Or.inr ⟨c121, c126⟩⟩
                        refine x_iload (pc := 129) cx (dA ddX1_pick (i := 68) rfl) rfl ?_
                        refine x_istore (pc := 131) cx (dA ddX1_pick (i := 69) rfl) (by decide) rfl ?_
                        refine x_lload (pc := 133) cx (dA ddX1_pick (i := 70) rfl) rfl ?_
                        refine x_lstore (pc := 135) cx (dA ddX1_pick (i := 71) rfl) (by decide) rfl ?_
                        refine x_iinc (pc := 137) cx (dA ddX1_pick (i := 72) rfl) rfl (iinc1 _) (by decide) rfl ?_
                        refine x_goto (pc := 140) (tgt := 52) cx (dA ddX1_pick (i := 73) rfl) (by decide) ?_
                        have L := ih3 (by omega)
                        rw [e9, e8] at L
                        exact x_enter L ⟨.inr rfl, .inr rfl, .inr rfl, .inr rfl, .inr rfl, .inr rfl, .inr rfl, .inr rfl, .inr rfl, .inr rfl, trivial⟩
          exact x_enter (L52 0 (Nat.zero_le _)) ⟨.inr rfl, .inr rfl, .inr rfl, .inr rfl, .inr rfl, .inr rfl, .inr rfl, .inr rfl, .inr rfl, .inr rfl, trivial⟩
      exact x_enter (L39 0 (Nat.zero_le _)) ⟨.inr rfl, .inr rfl, .inr rfl, .inr rfl, .inr rfl, .inr rfl, .inr rfl, .inr rfl, .inr rfl, trivial⟩
  exact x_enter (L26 0 (Nat.zero_le _)) ⟨.inr rfl, .inr rfl, .inr rfl, .inr rfl, .inr rfl, .inr rfl, .inr rfl, .inr rfl, trivial⟩
theorem c_X1_goBackBest {l : Launch} {Z : zP} {G : zG} {V : zV} {p : Nat} (hP : PlanAt Z G p) {N : Nat → Nat} (hH : PlanH V p N) {f : Nat → Nat} {box d : Nat} (hd : d ≤ 6) (hf : ∀ t, t < 5 ^ N 4 → f t < 2 ^ 62) (hb : box < 2 ^ 62) : CT l Z yX1_goBackBest cX1_goBackBest 6 none 2 0 0 [.ref p, .int (nI d), .long (lN box)] G (wkJ V p N f) (pV G (wkJ (wAI V (p + 7) (d * 125) (d * 125 + 5 ^ N 4) (fun j => nI (pickP N box f false (j - d * 125)))) p N (fun s => mixP N box f s (pickP N box f false s)))) := by
  refine CT.of (by decide +kernel) (Nat.le_of_ble_eq_true rfl) (fun X hX cx => ?_)
  subst hX
  show Wm Z X 6 G (wkJ V p N f) 0 0 _ 0 [(0, some (.ref p)), (1, some (.int (nI d))), (2, some (.long (lN box)))] []
  have h0 := hP.1
  have hh := hP.2.2.1.1
  have hN := hH.1
  have hB := hN.1
  have n4 := hB.1
  have hV := hH.2.1
  have n125 := st125 n4
  have eD := hH.2.2.1
  have eS := hH.2.2.2.1
  have eN := hH.2.2.2.2.1
  refine x_aload_n (pc := 0) cx (dA ddX1_goBackBest (i := 0) rfl) rfl ?_
  refine gX1_76 (pc := 1) (congrArg Value.int eN) cx (dA ddX1_goBackBest (i := 1) rfl) h0 ?_
  refine x_iconst (pc := 4) (v := nI 1) cx (dA ddX1_goBackBest (i := 2) rfl) (by decide) ?_
  refine x_isub (pc := 5) cx (dA ddX1_goBackBest (i := 3) rfl) ?_
  have n1 : 1 ≤ 5 ^ N 4 := Nat.pow_pos (by decide)
  rw [pk_sub n1]
  refine x_istore (pc := 6) cx (dA ddX1_goBackBest (i := 4) rfl) (by decide) rfl ?_
  have L8 : ∀ c : Nat, ∀ v : Int32, v.toInt = (c : Int) - 1 → c ≤ 5 ^ N 4 → Wm Z X 6 G (wkJ (wAI V (p + 7) (d * 125 + c) (d * 125 + 5 ^ N 4) (fun j => nI (pickP N box f false (j - d * 125)))) p N (dnP (c) (fun s => mixP N box f s (pickP N box f false s)) f)) 0 0 (rQ Z X 0 0 (pV G (wkJ (wAI V (p + 7) (d * 125) (d * 125 + 5 ^ N 4) (fun j => nI (pickP N box f false (j - d * 125)))) p N (fun s => mixP N box f s (pickP N box f false s))))) 8 [(0, some (.ref p)), (1, some (.int (nI d))), (2, some (.long (lN box))), (4, some (.int v))] [] := by
    refine lpD (fun c ih => ?_)
    intro v hv hc
    refine x_iload (pc := 8) cx (dA ddX1_goBackBest (i := 5) rfl) rfl ?_
    refine x_if_lt (pc := 10) (tgt := 53) cx (dA ddX1_goBackBest (i := 6) rfl) (by decide) (fun c10 => ?_) (fun c10 => ?_)
    · have ec : c = 0 := by rw [i32_lt, hv, toI_0] at c10; omega
      subst ec
      rw [dnP_0, Nat.add_zero]
      refine x_return (pc := 53) cx (dA ddX1_goBackBest (i := 27) rfl) (by first | exact Nat.le_of_ble_eq_true rfl | omega) (by first | exact Nat.le_of_ble_eq_true rfl | omega) ?_
      exact ⟨rfl, rfl, rfl⟩
    · obtain ⟨s, rfl⟩ : ∃ s, c = s + 1 := ⟨c - 1, by rw [i32_lt, hv, toI_0] at c10; omega⟩
      have ev : v = nI s := by apply Int32.toInt_inj.mp; rw [hv, nI_toInt (by omega)]; omega
      subst ev
      have dt : ∀ t, t ≤ s → dnP (s + 1) (fun s => mixP N box f s (pickP N box f false s)) f t = f t := fun t ht => dnP_at (by omega)
      have hf2 : ∀ t, t ≤ s → f t < 2 ^ 62 := fun t ht => hf t (by omega)
      refine x_aload_n (pc := 13) cx (dA ddX1_goBackBest (i := 7) rfl) rfl ?_
      refine x_iload (pc := 14) cx (dA ddX1_goBackBest (i := 8) rfl) rfl ?_
      refine x_lload_n (pc := 16) cx (dA ddX1_goBackBest (i := 9) rfl) rfl ?_
      refine x_iconst (pc := 17) (v := nI 0) cx (dA ddX1_goBackBest (i := 10) rfl) (by decide) ?_
      refine x_V3 (pc := 18) mX1_173 h0 (c_X1_pick (V := wAI V (p + 7) (d * 125 + (s + 1)) (d * 125 + 5 ^ N 4) (fun j => nI (pickP N box f false (j - d * 125)))) (must := false) hP hH.wAI hc (fun t ht => by rw [dt t ht]; exact hf t (by omega)) hb) cx (dA ddX1_goBackBest (i := 11) rfl) (kI ?_)
      rw [pickP_congr dt]
      refine x_istore (pc := 21) cx (dA ddX1_goBackBest (i := 12) rfl) (by decide) rfl ?_
      refine x_aload_n (pc := 23) cx (dA ddX1_goBackBest (i := 13) rfl) rfl ?_
      refine gX1_31 (pc := 24) (rfA hP.2.2.2.2.2.2.2.1.1) cx (dA ddX1_goBackBest (i := 14) rfl) h0 ?_
      refine x_iload_n (pc := 27) cx (dA ddX1_goBackBest (i := 15) rfl) rfl ?_
      refine x_iload (pc := 28) cx (dA ddX1_goBackBest (i := 16) rfl) rfl ?_
      refine x_S2 (pc := 30) mX1_106 c_X1_placeOf cx (dA ddX1_goBackBest (i := 17) rfl) (kI ?_)
      refine x_iload (pc := 33) cx (dA ddX1_goBackBest (i := 18) rfl) rfl ?_
      refine x_SN3 (pc := 35) mX1_82 (c_X7_put hP.2.2.2.2.2.2.2.1.2 (by omega) (by decide)) cx (dA ddX1_goBackBest (i := 19) rfl) (kV ?_)
      rw [show sAI (wkJ (wAI V (p + 7) (d * 125 + (s + 1)) (d * 125 + 5 ^ N 4) (fun j => nI (pickP N box f false (j - d * 125)))) p N (dnP (s + 1) (fun s => mixP N box f s (pickP N box f false s)) f)) (p + 7) (d * 125 + s) (nI (pickP N box f false s)) = wkJ (wAI V (p + 7) (d * 125 + s) (d * 125 + 5 ^ N 4) (fun j => nI (pickP N box f false (j - d * 125)))) p N (dnP (s + 1) (fun s => mixP N box f s (pickP N box f false s)) f) from congrArg (fun W => wkJ W p N (dnP (s + 1) (fun s => mixP N box f s (pickP N box f false s)) f)) (wAI_d (c := d * 125 + s) (by omega) (by rw [Nat.add_sub_cancel_left]))]
      refine x_aload_n (pc := 38) cx (dA ddX1_goBackBest (i := 20) rfl) rfl ?_
      refine x_iload (pc := 39) cx (dA ddX1_goBackBest (i := 21) rfl) rfl ?_
      refine x_iload (pc := 41) cx (dA ddX1_goBackBest (i := 22) rfl) rfl ?_
      refine x_lload_n (pc := 43) cx (dA ddX1_goBackBest (i := 23) rfl) rfl ?_
      refine x_V3 (pc := 44) mX1_177 h0 (c_X1_mix hP hH.wAI hc (pkP_le (by omega) hf2 hb)) cx (dA ddX1_goBackBest (i := 24) rfl) (kV ?_)
      rw [mixP_congr dt, dnP_s (g := (fun s => mixP N box f s (pickP N box f false s)))]
      refine x_iinc (pc := 47) cx (dA ddX1_goBackBest (i := 25) rfl) rfl rfl (by decide) rfl ?_
      refine x_goto (pc := 50) (tgt := 8) cx (dA ddX1_goBackBest (i := 26) rfl) (by decide) ?_
      exact x_enter (ih s rfl _ (by rw [nI_dec _ (by omega)]) (by omega)) ⟨.inr rfl, .inr rfl, .inr rfl, .inr rfl, trivial⟩
  have L := L8 (5 ^ N 4) (nI (5 ^ N 4 - 1)) (by rw [nI_toInt (by omega)]; omega) (Nat.le_refl _)
  rw [wk_dnN, wAI_0] at L
  exact x_enter L ⟨.inr rfl, .inr rfl, .inr rfl, .inr rfl, trivial⟩
theorem c_X1_goBackPromised {l : Launch} {Z : zP} {G : zG} {V : zV} {p : Nat} (hP : PlanAt Z G p) {N : Nat → Nat} (hH : PlanH V p N) {f : Nat → Nat} {box : Nat} {must : Bool} (hf : ∀ t, t < 5 ^ N 4 → f t < 2 ^ 62) (hb : box < 2 ^ 62) : CT l Z yX1_goBackPromised cX1_goBackPromised 5 none 2 0 0 [.ref p, .long (lN box), .int (b2i (must = true))] G (wkJ V p N f) (pV G (wkJ V p N (fun s => mixP N box f s (pickP N box f must s)))) := by
  refine CT.of (by decide +kernel) (Nat.le_of_ble_eq_true rfl) (fun X hX cx => ?_)
  subst hX
  show Wm Z X 5 G (wkJ V p N f) 0 0 _ 0 [(0, some (.ref p)), (1, some (.long (lN box))), (3, some (.int (b2i (must = true))))] []
  have h0 := hP.1
  have hh := hP.2.2.1.1
  have hN := hH.1
  have hB := hN.1
  have n4 := hB.1
  have hV := hH.2.1
  have n125 := st125 n4
  have eD := hH.2.2.1
  have eS := hH.2.2.2.1
  have eN := hH.2.2.2.2.1
  refine x_aload_n (pc := 0) cx (dA ddX1_goBackPromised (i := 0) rfl) rfl ?_
  refine gX1_76 (pc := 1) (congrArg Value.int eN) cx (dA ddX1_goBackPromised (i := 1) rfl) h0 ?_
  refine x_iconst (pc := 4) (v := nI 1) cx (dA ddX1_goBackPromised (i := 2) rfl) (by decide) ?_
  refine x_isub (pc := 5) cx (dA ddX1_goBackPromised (i := 3) rfl) ?_
  have n1 : 1 ≤ 5 ^ N 4 := Nat.pow_pos (by decide)
  rw [pk_sub n1]
  refine x_istore (pc := 6) cx (dA ddX1_goBackPromised (i := 4) rfl) (by decide) rfl ?_
  have L8 : ∀ c : Nat, ∀ v : Int32, v.toInt = (c : Int) - 1 → c ≤ 5 ^ N 4 → Wm Z X 5 G (wkJ V p N (dnP (c) (fun s => mixP N box f s (pickP N box f must s)) f)) 0 0 (rQ Z X 0 0 (pV G (wkJ V p N (fun s => mixP N box f s (pickP N box f must s))))) 8 [(0, some (.ref p)), (1, some (.long (lN box))), (3, some (.int (b2i (must = true)))), (4, some (.int v))] [] := by
    refine lpD (fun c ih => ?_)
    intro v hv hc
    refine x_iload (pc := 8) cx (dA ddX1_goBackPromised (i := 5) rfl) rfl ?_
    refine x_if_lt (pc := 10) (tgt := 34) cx (dA ddX1_goBackPromised (i := 6) rfl) (by decide) (fun c10 => ?_) (fun c10 => ?_)
    · have ec : c = 0 := by rw [i32_lt, hv, toI_0] at c10; omega
      subst ec
      rw [dnP_0]
      refine x_return (pc := 34) cx (dA ddX1_goBackPromised (i := 18) rfl) (by first | exact Nat.le_of_ble_eq_true rfl | omega) (by first | exact Nat.le_of_ble_eq_true rfl | omega) ?_
      exact ⟨rfl, rfl, rfl⟩
    · obtain ⟨s, rfl⟩ : ∃ s, c = s + 1 := ⟨c - 1, by rw [i32_lt, hv, toI_0] at c10; omega⟩
      have ev : v = nI s := by apply Int32.toInt_inj.mp; rw [hv, nI_toInt (by omega)]; omega
      subst ev
      have dt : ∀ t, t ≤ s → dnP (s + 1) (fun s => mixP N box f s (pickP N box f must s)) f t = f t := fun t ht => dnP_at (by omega)
      have hf2 : ∀ t, t ≤ s → f t < 2 ^ 62 := fun t ht => hf t (by omega)
      refine x_aload_n (pc := 13) cx (dA ddX1_goBackPromised (i := 7) rfl) rfl ?_
      refine x_iload (pc := 14) cx (dA ddX1_goBackPromised (i := 8) rfl) rfl ?_
      refine x_aload_n (pc := 16) cx (dA ddX1_goBackPromised (i := 9) rfl) rfl ?_
      refine x_iload (pc := 17) cx (dA ddX1_goBackPromised (i := 10) rfl) rfl ?_
      refine x_lload_n (pc := 19) cx (dA ddX1_goBackPromised (i := 11) rfl) rfl ?_
      refine x_iload_n (pc := 20) cx (dA ddX1_goBackPromised (i := 12) rfl) rfl ?_
      refine x_V3 (pc := 21) mX1_173 h0 (c_X1_pick (V := V) (must := must) hP hH hc (fun t ht => by rw [dt t ht]; exact hf t (by omega)) hb) cx (dA ddX1_goBackPromised (i := 13) rfl) (kI ?_)
      rw [pickP_congr dt]
      refine x_lload_n (pc := 24) cx (dA ddX1_goBackPromised (i := 14) rfl) rfl ?_
      refine x_V3 (pc := 25) mX1_177 h0 (c_X1_mix hP hH hc (pkP_le (by omega) hf2 hb)) cx (dA ddX1_goBackPromised (i := 15) rfl) (kV ?_)
      rw [mixP_congr dt, dnP_s (g := (fun s => mixP N box f s (pickP N box f must s)))]
      refine x_iinc (pc := 28) cx (dA ddX1_goBackPromised (i := 16) rfl) rfl rfl (by decide) rfl ?_
      refine x_goto (pc := 31) (tgt := 8) cx (dA ddX1_goBackPromised (i := 17) rfl) (by decide) ?_
      exact x_enter (ih s rfl _ (by rw [nI_dec _ (by omega)]) (by omega)) ⟨.inr rfl, .inr rfl, .inr rfl, .inr rfl, trivial⟩
  have L := L8 (5 ^ N 4) (nI (5 ^ N 4 - 1)) (by rw [nI_toInt (by omega)]; omega) (Nat.le_refl _)
  rw [wk_dnN] at L
  exact x_enter L ⟨.inr rfl, .inr rfl, .inr rfl, .inr rfl, trivial⟩
