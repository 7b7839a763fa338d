theorem c_X7_standing {l : Launch} {Z : zP} {G : zG} {V : zV} {s k : Nat} (hs : s < 125) (hk : k < 3) : CT l Z yX7_standing cX7_standing 2 (some .int) 0 0 0 [.int (nI s), .int (nI k)] G V (pI (nI (dig s k)) G V) := by
  refine CT.of (by decide +kernel) (Nat.le_of_ble_eq_true rfl) (fun X hX cx => ?_)
  subst hX
  show Wm Z X 2 G V 0 0 _ 0 [(0, some (.int (nI s))), (1, some (.int (nI k)))] []
  refine x_iload_n (pc := 0) cx (dA ddX7_standing (i := 0) rfl) rfl ?_
  by_cases c1_0 : nI k = 0
  · refine x_tabIn (pc := 1) (v := 0) (tgt := 28) cx (dA ddX7_standing (i := 1) rfl) (by rw [c1_0]; decide) (by decide) (by decide) rfl (by decide) ?_
    have hk0 : k = 0 := nI_inj (by omega) (by omega) c1_0
    refine x_iload_n (pc := 28) cx (dA ddX7_standing (i := 2) rfl) rfl ?_
    refine x_iconst (pc := 29) (v := nI 5) cx (dA ddX7_standing (i := 3) rfl) (by decide) ?_
    refine x_irem (pc := 30) cx (by decide) (dA ddX7_standing (i := 4) rfl) ?_
    refine x_ireturn (pc := 31) cx (dA ddX7_standing (i := 5) rfl) (Nat.le_of_ble_eq_true rfl) (Nat.le_of_ble_eq_true rfl) ?_
    refine rI ?_
    rw [rem32 (by omega) (by omega) (by omega), hk0]
    unfold dig
    rw [Nat.pow_zero, Nat.div_one]
  by_cases c1_1 : nI k = 1
  · refine x_tabIn (pc := 1) (v := 1) (tgt := 32) cx (dA ddX7_standing (i := 1) rfl) (by rw [c1_1]; decide) (by decide) (by decide) rfl (by decide) ?_
    have hk0 : k = 1 := nI_inj (by omega) (by omega) c1_1
    refine x_iload_n (pc := 32) cx (dA ddX7_standing (i := 6) rfl) rfl ?_
    refine x_iconst (pc := 33) (v := nI 5) cx (dA ddX7_standing (i := 7) rfl) (by decide) ?_
    refine x_idiv (pc := 34) cx (by decide) (dA ddX7_standing (i := 8) rfl) ?_
    refine x_iconst (pc := 35) (v := nI 5) cx (dA ddX7_standing (i := 9) rfl) (by decide) ?_
    refine x_irem (pc := 36) cx (by decide) (dA ddX7_standing (i := 10) rfl) ?_
    refine x_ireturn (pc := 37) cx (dA ddX7_standing (i := 11) rfl) (Nat.le_of_ble_eq_true rfl) (Nat.le_of_ble_eq_true rfl) ?_
    refine rI ?_
    rw [div32 (by omega) (by omega) (by omega), rem32 (by omega) (by omega) (by omega), hk0]
    rfl
  by_cases c1_2 : nI k = 2
  · refine x_tabIn (pc := 1) (v := 2) (tgt := 38) cx (dA ddX7_standing (i := 1) rfl) (by rw [c1_2]; decide) (by decide) (by decide) rfl (by decide) ?_
    have hk0 : k = 2 := nI_inj (by omega) (by omega) c1_2
    refine x_iload_n (pc := 38) cx (dA ddX7_standing (i := 12) rfl) rfl ?_
    refine x_bipush (pc := 39) (v := nI 25) cx (dA ddX7_standing (i := 13) rfl) (by decide) ?_
    refine x_idiv (pc := 41) cx (by decide) (dA ddX7_standing (i := 14) rfl) ?_
    refine x_iconst (pc := 42) (v := nI 5) cx (dA ddX7_standing (i := 15) rfl) (by decide) ?_
    refine x_irem (pc := 43) cx (by decide) (dA ddX7_standing (i := 16) rfl) ?_
    refine x_ireturn (pc := 44) cx (dA ddX7_standing (i := 17) rfl) (Nat.le_of_ble_eq_true rfl) (Nat.le_of_ble_eq_true rfl) ?_
    refine rI ?_
    rw [div32 (by omega) (by omega) (by omega), rem32 (by omega) (by omega) (by omega), hk0]
    rfl
  refine x_tabOut (pc := 1) (tgt := 45) cx (dA ddX7_standing (i := 1) rfl) (by have t0 := lv_neT (a := 0) c1_0 (by decide); have t1 := lv_neT (a := 1) c1_1 (by decide); have t2 := lv_neT (a := 2) c1_2 (by decide); omega) (by decide) ?_
  exact absurd (show k = 0 ∨ k = 1 ∨ k = 2 by omega) (by rintro (h | h | h) <;> subst h <;> first | exact c1_0 rfl | exact c1_1 rfl | exact c1_2 rfl)
theorem c_X7_oneOf {l : Launch} {Z : zP} {G : zG} {V : zV} {k : Nat} (hk : k < 3) : CT l Z yX7_oneOf cX7_oneOf 1 (some .int) 0 0 0 [.int (nI k)] G V (pI (nI (5 ^ k)) G V) := by
  refine CT.of (by decide +kernel) (Nat.le_of_ble_eq_true rfl) (fun X hX cx => ?_)
  subst hX
  show Wm Z X 1 G V 0 0 _ 0 [(0, some (.int (nI k)))] []
  refine x_iload_n (pc := 0) cx (dA ddX7_oneOf (i := 0) rfl) rfl ?_
  by_cases c1_0 : nI k = 0
  · refine x_tabIn (pc := 1) (v := 0) (tgt := 28) cx (dA ddX7_oneOf (i := 1) rfl) (by rw [c1_0]; decide) (by decide) (by decide) rfl (by decide) ?_
    refine x_iconst (pc := 28) (v := nI 1) cx (dA ddX7_oneOf (i := 2) rfl) (by decide) ?_
    refine x_ireturn (pc := 29) cx (dA ddX7_oneOf (i := 3) rfl) (Nat.le_of_ble_eq_true rfl) (Nat.le_of_ble_eq_true rfl) ?_
    have hk0 : k = 0 := nI_inj (by omega) (by omega) c1_0
    subst hk0
    exact rI rfl
  by_cases c1_1 : nI k = 1
  · refine x_tabIn (pc := 1) (v := 1) (tgt := 30) cx (dA ddX7_oneOf (i := 1) rfl) (by rw [c1_1]; decide) (by decide) (by decide) rfl (by decide) ?_
    refine x_iconst (pc := 30) (v := nI 5) cx (dA ddX7_oneOf (i := 4) rfl) (by decide) ?_
    refine x_ireturn (pc := 31) cx (dA ddX7_oneOf (i := 5) rfl) (Nat.le_of_ble_eq_true rfl) (Nat.le_of_ble_eq_true rfl) ?_
    have hk0 : k = 1 := nI_inj (by omega) (by omega) c1_1
    subst hk0
    exact rI rfl
  by_cases c1_2 : nI k = 2
  · refine x_tabIn (pc := 1) (v := 2) (tgt := 32) cx (dA ddX7_oneOf (i := 1) rfl) (by rw [c1_2]; decide) (by decide) (by decide) rfl (by decide) ?_
    refine x_bipush (pc := 32) (v := nI 25) cx (dA ddX7_oneOf (i := 6) rfl) (by decide) ?_
    refine x_ireturn (pc := 34) cx (dA ddX7_oneOf (i := 7) rfl) (Nat.le_of_ble_eq_true rfl) (Nat.le_of_ble_eq_true rfl) ?_
    have hk0 : k = 2 := nI_inj (by omega) (by omega) c1_2
    subst hk0
    exact rI rfl
  refine x_tabOut (pc := 1) (tgt := 35) cx (dA ddX7_oneOf (i := 1) rfl) (by have t0 := lv_neT (a := 0) c1_0 (by decide); have t1 := lv_neT (a := 1) c1_1 (by decide); have t2 := lv_neT (a := 2) c1_2 (by decide); omega) (by decide) ?_
  exact absurd (show k = 0 ∨ k = 1 ∨ k = 2 by omega) (by rintro (h | h | h) <;> subst h <;> first | exact c1_0 rfl | exact c1_1 rfl | exact c1_2 rfl)
theorem c_X7_timesOf {l : Launch} {Z : zP} {G : zG} {V : zV} {m : Nat} (hm : m < 32) : CT l Z yX7_timesOf cX7_timesOf 1 (some .long) 0 0 0 [.int (nI m)] G V (pJ (lN (4 ^ m)) G V) := by
  refine CT.of (by decide +kernel) (Nat.le_of_ble_eq_true rfl) (fun X hX cx => ?_)
  subst hX
  show Wm Z X 1 G V 0 0 _ 0 [(0, some (.int (nI m)))] []
  refine x_lconst (pc := 0) (v := lN 1) cx (dA ddX7_timesOf (i := 0) rfl) rfl ?_
  refine x_iconst (pc := 1) (v := nI 2) cx (dA ddX7_timesOf (i := 1) rfl) (by decide) ?_
  refine x_iload_n (pc := 2) cx (dA ddX7_timesOf (i := 2) rfl) rfl ?_
  refine x_imul (pc := 3) cx (dA ddX7_timesOf (i := 3) rfl) ?_
  refine x_lshl (pc := 4) cx (dA ddX7_timesOf (i := 4) rfl) ?_
  refine x_lreturn (pc := 5) cx (dA ddX7_timesOf (i := 5) rfl) (Nat.le_of_ble_eq_true rfl) (Nat.le_of_ble_eq_true rfl) ?_
  refine rJ ?_
  rw [nI_cmul]
  exact shl4 ⟨m, hm⟩
theorem c_X7_scaleOf {l : Launch} {Z : zP} {G : zG} {V : zV} {a b : Nat} (hm : a * (1 + b) < 32) : CT l Z yX7_scaleOf cX7_scaleOf 2 (some .long) 1 0 0 [.int (nI a), .int (nI b)] G V (pJ (lN (4 ^ (a * (1 + b)))) G V) := by
  refine CT.of (by decide +kernel) (Nat.le_of_ble_eq_true rfl) (fun X hX cx => ?_)
  subst hX
  show Wm Z X 2 G V 0 0 _ 0 [(0, some (.int (nI a))), (1, some (.int (nI b)))] []
  refine x_iload_n (pc := 0) cx (dA ddX7_scaleOf (i := 0) rfl) rfl ?_
  refine x_iconst (pc := 1) (v := nI 1) cx (dA ddX7_scaleOf (i := 1) rfl) (by decide) ?_
  refine x_iload_n (pc := 2) cx (dA ddX7_scaleOf (i := 2) rfl) rfl ?_
  refine x_iadd (pc := 3) cx (dA ddX7_scaleOf (i := 3) rfl) ?_
  refine x_imul (pc := 4) cx (dA ddX7_scaleOf (i := 4) rfl) ?_
  rw [nI_add, nI_cmul]
  refine x_S1 (pc := 5) mX7_295 (c_X7_timesOf hm) cx (dA ddX7_scaleOf (i := 5) rfl) (kJ ?_)
  refine x_lreturn (pc := 8) cx (dA ddX7_scaleOf (i := 6) rfl) (Nat.le_of_ble_eq_true rfl) (Nat.le_of_ble_eq_true rfl) ?_
  exact rJ rfl
theorem c_X7_at {l : Launch} {Z : zP} {G : zG} {V : zV} {a m : Nat} {x : Int32} (ha : isA Z G a 1 m) (hm : m < 2 ^ 31) : CT l Z yX7_at cX7_at 2 (some .int) 0 0 0 [.ref a, .int x] G V (pI (atI V a m x) G V) := by
  refine CT.of (by decide +kernel) (Nat.le_of_ble_eq_true rfl) (fun X hX cx => ?_)
  subst hX
  show Wm Z X 2 G V 0 0 _ 0 [(0, some (.ref a)), (1, some (.int x))] []
  refine x_iload_n (pc := 0) cx (dA ddX7_at (i := 0) rfl) rfl ?_
  refine x_if_lt (pc := 1) (tgt := 16) cx (dA ddX7_at (i := 1) rfl) (by decide) (fun c1 => ?_) (fun c1 => ?_)
  · have hx := Or.inl (b := nI m ≤ x) c1
    refine x_iconst (pc := 16) (v := nI 0) cx (dA ddX7_at (i := 10) rfl) (by decide) ?_
    refine x_ireturn (pc := 17) cx (dA ddX7_at (i := 11) rfl) (Nat.le_of_ble_eq_true rfl) (Nat.le_of_ble_eq_true rfl) ?_
    first | exact rI (atI_in hj hm).symm | exact rI (atI_out hx).symm
  · refine x_iload_n (pc := 4) cx (dA ddX7_at (i := 2) rfl) rfl ?_
    refine x_aload_n (pc := 5) cx (dA ddX7_at (i := 3) rfl) rfl ?_
    refine x_alen (pc := 6) cx (dA ddX7_at (i := 4) rfl) ha (by decide) ?_
    refine x_icmp_ge (pc := 7) (tgt := 16) cx (dA ddX7_at (i := 5) rfl) (by decide) (fun c7 => ?_) (fun c7 => ?_)
    · have hx := Or.inr (a := x < 0) c7
      refine x_iconst (pc := 16) (v := nI 0) cx (dA ddX7_at (i := 10) rfl) (by decide) ?_
      refine x_ireturn (pc := 17) cx (dA ddX7_at (i := 11) rfl) (Nat.le_of_ble_eq_true rfl) (Nat.le_of_ble_eq_true rfl) ?_
      first | exact rI (atI_in hj hm).symm | exact rI (atI_out hx).symm
    · obtain ⟨j, hj, rfl⟩ := ix3 hm c1 c7
      refine x_aload_n (pc := 10) cx (dA ddX7_at (i := 6) rfl) rfl ?_
      refine x_iload_n (pc := 11) cx (dA ddX7_at (i := 7) rfl) rfl ?_
      refine x_iaload (pc := 12) cx (dA ddX7_at (i := 8) rfl) ha hj hm ?_
      refine x_goto (pc := 13) (tgt := 17) cx (dA ddX7_at (i := 9) rfl) (by decide) ?_
      refine x_ireturn (pc := 17) cx (dA ddX7_at (i := 11) rfl) (Nat.le_of_ble_eq_true rfl) (Nat.le_of_ble_eq_true rfl) ?_
      first | exact rI (atI_in hj hm).symm | exact rI (atI_out hx).symm
theorem c_X7_at_ {l : Launch} {Z : zP} {G : zG} {V : zV} {a m : Nat} {x : Int32} (ha : isA Z G a 2 m) (hm : m < 2 ^ 31) : CT l Z yX7_at_ cX7_at_ 2 (some .long) 0 0 0 [.ref a, .int x] G V (pJ (atL V a m x) G V) := by
  refine CT.of (by decide +kernel) (Nat.le_of_ble_eq_true rfl) (fun X hX cx => ?_)
  subst hX
  show Wm Z X 2 G V 0 0 _ 0 [(0, some (.ref a)), (1, some (.int x))] []
  refine x_iload_n (pc := 0) cx (dA ddX7_at_ (i := 0) rfl) rfl ?_
  refine x_if_lt (pc := 1) (tgt := 16) cx (dA ddX7_at_ (i := 1) rfl) (by decide) (fun c1 => ?_) (fun c1 => ?_)
  · have hx := Or.inl (b := nI m ≤ x) c1
    refine x_lconst (pc := 16) (v := lN 0) cx (dA ddX7_at_ (i := 10) rfl) rfl ?_
    refine x_lreturn (pc := 17) cx (dA ddX7_at_ (i := 11) rfl) (Nat.le_of_ble_eq_true rfl) (Nat.le_of_ble_eq_true rfl) ?_
    first | exact rJ (atL_in hj hm).symm | exact rJ (atL_out hx).symm
  · refine x_iload_n (pc := 4) cx (dA ddX7_at_ (i := 2) rfl) rfl ?_
    refine x_aload_n (pc := 5) cx (dA ddX7_at_ (i := 3) rfl) rfl ?_
    refine x_alen (pc := 6) cx (dA ddX7_at_ (i := 4) rfl) ha (by decide) ?_
    refine x_icmp_ge (pc := 7) (tgt := 16) cx (dA ddX7_at_ (i := 5) rfl) (by decide) (fun c7 => ?_) (fun c7 => ?_)
    · have hx := Or.inr (a := x < 0) c7
      refine x_lconst (pc := 16) (v := lN 0) cx (dA ddX7_at_ (i := 10) rfl) rfl ?_
      refine x_lreturn (pc := 17) cx (dA ddX7_at_ (i := 11) rfl) (Nat.le_of_ble_eq_true rfl) (Nat.le_of_ble_eq_true rfl) ?_
      first | exact rJ (atL_in hj hm).symm | exact rJ (atL_out hx).symm
    · obtain ⟨j, hj, rfl⟩ := ix3 hm c1 c7
      refine x_aload_n (pc := 10) cx (dA ddX7_at_ (i := 6) rfl) rfl ?_
      refine x_iload_n (pc := 11) cx (dA ddX7_at_ (i := 7) rfl) rfl ?_
      refine x_laload (pc := 12) cx (dA ddX7_at_ (i := 8) rfl) ha hj hm ?_
      refine x_goto (pc := 13) (tgt := 17) cx (dA ddX7_at_ (i := 9) rfl) (by decide) ?_
      refine x_lreturn (pc := 17) cx (dA ddX7_at_ (i := 11) rfl) (Nat.le_of_ble_eq_true rfl) (Nat.le_of_ble_eq_true rfl) ?_
      first | exact rJ (atL_in hj hm).symm | exact rJ (atL_out hx).symm
theorem c_X7_put {l : Launch} {Z : zP} {G : zG} {V : zV} {a m j : Nat} {x : Int32} (ha : isA Z G a 1 m) (hj : j < m) (hm : m < 2 ^ 31) : CT l Z yX7_put cX7_put 3 none 0 0 0 [.ref a, .int (nI j), .int x] G V (pV G (sAI V a j x)) := by
  refine CT.of (by decide +kernel) (Nat.le_of_ble_eq_true rfl) (fun X hX cx => ?_)
  subst hX
  show Wm Z X 3 G V 0 0 _ 0 [(0, some (.ref a)), (1, some (.int (nI j))), (2, some (.int x))] []
  refine x_iload_n (pc := 0) cx (dA ddX7_put (i := 0) rfl) rfl ?_
  refine x_if_lt (pc := 1) (tgt := 14) cx (dA ddX7_put (i := 1) rfl) (by decide) (fun c1 => absurd c1 (nI_pos (by omega))) (fun c1 => ?_)
  refine x_iload_n (pc := 4) cx (dA ddX7_put (i := 2) rfl) rfl ?_
  refine x_aload_n (pc := 5) cx (dA ddX7_put (i := 3) rfl) rfl ?_
  refine x_alen (pc := 6) cx (dA ddX7_put (i := 4) rfl) ha (by decide) ?_
  refine x_icmp_ge (pc := 7) (tgt := 14) cx (dA ddX7_put (i := 5) rfl) (by decide) (fun c7 => absurd c7 (nI_ge hj hm)) (fun c7 => ?_)
  refine x_aload_n (pc := 10) cx (dA ddX7_put (i := 6) rfl) rfl ?_
  refine x_iload_n (pc := 11) cx (dA ddX7_put (i := 7) rfl) rfl ?_
  refine x_iload_n (pc := 12) cx (dA ddX7_put (i := 8) rfl) rfl ?_
  refine x_iastore (pc := 13) cx (dA ddX7_put (i := 9) rfl) ha hj hm ?_
  refine x_return (pc := 14) cx (dA ddX7_put (i := 10) rfl) (Nat.le_of_ble_eq_true rfl) (Nat.le_of_ble_eq_true rfl) ?_
  exact ⟨rfl, rfl, rfl⟩
theorem c_X7_put_ {l : Launch} {Z : zP} {G : zG} {V : zV} {a m j : Nat} {x : Int64} (ha : isA Z G a 2 m) (hj : j < m) (hm : m < 2 ^ 31) : CT l Z yX7_put_ cX7_put_ 4 none 0 0 0 [.ref a, .int (nI j), .long x] G V (pV G (sAJ V a j x)) := by
  refine CT.of (by decide +kernel) (Nat.le_of_ble_eq_true rfl) (fun X hX cx => ?_)
  subst hX
  show Wm Z X 4 G V 0 0 _ 0 [(0, some (.ref a)), (1, some (.int (nI j))), (2, some (.long x))] []
  refine x_iload_n (pc := 0) cx (dA ddX7_put_ (i := 0) rfl) rfl ?_
  refine x_if_lt (pc := 1) (tgt := 14) cx (dA ddX7_put_ (i := 1) rfl) (by decide) (fun c1 => absurd c1 (nI_pos (by omega))) (fun c1 => ?_)
  refine x_iload_n (pc := 4) cx (dA ddX7_put_ (i := 2) rfl) rfl ?_
  refine x_aload_n (pc := 5) cx (dA ddX7_put_ (i := 3) rfl) rfl ?_
  refine x_alen (pc := 6) cx (dA ddX7_put_ (i := 4) rfl) ha (by decide) ?_
  refine x_icmp_ge (pc := 7) (tgt := 14) cx (dA ddX7_put_ (i := 5) rfl) (by decide) (fun c7 => absurd c7 (nI_ge hj hm)) (fun c7 => ?_)
  refine x_aload_n (pc := 10) cx (dA ddX7_put_ (i := 6) rfl) rfl ?_
  refine x_iload_n (pc := 11) cx (dA ddX7_put_ (i := 7) rfl) rfl ?_
  refine x_lload_n (pc := 12) cx (dA ddX7_put_ (i := 8) rfl) rfl ?_
  refine x_lastore (pc := 13) cx (dA ddX7_put_ (i := 9) rfl) ha hj hm ?_
  refine x_return (pc := 14) cx (dA ddX7_put_ (i := 10) rfl) (Nat.le_of_ble_eq_true rfl) (Nat.le_of_ble_eq_true rfl) ?_
  exact ⟨rfl, rfl, rfl⟩
theorem c_X7_isShelf {l : Launch} {Z : zP} {G : zG} {V : zV} {x : Int32} : CT l Z yX7_isShelf cX7_isShelf 1 (some .boolean) 0 0 0 [.int x] G V (pI (b2i (0 ≤ x.toInt ∧ x.toInt < 8)) G V) := by
  refine CT.of (by decide +kernel) (Nat.le_of_ble_eq_true rfl) (fun X hX cx => ?_)
  subst hX
  show Wm Z X 1 G V 0 0 _ 0 [(0, some (.int x))] []
  refine x_iload_n (pc := 0) cx (dA ddX7_isShelf (i := 0) rfl) rfl ?_
  refine x_if_lt (pc := 1) (tgt := 14) cx (dA ddX7_isShelf (i := 1) rfl) (by decide) (fun c1 => ?_) (fun c1 => ?_)
  · refine x_iconst (pc := 14) (v := nI 0) cx (dA ddX7_isShelf (i := 7) rfl) (by decide) ?_
    refine x_zreturn (pc := 15) cx (dA ddX7_isShelf (i := 8) rfl) (Nat.le_of_ble_eq_true rfl) (Nat.le_of_ble_eq_true rfl) rfl ?_
    refine rI ?_
    have e8 : (nI 8).toInt = 8 := rfl
    simp only [i32_lt, i32_le, toI_0] at c1
    try simp only [i32_lt, i32_le, toI_0, e8] at c7
    first | exact (b2i_t (by omega)).symm | exact (b2i_f (by omega)).symm
  · refine x_iload_n (pc := 4) cx (dA ddX7_isShelf (i := 2) rfl) rfl ?_
    refine x_bipush (pc := 5) (v := nI 8) cx (dA ddX7_isShelf (i := 3) rfl) (by decide) ?_
    refine x_icmp_ge (pc := 7) (tgt := 14) cx (dA ddX7_isShelf (i := 4) rfl) (by decide) (fun c7 => ?_) (fun c7 => ?_)
    · refine x_iconst (pc := 14) (v := nI 0) cx (dA ddX7_isShelf (i := 7) rfl) (by decide) ?_
      refine x_zreturn (pc := 15) cx (dA ddX7_isShelf (i := 8) rfl) (Nat.le_of_ble_eq_true rfl) (Nat.le_of_ble_eq_true rfl) rfl ?_
      refine rI ?_
      have e8 : (nI 8).toInt = 8 := rfl
      simp only [i32_lt, i32_le, toI_0] at c1
      try simp only [i32_lt, i32_le, toI_0, e8] at c7
      first | exact (b2i_t (by omega)).symm | exact (b2i_f (by omega)).symm
    · refine x_iconst (pc := 10) (v := nI 1) cx (dA ddX7_isShelf (i := 5) rfl) (by decide) ?_
      refine x_goto (pc := 11) (tgt := 15) cx (dA ddX7_isShelf (i := 6) rfl) (by decide) ?_
      refine x_zreturn (pc := 15) cx (dA ddX7_isShelf (i := 8) rfl) (Nat.le_of_ble_eq_true rfl) (Nat.le_of_ble_eq_true rfl) rfl ?_
      refine rI ?_
      have e8 : (nI 8).toInt = 8 := rfl
      simp only [i32_lt, i32_le, toI_0] at c1
      try simp only [i32_lt, i32_le, toI_0, e8] at c7
      first | exact (b2i_t (by omega)).symm | exact (b2i_f (by omega)).symm
