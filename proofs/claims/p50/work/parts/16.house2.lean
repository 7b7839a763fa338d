def mLo1 : Nat → Int
  | 0 => 1
  | 1 => 0
  | 2 => 1
  | _ => 0
def mHi1 : Nat → Int
  | 0 => 6
  | 1 => 99
  | 2 => 40
  | _ => 3
def mLo2 : Nat → Int
  | 0 => 1
  | _ => 0
def mHi2 : Nat → Int
  | 0 => 9
  | 1 => 4
  | 2 => 9
  | _ => 99
theorem nI_dec (m : Nat) (h : m < 2 ^ 31) : (nI m + Int32.ofInt (-1)).toInt = (m : Int) - 1 := by
  cases m with
  | zero => decide
  | succ n =>
    rw [show nI (n + 1) + Int32.ofInt (-1) = nI n from pk_m1 n, nI_toInt (by omega)]
    omega
theorem nI_min {a b : Nat} (ha : a < 2 ^ 31) (hb : b < 2 ^ 31) : (if nI b < nI a then nI b else nI a) = nI (min a b) := by
  by_cases h : b < a
  · rw [if_pos ((nI_ltI hb ha).mpr h), Nat.min_eq_right (by omega)]
  · rw [if_neg (fun q => h ((nI_ltI hb ha).mp q)), Nat.min_eq_left (by omega)]
theorem c_X0_mayBe {l : Launch} {Z : zP} {G : zG} {V : zV} {w : Nat} {x : Int32} (hw : w < 4) : CT l Z yX0_mayBe cX0_mayBe 2 (some .boolean) 0 0 0 [.int (nI w), .int x] G V (pI (b2i (mLo1 w ≤ x.toInt ∧ x.toInt ≤ mHi1 w)) G V) := by
  refine CT.of (by decide +kernel) (Nat.le_of_ble_eq_true rfl) (fun X hX cx => ?_)
  subst hX
  show Wm Z X 2 G V 0 0 _ 0 [(0, some (.int (nI w))), (1, some (.int x))] []
  refine x_iload_n (pc := 0) cx (dA ddX0_mayBe (i := 0) rfl) rfl ?_
  by_cases c1_0 : nI w = 0
  · refine x_tabIn (pc := 1) (v := 0) (tgt := 32) cx (dA ddX0_mayBe (i := 1) rfl) (by rw [c1_0]; decide) (by decide) (by decide) rfl (by decide) ?_
    refine x_iload_n (pc := 32) cx (dA ddX0_mayBe (i := 2) rfl) rfl ?_
    refine x_iconst (pc := 33) (v := nI 1) cx (dA ddX0_mayBe (i := 3) rfl) (by decide) ?_
    refine x_icmp_lt (pc := 34) (tgt := 47) cx (dA ddX0_mayBe (i := 4) rfl) (by decide) (fun c34 => ?_) (fun c34 => ?_)
    · refine x_iconst (pc := 47) (v := nI 0) cx (dA ddX0_mayBe (i := 10) rfl) (by decide) ?_
      refine x_zreturn (pc := 48) cx (dA ddX0_mayBe (i := 11) rfl) (Nat.le_of_ble_eq_true rfl) (Nat.le_of_ble_eq_true rfl) rfl ?_
      refine rI ?_
      have hw0 : w = 0 := by first | exact nI_inj (by omega) (by omega) c1_0
      have hlo : mLo1 w = 1 := by rcases hw0 with rfl <;> rfl
      have hhi : mHi1 w = 6 := by rcases hw0 with rfl <;> rfl
      have t1 : (nI 1).toInt = 1 := rfl
      have t2 : (nI 6).toInt = 6 := rfl
      simp only [i32_lt, i32_le, toI_0, t1] at c34
      try simp only [i32_lt, i32_le, toI_0, t2] at c40
      first | exact (b2i_t (by omega)).symm | exact (b2i_f (by omega)).symm
    · refine x_iload_n (pc := 37) cx (dA ddX0_mayBe (i := 5) rfl) rfl ?_
      refine x_bipush (pc := 38) (v := nI 6) cx (dA ddX0_mayBe (i := 6) rfl) (by decide) ?_
      refine x_icmp_gt (pc := 40) (tgt := 47) cx (dA ddX0_mayBe (i := 7) rfl) (by decide) (fun c40 => ?_) (fun c40 => ?_)
      · refine x_iconst (pc := 47) (v := nI 0) cx (dA ddX0_mayBe (i := 10) rfl) (by decide) ?_
        refine x_zreturn (pc := 48) cx (dA ddX0_mayBe (i := 11) rfl) (Nat.le_of_ble_eq_true rfl) (Nat.le_of_ble_eq_true rfl) rfl ?_
        refine rI ?_
        have hw0 : w = 0 := by first | exact nI_inj (by omega) (by omega) c1_0
        have hlo : mLo1 w = 1 := by rcases hw0 with rfl <;> rfl
        have hhi : mHi1 w = 6 := by rcases hw0 with rfl <;> rfl
        have t1 : (nI 1).toInt = 1 := rfl
        have t2 : (nI 6).toInt = 6 := rfl
        simp only [i32_lt, i32_le, toI_0, t1] at c34
        try simp only [i32_lt, i32_le, toI_0, t2] at c40
        first | exact (b2i_t (by omega)).symm | exact (b2i_f (by omega)).symm
      · refine x_iconst (pc := 43) (v := nI 1) cx (dA ddX0_mayBe (i := 8) rfl) (by decide) ?_
        refine x_goto (pc := 44) (tgt := 48) cx (dA ddX0_mayBe (i := 9) rfl) (by decide) ?_
        refine x_zreturn (pc := 48) cx (dA ddX0_mayBe (i := 11) rfl) (Nat.le_of_ble_eq_true rfl) (Nat.le_of_ble_eq_true rfl) rfl ?_
        refine rI ?_
        have hw0 : w = 0 := by first | exact nI_inj (by omega) (by omega) c1_0
        have hlo : mLo1 w = 1 := by rcases hw0 with rfl <;> rfl
        have hhi : mHi1 w = 6 := by rcases hw0 with rfl <;> rfl
        have t1 : (nI 1).toInt = 1 := rfl
        have t2 : (nI 6).toInt = 6 := rfl
        simp only [i32_lt, i32_le, toI_0, t1] at c34
        try simp only [i32_lt, i32_le, toI_0, t2] at c40
        first | exact (b2i_t (by omega)).symm | exact (b2i_f (by omega)).symm
  by_cases c1_1 : nI w = 1
  · refine x_tabIn (pc := 1) (v := 1) (tgt := 49) cx (dA ddX0_mayBe (i := 1) rfl) (by rw [c1_1]; decide) (by decide) (by decide) rfl (by decide) ?_
    refine x_iload_n (pc := 49) cx (dA ddX0_mayBe (i := 12) rfl) rfl ?_
    refine x_if_lt (pc := 50) (tgt := 63) cx (dA ddX0_mayBe (i := 13) rfl) (by decide) (fun c50 => ?_) (fun c50 => ?_)
    · refine x_iconst (pc := 63) (v := nI 0) cx (dA ddX0_mayBe (i := 19) rfl) (by decide) ?_
      refine x_zreturn (pc := 64) cx (dA ddX0_mayBe (i := 20) rfl) (Nat.le_of_ble_eq_true rfl) (Nat.le_of_ble_eq_true rfl) rfl ?_
      refine rI ?_
      have hw0 : w = 1 := by first | exact nI_inj (by omega) (by omega) c1_1
      have hlo : mLo1 w = 0 := by rcases hw0 with rfl <;> rfl
      have hhi : mHi1 w = 99 := by rcases hw0 with rfl <;> rfl
      have t1 : (nI 0).toInt = 0 := rfl
      have t2 : (nI 99).toInt = 99 := rfl
      simp only [i32_lt, i32_le, toI_0, t1] at c50
      try simp only [i32_lt, i32_le, toI_0, t2] at c56
      first | exact (b2i_t (by omega)).symm | exact (b2i_f (by omega)).symm
    · refine x_iload_n (pc := 53) cx (dA ddX0_mayBe (i := 14) rfl) rfl ?_
      refine x_bipush (pc := 54) (v := nI 99) cx (dA ddX0_mayBe (i := 15) rfl) (by decide) ?_
      refine x_icmp_gt (pc := 56) (tgt := 63) cx (dA ddX0_mayBe (i := 16) rfl) (by decide) (fun c56 => ?_) (fun c56 => ?_)
      · refine x_iconst (pc := 63) (v := nI 0) cx (dA ddX0_mayBe (i := 19) rfl) (by decide) ?_
        refine x_zreturn (pc := 64) cx (dA ddX0_mayBe (i := 20) rfl) (Nat.le_of_ble_eq_true rfl) (Nat.le_of_ble_eq_true rfl) rfl ?_
        refine rI ?_
        have hw0 : w = 1 := by first | exact nI_inj (by omega) (by omega) c1_1
        have hlo : mLo1 w = 0 := by rcases hw0 with rfl <;> rfl
        have hhi : mHi1 w = 99 := by rcases hw0 with rfl <;> rfl
        have t1 : (nI 0).toInt = 0 := rfl
        have t2 : (nI 99).toInt = 99 := rfl
        simp only [i32_lt, i32_le, toI_0, t1] at c50
        try simp only [i32_lt, i32_le, toI_0, t2] at c56
        first | exact (b2i_t (by omega)).symm | exact (b2i_f (by omega)).symm
      · refine x_iconst (pc := 59) (v := nI 1) cx (dA ddX0_mayBe (i := 17) rfl) (by decide) ?_
        refine x_goto (pc := 60) (tgt := 64) cx (dA ddX0_mayBe (i := 18) rfl) (by decide) ?_
        refine x_zreturn (pc := 64) cx (dA ddX0_mayBe (i := 20) rfl) (Nat.le_of_ble_eq_true rfl) (Nat.le_of_ble_eq_true rfl) rfl ?_
        refine rI ?_
        have hw0 : w = 1 := by first | exact nI_inj (by omega) (by omega) c1_1
        have hlo : mLo1 w = 0 := by rcases hw0 with rfl <;> rfl
        have hhi : mHi1 w = 99 := by rcases hw0 with rfl <;> rfl
        have t1 : (nI 0).toInt = 0 := rfl
        have t2 : (nI 99).toInt = 99 := rfl
        simp only [i32_lt, i32_le, toI_0, t1] at c50
        try simp only [i32_lt, i32_le, toI_0, t2] at c56
        first | exact (b2i_t (by omega)).symm | exact (b2i_f (by omega)).symm
  by_cases c1_2 : nI w = 2
  · refine x_tabIn (pc := 1) (v := 2) (tgt := 65) cx (dA ddX0_mayBe (i := 1) rfl) (by rw [c1_2]; decide) (by decide) (by decide) rfl (by decide) ?_
    refine x_iload_n (pc := 65) cx (dA ddX0_mayBe (i := 21) rfl) rfl ?_
    refine x_iconst (pc := 66) (v := nI 1) cx (dA ddX0_mayBe (i := 22) rfl) (by decide) ?_
    refine x_icmp_lt (pc := 67) (tgt := 80) cx (dA ddX0_mayBe (i := 23) rfl) (by decide) (fun c67 => ?_) (fun c67 => ?_)
    · refine x_iconst (pc := 80) (v := nI 0) cx (dA ddX0_mayBe (i := 29) rfl) (by decide) ?_
      refine x_zreturn (pc := 81) cx (dA ddX0_mayBe (i := 30) rfl) (Nat.le_of_ble_eq_true rfl) (Nat.le_of_ble_eq_true rfl) rfl ?_
      refine rI ?_
      have hw0 : w = 2 := by first | exact nI_inj (by omega) (by omega) c1_2
      have hlo : mLo1 w = 1 := by rcases hw0 with rfl <;> rfl
      have hhi : mHi1 w = 40 := by rcases hw0 with rfl <;> rfl
      have t1 : (nI 1).toInt = 1 := rfl
      have t2 : (nI 40).toInt = 40 := rfl
      simp only [i32_lt, i32_le, toI_0, t1] at c67
      try simp only [i32_lt, i32_le, toI_0, t2] at c73
      first | exact (b2i_t (by omega)).symm | exact (b2i_f (by omega)).symm
    · refine x_iload_n (pc := 70) cx (dA ddX0_mayBe (i := 24) rfl) rfl ?_
      refine x_bipush (pc := 71) (v := nI 40) cx (dA ddX0_mayBe (i := 25) rfl) (by decide) ?_
      refine x_icmp_gt (pc := 73) (tgt := 80) cx (dA ddX0_mayBe (i := 26) rfl) (by decide) (fun c73 => ?_) (fun c73 => ?_)
      · refine x_iconst (pc := 80) (v := nI 0) cx (dA ddX0_mayBe (i := 29) rfl) (by decide) ?_
        refine x_zreturn (pc := 81) cx (dA ddX0_mayBe (i := 30) rfl) (Nat.le_of_ble_eq_true rfl) (Nat.le_of_ble_eq_true rfl) rfl ?_
        refine rI ?_
        have hw0 : w = 2 := by first | exact nI_inj (by omega) (by omega) c1_2
        have hlo : mLo1 w = 1 := by rcases hw0 with rfl <;> rfl
        have hhi : mHi1 w = 40 := by rcases hw0 with rfl <;> rfl
        have t1 : (nI 1).toInt = 1 := rfl
        have t2 : (nI 40).toInt = 40 := rfl
        simp only [i32_lt, i32_le, toI_0, t1] at c67
        try simp only [i32_lt, i32_le, toI_0, t2] at c73
        first | exact (b2i_t (by omega)).symm | exact (b2i_f (by omega)).symm
      · refine x_iconst (pc := 76) (v := nI 1) cx (dA ddX0_mayBe (i := 27) rfl) (by decide) ?_
        refine x_goto (pc := 77) (tgt := 81) cx (dA ddX0_mayBe (i := 28) rfl) (by decide) ?_
        refine x_zreturn (pc := 81) cx (dA ddX0_mayBe (i := 30) rfl) (Nat.le_of_ble_eq_true rfl) (Nat.le_of_ble_eq_true rfl) rfl ?_
        refine rI ?_
        have hw0 : w = 2 := by first | exact nI_inj (by omega) (by omega) c1_2
        have hlo : mLo1 w = 1 := by rcases hw0 with rfl <;> rfl
        have hhi : mHi1 w = 40 := by rcases hw0 with rfl <;> rfl
        have t1 : (nI 1).toInt = 1 := rfl
        have t2 : (nI 40).toInt = 40 := rfl
        simp only [i32_lt, i32_le, toI_0, t1] at c67
        try simp only [i32_lt, i32_le, toI_0, t2] at c73
        first | exact (b2i_t (by omega)).symm | exact (b2i_f (by omega)).symm
  by_cases c1_3 : nI w = 3
  · refine x_tabIn (pc := 1) (v := 3) (tgt := 82) cx (dA ddX0_mayBe (i := 1) rfl) (by rw [c1_3]; decide) (by decide) (by decide) rfl (by decide) ?_
    refine x_iload_n (pc := 82) cx (dA ddX0_mayBe (i := 31) rfl) rfl ?_
    refine x_if_lt (pc := 83) (tgt := 95) cx (dA ddX0_mayBe (i := 32) rfl) (by decide) (fun c83 => ?_) (fun c83 => ?_)
    · refine x_iconst (pc := 95) (v := nI 0) cx (dA ddX0_mayBe (i := 38) rfl) (by decide) ?_
      refine x_zreturn (pc := 96) cx (dA ddX0_mayBe (i := 39) rfl) (Nat.le_of_ble_eq_true rfl) (Nat.le_of_ble_eq_true rfl) rfl ?_
      refine rI ?_
      have hw0 : w = 3 := by first | exact nI_inj (by omega) (by omega) c1_3
      have hlo : mLo1 w = 0 := by rcases hw0 with rfl <;> rfl
      have hhi : mHi1 w = 3 := by rcases hw0 with rfl <;> rfl
      have t1 : (nI 0).toInt = 0 := rfl
      have t2 : (nI 3).toInt = 3 := rfl
      simp only [i32_lt, i32_le, toI_0, t1] at c83
      try simp only [i32_lt, i32_le, toI_0, t2] at c88
      first | exact (b2i_t (by omega)).symm | exact (b2i_f (by omega)).symm
    · refine x_iload_n (pc := 86) cx (dA ddX0_mayBe (i := 33) rfl) rfl ?_
      refine x_iconst (pc := 87) (v := nI 3) cx (dA ddX0_mayBe (i := 34) rfl) (by decide) ?_
      refine x_icmp_gt (pc := 88) (tgt := 95) cx (dA ddX0_mayBe (i := 35) rfl) (by decide) (fun c88 => ?_) (fun c88 => ?_)
      · refine x_iconst (pc := 95) (v := nI 0) cx (dA ddX0_mayBe (i := 38) rfl) (by decide) ?_
        refine x_zreturn (pc := 96) cx (dA ddX0_mayBe (i := 39) rfl) (Nat.le_of_ble_eq_true rfl) (Nat.le_of_ble_eq_true rfl) rfl ?_
        refine rI ?_
        have hw0 : w = 3 := by first | exact nI_inj (by omega) (by omega) c1_3
        have hlo : mLo1 w = 0 := by rcases hw0 with rfl <;> rfl
        have hhi : mHi1 w = 3 := by rcases hw0 with rfl <;> rfl
        have t1 : (nI 0).toInt = 0 := rfl
        have t2 : (nI 3).toInt = 3 := rfl
        simp only [i32_lt, i32_le, toI_0, t1] at c83
        try simp only [i32_lt, i32_le, toI_0, t2] at c88
        first | exact (b2i_t (by omega)).symm | exact (b2i_f (by omega)).symm
      · refine x_iconst (pc := 91) (v := nI 1) cx (dA ddX0_mayBe (i := 36) rfl) (by decide) ?_
        refine x_goto (pc := 92) (tgt := 96) cx (dA ddX0_mayBe (i := 37) rfl) (by decide) ?_
        refine x_zreturn (pc := 96) cx (dA ddX0_mayBe (i := 39) rfl) (Nat.le_of_ble_eq_true rfl) (Nat.le_of_ble_eq_true rfl) rfl ?_
        refine rI ?_
        have hw0 : w = 3 := by first | exact nI_inj (by omega) (by omega) c1_3
        have hlo : mLo1 w = 0 := by rcases hw0 with rfl <;> rfl
        have hhi : mHi1 w = 3 := by rcases hw0 with rfl <;> rfl
        have t1 : (nI 0).toInt = 0 := rfl
        have t2 : (nI 3).toInt = 3 := rfl
        simp only [i32_lt, i32_le, toI_0, t1] at c83
        try simp only [i32_lt, i32_le, toI_0, t2] at c88
        first | exact (b2i_t (by omega)).symm | exact (b2i_f (by omega)).symm
  refine x_tabOut (pc := 1) (tgt := 97) cx (dA ddX0_mayBe (i := 1) rfl) (by have t0 := lv_neT (a := 0) c1_0 (by decide); have t1 := lv_neT (a := 1) c1_1 (by decide); have t2 := lv_neT (a := 2) c1_2 (by decide); have t3 := lv_neT (a := 3) c1_3 (by decide); omega) (by decide) ?_
  exact absurd (show w = 0 ∨ w = 1 ∨ w = 2 ∨ w = 3 by omega) (by rintro (h | h | h | h) <;> subst h <;> first | exact c1_0 rfl | exact c1_1 rfl | exact c1_2 rfl | exact c1_3 rfl)
theorem c_X0_mayBeOfSort {l : Launch} {Z : zP} {G : zG} {V : zV} {w : Nat} {x : Int32} (hw : w < 5) : CT l Z yX0_mayBeOfSort cX0_mayBeOfSort 2 (some .boolean) 0 0 0 [.int (nI w), .int x] G V (pI (b2i (mLo2 w ≤ x.toInt ∧ x.toInt ≤ mHi2 w)) G V) := by
  refine CT.of (by decide +kernel) (Nat.le_of_ble_eq_true rfl) (fun X hX cx => ?_)
  subst hX
  show Wm Z X 2 G V 0 0 _ 0 [(0, some (.int (nI w))), (1, some (.int x))] []
  refine x_iload_n (pc := 0) cx (dA ddX0_mayBeOfSort (i := 0) rfl) rfl ?_
  by_cases c1_0 : nI w = 0
  · refine x_tabIn (pc := 1) (v := 0) (tgt := 36) cx (dA ddX0_mayBeOfSort (i := 1) rfl) (by rw [c1_0]; decide) (by decide) (by decide) rfl (by decide) ?_
    refine x_iload_n (pc := 36) cx (dA ddX0_mayBeOfSort (i := 2) rfl) rfl ?_
    refine x_iconst (pc := 37) (v := nI 1) cx (dA ddX0_mayBeOfSort (i := 3) rfl) (by decide) ?_
    refine x_icmp_lt (pc := 38) (tgt := 51) cx (dA ddX0_mayBeOfSort (i := 4) rfl) (by decide) (fun c38 => ?_) (fun c38 => ?_)
    · refine x_iconst (pc := 51) (v := nI 0) cx (dA ddX0_mayBeOfSort (i := 10) rfl) (by decide) ?_
      refine x_zreturn (pc := 52) cx (dA ddX0_mayBeOfSort (i := 11) rfl) (Nat.le_of_ble_eq_true rfl) (Nat.le_of_ble_eq_true rfl) rfl ?_
      refine rI ?_
      have hw0 : w = 0 := by first | exact nI_inj (by omega) (by omega) c1_0
      have hlo : mLo2 w = 1 := by rcases hw0 with rfl <;> rfl
      have hhi : mHi2 w = 9 := by rcases hw0 with rfl <;> rfl
      have t1 : (nI 1).toInt = 1 := rfl
      have t2 : (nI 9).toInt = 9 := rfl
      simp only [i32_lt, i32_le, toI_0, t1] at c38
      try simp only [i32_lt, i32_le, toI_0, t2] at c44
      first | exact (b2i_t (by omega)).symm | exact (b2i_f (by omega)).symm
    · refine x_iload_n (pc := 41) cx (dA ddX0_mayBeOfSort (i := 5) rfl) rfl ?_
      refine x_bipush (pc := 42) (v := nI 9) cx (dA ddX0_mayBeOfSort (i := 6) rfl) (by decide) ?_
      refine x_icmp_gt (pc := 44) (tgt := 51) cx (dA ddX0_mayBeOfSort (i := 7) rfl) (by decide) (fun c44 => ?_) (fun c44 => ?_)
      · refine x_iconst (pc := 51) (v := nI 0) cx (dA ddX0_mayBeOfSort (i := 10) rfl) (by decide) ?_
        refine x_zreturn (pc := 52) cx (dA ddX0_mayBeOfSort (i := 11) rfl) (Nat.le_of_ble_eq_true rfl) (Nat.le_of_ble_eq_true rfl) rfl ?_
        refine rI ?_
        have hw0 : w = 0 := by first | exact nI_inj (by omega) (by omega) c1_0
        have hlo : mLo2 w = 1 := by rcases hw0 with rfl <;> rfl
        have hhi : mHi2 w = 9 := by rcases hw0 with rfl <;> rfl
        have t1 : (nI 1).toInt = 1 := rfl
        have t2 : (nI 9).toInt = 9 := rfl
        simp only [i32_lt, i32_le, toI_0, t1] at c38
        try simp only [i32_lt, i32_le, toI_0, t2] at c44
        first | exact (b2i_t (by omega)).symm | exact (b2i_f (by omega)).symm
      · refine x_iconst (pc := 47) (v := nI 1) cx (dA ddX0_mayBeOfSort (i := 8) rfl) (by decide) ?_
        refine x_goto (pc := 48) (tgt := 52) cx (dA ddX0_mayBeOfSort (i := 9) rfl) (by decide) ?_
        refine x_zreturn (pc := 52) cx (dA ddX0_mayBeOfSort (i := 11) rfl) (Nat.le_of_ble_eq_true rfl) (Nat.le_of_ble_eq_true rfl) rfl ?_
        refine rI ?_
        have hw0 : w = 0 := by first | exact nI_inj (by omega) (by omega) c1_0
        have hlo : mLo2 w = 1 := by rcases hw0 with rfl <;> rfl
        have hhi : mHi2 w = 9 := by rcases hw0 with rfl <;> rfl
        have t1 : (nI 1).toInt = 1 := rfl
        have t2 : (nI 9).toInt = 9 := rfl
        simp only [i32_lt, i32_le, toI_0, t1] at c38
        try simp only [i32_lt, i32_le, toI_0, t2] at c44
        first | exact (b2i_t (by omega)).symm | exact (b2i_f (by omega)).symm
  by_cases c1_1 : nI w = 1
  · refine x_tabIn (pc := 1) (v := 1) (tgt := 53) cx (dA ddX0_mayBeOfSort (i := 1) rfl) (by rw [c1_1]; decide) (by decide) (by decide) rfl (by decide) ?_
    refine x_iload_n (pc := 53) cx (dA ddX0_mayBeOfSort (i := 12) rfl) rfl ?_
    refine x_if_lt (pc := 54) (tgt := 66) cx (dA ddX0_mayBeOfSort (i := 13) rfl) (by decide) (fun c54 => ?_) (fun c54 => ?_)
    · refine x_iconst (pc := 66) (v := nI 0) cx (dA ddX0_mayBeOfSort (i := 19) rfl) (by decide) ?_
      refine x_zreturn (pc := 67) cx (dA ddX0_mayBeOfSort (i := 20) rfl) (Nat.le_of_ble_eq_true rfl) (Nat.le_of_ble_eq_true rfl) rfl ?_
      refine rI ?_
      have hw0 : w = 1 := by first | exact nI_inj (by omega) (by omega) c1_1
      have hlo : mLo2 w = 0 := by rcases hw0 with rfl <;> rfl
      have hhi : mHi2 w = 4 := by rcases hw0 with rfl <;> rfl
      have t1 : (nI 0).toInt = 0 := rfl
      have t2 : (nI 4).toInt = 4 := rfl
      simp only [i32_lt, i32_le, toI_0, t1] at c54
      try simp only [i32_lt, i32_le, toI_0, t2] at c59
      first | exact (b2i_t (by omega)).symm | exact (b2i_f (by omega)).symm
    · refine x_iload_n (pc := 57) cx (dA ddX0_mayBeOfSort (i := 14) rfl) rfl ?_
      refine x_iconst (pc := 58) (v := nI 4) cx (dA ddX0_mayBeOfSort (i := 15) rfl) (by decide) ?_
      refine x_icmp_gt (pc := 59) (tgt := 66) cx (dA ddX0_mayBeOfSort (i := 16) rfl) (by decide) (fun c59 => ?_) (fun c59 => ?_)
      · refine x_iconst (pc := 66) (v := nI 0) cx (dA ddX0_mayBeOfSort (i := 19) rfl) (by decide) ?_
        refine x_zreturn (pc := 67) cx (dA ddX0_mayBeOfSort (i := 20) rfl) (Nat.le_of_ble_eq_true rfl) (Nat.le_of_ble_eq_true rfl) rfl ?_
        refine rI ?_
        have hw0 : w = 1 := by first | exact nI_inj (by omega) (by omega) c1_1
        have hlo : mLo2 w = 0 := by rcases hw0 with rfl <;> rfl
        have hhi : mHi2 w = 4 := by rcases hw0 with rfl <;> rfl
        have t1 : (nI 0).toInt = 0 := rfl
        have t2 : (nI 4).toInt = 4 := rfl
        simp only [i32_lt, i32_le, toI_0, t1] at c54
        try simp only [i32_lt, i32_le, toI_0, t2] at c59
        first | exact (b2i_t (by omega)).symm | exact (b2i_f (by omega)).symm
      · refine x_iconst (pc := 62) (v := nI 1) cx (dA ddX0_mayBeOfSort (i := 17) rfl) (by decide) ?_
        refine x_goto (pc := 63) (tgt := 67) cx (dA ddX0_mayBeOfSort (i := 18) rfl) (by decide) ?_
        refine x_zreturn (pc := 67) cx (dA ddX0_mayBeOfSort (i := 20) rfl) (Nat.le_of_ble_eq_true rfl) (Nat.le_of_ble_eq_true rfl) rfl ?_
        refine rI ?_
        have hw0 : w = 1 := by first | exact nI_inj (by omega) (by omega) c1_1
        have hlo : mLo2 w = 0 := by rcases hw0 with rfl <;> rfl
        have hhi : mHi2 w = 4 := by rcases hw0 with rfl <;> rfl
        have t1 : (nI 0).toInt = 0 := rfl
        have t2 : (nI 4).toInt = 4 := rfl
        simp only [i32_lt, i32_le, toI_0, t1] at c54
        try simp only [i32_lt, i32_le, toI_0, t2] at c59
        first | exact (b2i_t (by omega)).symm | exact (b2i_f (by omega)).symm
  by_cases c1_2 : nI w = 2
  · refine x_tabIn (pc := 1) (v := 2) (tgt := 68) cx (dA ddX0_mayBeOfSort (i := 1) rfl) (by rw [c1_2]; decide) (by decide) (by decide) rfl (by decide) ?_
    refine x_iload_n (pc := 68) cx (dA ddX0_mayBeOfSort (i := 21) rfl) rfl ?_
    refine x_if_lt (pc := 69) (tgt := 82) cx (dA ddX0_mayBeOfSort (i := 22) rfl) (by decide) (fun c69 => ?_) (fun c69 => ?_)
    · refine x_iconst (pc := 82) (v := nI 0) cx (dA ddX0_mayBeOfSort (i := 28) rfl) (by decide) ?_
      refine x_zreturn (pc := 83) cx (dA ddX0_mayBeOfSort (i := 29) rfl) (Nat.le_of_ble_eq_true rfl) (Nat.le_of_ble_eq_true rfl) rfl ?_
      refine rI ?_
      have hw0 : w = 2 := by first | exact nI_inj (by omega) (by omega) c1_2
      have hlo : mLo2 w = 0 := by rcases hw0 with rfl <;> rfl
      have hhi : mHi2 w = 9 := by rcases hw0 with rfl <;> rfl
      have t1 : (nI 0).toInt = 0 := rfl
      have t2 : (nI 9).toInt = 9 := rfl
      simp only [i32_lt, i32_le, toI_0, t1] at c69
      try simp only [i32_lt, i32_le, toI_0, t2] at c75
      first | exact (b2i_t (by omega)).symm | exact (b2i_f (by omega)).symm
    · refine x_iload_n (pc := 72) cx (dA ddX0_mayBeOfSort (i := 23) rfl) rfl ?_
      refine x_bipush (pc := 73) (v := nI 9) cx (dA ddX0_mayBeOfSort (i := 24) rfl) (by decide) ?_
      refine x_icmp_gt (pc := 75) (tgt := 82) cx (dA ddX0_mayBeOfSort (i := 25) rfl) (by decide) (fun c75 => ?_) (fun c75 => ?_)
      · refine x_iconst (pc := 82) (v := nI 0) cx (dA ddX0_mayBeOfSort (i := 28) rfl) (by decide) ?_
        refine x_zreturn (pc := 83) cx (dA ddX0_mayBeOfSort (i := 29) rfl) (Nat.le_of_ble_eq_true rfl) (Nat.le_of_ble_eq_true rfl) rfl ?_
        refine rI ?_
        have hw0 : w = 2 := by first | exact nI_inj (by omega) (by omega) c1_2
        have hlo : mLo2 w = 0 := by rcases hw0 with rfl <;> rfl
        have hhi : mHi2 w = 9 := by rcases hw0 with rfl <;> rfl
        have t1 : (nI 0).toInt = 0 := rfl
        have t2 : (nI 9).toInt = 9 := rfl
        simp only [i32_lt, i32_le, toI_0, t1] at c69
        try simp only [i32_lt, i32_le, toI_0, t2] at c75
        first | exact (b2i_t (by omega)).symm | exact (b2i_f (by omega)).symm
      · refine x_iconst (pc := 78) (v := nI 1) cx (dA ddX0_mayBeOfSort (i := 26) rfl) (by decide) ?_
        refine x_goto (pc := 79) (tgt := 83) cx (dA ddX0_mayBeOfSort (i := 27) rfl) (by decide) ?_
        refine x_zreturn (pc := 83) cx (dA ddX0_mayBeOfSort (i := 29) rfl) (Nat.le_of_ble_eq_true rfl) (Nat.le_of_ble_eq_true rfl) rfl ?_
        refine rI ?_
        have hw0 : w = 2 := by first | exact nI_inj (by omega) (by omega) c1_2
        have hlo : mLo2 w = 0 := by rcases hw0 with rfl <;> rfl
        have hhi : mHi2 w = 9 := by rcases hw0 with rfl <;> rfl
        have t1 : (nI 0).toInt = 0 := rfl
        have t2 : (nI 9).toInt = 9 := rfl
        simp only [i32_lt, i32_le, toI_0, t1] at c69
        try simp only [i32_lt, i32_le, toI_0, t2] at c75
        first | exact (b2i_t (by omega)).symm | exact (b2i_f (by omega)).symm
  by_cases c1_3 : nI w = 3
  · refine x_tabIn (pc := 1) (v := 3) (tgt := 84) cx (dA ddX0_mayBeOfSort (i := 1) rfl) (by rw [c1_3]; decide) (by decide) (by decide) rfl (by decide) ?_
    refine x_iload_n (pc := 84) cx (dA ddX0_mayBeOfSort (i := 30) rfl) rfl ?_
    refine x_if_lt (pc := 85) (tgt := 98) cx (dA ddX0_mayBeOfSort (i := 31) rfl) (by decide) (fun c85 => ?_) (fun c85 => ?_)
    · refine x_iconst (pc := 98) (v := nI 0) cx (dA ddX0_mayBeOfSort (i := 37) rfl) (by decide) ?_
      refine x_zreturn (pc := 99) cx (dA ddX0_mayBeOfSort (i := 38) rfl) (Nat.le_of_ble_eq_true rfl) (Nat.le_of_ble_eq_true rfl) rfl ?_
      refine rI ?_
      have hw0 : w = 3 ∨ w = 4 := by first | exact Or.inl (nI_inj (by omega) (by omega) c1_3) | exact Or.inr (nI_inj (by omega) (by omega) c1_4)
      have hlo : mLo2 w = 0 := by rcases hw0 with rfl | rfl <;> rfl
      have hhi : mHi2 w = 99 := by rcases hw0 with rfl | rfl <;> rfl
      have t1 : (nI 0).toInt = 0 := rfl
      have t2 : (nI 99).toInt = 99 := rfl
      simp only [i32_lt, i32_le, toI_0, t1] at c85
      try simp only [i32_lt, i32_le, toI_0, t2] at c91
      first | exact (b2i_t (by omega)).symm | exact (b2i_f (by omega)).symm
    · refine x_iload_n (pc := 88) cx (dA ddX0_mayBeOfSort (i := 32) rfl) rfl ?_
      refine x_bipush (pc := 89) (v := nI 99) cx (dA ddX0_mayBeOfSort (i := 33) rfl) (by decide) ?_
      refine x_icmp_gt (pc := 91) (tgt := 98) cx (dA ddX0_mayBeOfSort (i := 34) rfl) (by decide) (fun c91 => ?_) (fun c91 => ?_)
      · refine x_iconst (pc := 98) (v := nI 0) cx (dA ddX0_mayBeOfSort (i := 37) rfl) (by decide) ?_
        refine x_zreturn (pc := 99) cx (dA ddX0_mayBeOfSort (i := 38) rfl) (Nat.le_of_ble_eq_true rfl) (Nat.le_of_ble_eq_true rfl) rfl ?_
        refine rI ?_
        have hw0 : w = 3 ∨ w = 4 := by first | exact Or.inl (nI_inj (by omega) (by omega) c1_3) | exact Or.inr (nI_inj (by omega) (by omega) c1_4)
        have hlo : mLo2 w = 0 := by rcases hw0 with rfl | rfl <;> rfl
        have hhi : mHi2 w = 99 := by rcases hw0 with rfl | rfl <;> rfl
        have t1 : (nI 0).toInt = 0 := rfl
        have t2 : (nI 99).toInt = 99 := rfl
        simp only [i32_lt, i32_le, toI_0, t1] at c85
        try simp only [i32_lt, i32_le, toI_0, t2] at c91
        first | exact (b2i_t (by omega)).symm | exact (b2i_f (by omega)).symm
      · refine x_iconst (pc := 94) (v := nI 1) cx (dA ddX0_mayBeOfSort (i := 35) rfl) (by decide) ?_
        refine x_goto (pc := 95) (tgt := 99) cx (dA ddX0_mayBeOfSort (i := 36) rfl) (by decide) ?_
        refine x_zreturn (pc := 99) cx (dA ddX0_mayBeOfSort (i := 38) rfl) (Nat.le_of_ble_eq_true rfl) (Nat.le_of_ble_eq_true rfl) rfl ?_
        refine rI ?_
        have hw0 : w = 3 ∨ w = 4 := by first | exact Or.inl (nI_inj (by omega) (by omega) c1_3) | exact Or.inr (nI_inj (by omega) (by omega) c1_4)
        have hlo : mLo2 w = 0 := by rcases hw0 with rfl | rfl <;> rfl
        have hhi : mHi2 w = 99 := by rcases hw0 with rfl | rfl <;> rfl
        have t1 : (nI 0).toInt = 0 := rfl
        have t2 : (nI 99).toInt = 99 := rfl
        simp only [i32_lt, i32_le, toI_0, t1] at c85
        try simp only [i32_lt, i32_le, toI_0, t2] at c91
        first | exact (b2i_t (by omega)).symm | exact (b2i_f (by omega)).symm
  by_cases c1_4 : nI w = 4
  · refine x_tabIn (pc := 1) (v := 4) (tgt := 84) cx (dA ddX0_mayBeOfSort (i := 1) rfl) (by rw [c1_4]; decide) (by decide) (by decide) rfl (by decide) ?_
    refine x_iload_n (pc := 84) cx (dA ddX0_mayBeOfSort (i := 30) rfl) rfl ?_
    refine x_if_lt (pc := 85) (tgt := 98) cx (dA ddX0_mayBeOfSort (i := 31) rfl) (by decide) (fun c85 => ?_) (fun c85 => ?_)
    · refine x_iconst (pc := 98) (v := nI 0) cx (dA ddX0_mayBeOfSort (i := 37) rfl) (by decide) ?_
      refine x_zreturn (pc := 99) cx (dA ddX0_mayBeOfSort (i := 38) rfl) (Nat.le_of_ble_eq_true rfl) (Nat.le_of_ble_eq_true rfl) rfl ?_
      refine rI ?_
      have hw0 : w = 3 ∨ w = 4 := by first | exact Or.inl (nI_inj (by omega) (by omega) c1_3) | exact Or.inr (nI_inj (by omega) (by omega) c1_4)
      have hlo : mLo2 w = 0 := by rcases hw0 with rfl | rfl <;> rfl
      have hhi : mHi2 w = 99 := by rcases hw0 with rfl | rfl <;> rfl
      have t1 : (nI 0).toInt = 0 := rfl
      have t2 : (nI 99).toInt = 99 := rfl
      simp only [i32_lt, i32_le, toI_0, t1] at c85
      try simp only [i32_lt, i32_le, toI_0, t2] at c91
      first | exact (b2i_t (by omega)).symm | exact (b2i_f (by omega)).symm
    · refine x_iload_n (pc := 88) cx (dA ddX0_mayBeOfSort (i := 32) rfl) rfl ?_
      refine x_bipush (pc := 89) (v := nI 99) cx (dA ddX0_mayBeOfSort (i := 33) rfl) (by decide) ?_
      refine x_icmp_gt (pc := 91) (tgt := 98) cx (dA ddX0_mayBeOfSort (i := 34) rfl) (by decide) (fun c91 => ?_) (fun c91 => ?_)
      · refine x_iconst (pc := 98) (v := nI 0) cx (dA ddX0_mayBeOfSort (i := 37) rfl) (by decide) ?_
        refine x_zreturn (pc := 99) cx (dA ddX0_mayBeOfSort (i := 38) rfl) (Nat.le_of_ble_eq_true rfl) (Nat.le_of_ble_eq_true rfl) rfl ?_
        refine rI ?_
        have hw0 : w = 3 ∨ w = 4 := by first | exact Or.inl (nI_inj (by omega) (by omega) c1_3) | exact Or.inr (nI_inj (by omega) (by omega) c1_4)
        have hlo : mLo2 w = 0 := by rcases hw0 with rfl | rfl <;> rfl
        have hhi : mHi2 w = 99 := by rcases hw0 with rfl | rfl <;> rfl
        have t1 : (nI 0).toInt = 0 := rfl
        have t2 : (nI 99).toInt = 99 := rfl
        simp only [i32_lt, i32_le, toI_0, t1] at c85
        try simp only [i32_lt, i32_le, toI_0, t2] at c91
        first | exact (b2i_t (by omega)).symm | exact (b2i_f (by omega)).symm
      · refine x_iconst (pc := 94) (v := nI 1) cx (dA ddX0_mayBeOfSort (i := 35) rfl) (by decide) ?_
        refine x_goto (pc := 95) (tgt := 99) cx (dA ddX0_mayBeOfSort (i := 36) rfl) (by decide) ?_
        refine x_zreturn (pc := 99) cx (dA ddX0_mayBeOfSort (i := 38) rfl) (Nat.le_of_ble_eq_true rfl) (Nat.le_of_ble_eq_true rfl) rfl ?_
        refine rI ?_
        have hw0 : w = 3 ∨ w = 4 := by first | exact Or.inl (nI_inj (by omega) (by omega) c1_3) | exact Or.inr (nI_inj (by omega) (by omega) c1_4)
        have hlo : mLo2 w = 0 := by rcases hw0 with rfl | rfl <;> rfl
        have hhi : mHi2 w = 99 := by rcases hw0 with rfl | rfl <;> rfl
        have t1 : (nI 0).toInt = 0 := rfl
        have t2 : (nI 99).toInt = 99 := rfl
        simp only [i32_lt, i32_le, toI_0, t1] at c85
        try simp only [i32_lt, i32_le, toI_0, t2] at c91
        first | exact (b2i_t (by omega)).symm | exact (b2i_f (by omega)).symm
  refine x_tabOut (pc := 1) (tgt := 100) cx (dA ddX0_mayBeOfSort (i := 1) rfl) (by have t0 := lv_neT (a := 0) c1_0 (by decide); have t1 := lv_neT (a := 1) c1_1 (by decide); have t2 := lv_neT (a := 2) c1_2 (by decide); have t3 := lv_neT (a := 3) c1_3 (by decide); have t4 := lv_neT (a := 4) c1_4 (by decide); omega) (by decide) ?_
  exact absurd (show w = 0 ∨ w = 1 ∨ w = 2 ∨ w = 3 ∨ w = 4 by omega) (by rintro (h | h | h | h | h) <;> subst h <;> first | exact c1_0 rfl | exact c1_1 rfl | exact c1_2 rfl | exact c1_3 rfl | exact c1_4 rfl)
theorem c_X0_fillFor {l : Launch} {Z : zP} {G : zG} {V : zV} {h : Nat} (hH : HouseAt Z G h) {N : Nat → Nat} (hV : HouseV V h N) (hB : HouseB N) {s : Nat} (hs : s < 125) : CT l Z yX0_fillFor cX0_fillFor 8 (some .int) 2 0 0 [.ref h, .int (nI s)] G V (pI (nI (fillP N s)) G V) := by
  refine CT.of (by decide +kernel) (Nat.le_of_ble_eq_true rfl) (fun X hX cx => ?_)
  subst hX
  show Wm Z X 8 G V 0 0 _ 0 [(0, some (.ref h)), (1, some (.int (nI s)))] []
  have h0 := hH.1
  have hA := hH.2.2
  have b4 := hB.1
  have bN := hB.2
  refine x_aload_n (pc := 0) cx (dA ddX0_fillFor (i := 0) rfl) rfl ?_
  refine x_iconst (pc := 1) (v := nI 2) cx (dA ddX0_fillFor (i := 1) rfl) (by decide) ?_
  refine x_V1 (pc := 2) mX0_31 h0 (c_X0_number hH hV hB (by omega)) cx (dA ddX0_fillFor (i := 2) rfl) (kI ?_)
  refine x_istore_n (pc := 5) cx (dA ddX0_fillFor (i := 3) rfl) (by decide) rfl ?_
  refine x_iconst (pc := 6) (v := nI 0) cx (dA ddX0_fillFor (i := 4) rfl) (by decide) ?_
  refine x_istore_n (pc := 7) cx (dA ddX0_fillFor (i := 5) rfl) (by decide) rfl ?_
  refine x_bipush (pc := 8) (v := nI 9) cx (dA ddX0_fillFor (i := 6) rfl) (by decide) ?_
  refine x_istore (pc := 10) cx (dA ddX0_fillFor (i := 7) rfl) (by decide) rfl ?_
  have L12 : ∀ c : Nat, c ≤ 10 → ∀ v : Int32, v.toInt = 9 - (c : Int) → Wm Z X 8 G V 0 0 (rQ Z X 0 0 (pI (nI (fillP N s)) G V)) 12 [(0, some (.ref h)), (1, some (.int (nI s))), (2, some (.int (nI (fillOut N s c).1))), (3, some (.int (nI (fillOut N s c).2))), (4, some (.int v))] [] := by
    refine lpU 10 (fun c hc ih => ?_)
    intro v hv
    refine x_iload (pc := 12) cx (dA ddX0_fillFor (i := 8) rfl) rfl ?_
    refine x_if_lt (pc := 14) (tgt := 101) cx (dA ddX0_fillFor (i := 9) rfl) (by decide) (fun c14 => ?_) (fun c14 => ?_)
    · have e10 : c = 10 := by rw [i32_lt, hv, toI_0] at c14; omega
      subst e10
      refine x_iload_n (pc := 101) cx (dA ddX0_fillFor (i := 54) rfl) rfl ?_
      refine x_ireturn (pc := 102) cx (dA ddX0_fillFor (i := 55) rfl) (Nat.le_of_ble_eq_true rfl) (Nat.le_of_ble_eq_true rfl) ?_
      exact rI rfl
    · have h9 : c ≤ 9 := by rw [i32_lt, hv, toI_0] at c14; omega
      have ev : v = nI (9 - c) := by apply Int32.toInt_inj.mp; rw [hv, nI_toInt (by omega)]; omega
      subst ev
      have ol := fillOut_le hB (s := s) (c := c)
      refine x_iconst (pc := 17) (v := nI 0) cx (dA ddX0_fillFor (i := 10) rfl) (by decide) ?_
      refine x_istore (pc := 18) cx (dA ddX0_fillFor (i := 11) rfl) (by decide) rfl ?_
      have L20 : ∀ k, k ≤ N 4 → Wm Z X 8 G V 0 0 (rQ Z X 0 0 (pI (nI (fillP N s)) G V)) 20 [(0, some (.ref h)), (1, some (.int (nI s))), (2, some (.int (nI (fillIn N s (9 - c) k (fillOut N s c)).1))), (3, some (.int (nI (fillIn N s (9 - c) k (fillOut N s c)).2))), (4, some (.int (nI (9 - c)))), (5, some (.int (nI k)))] [] := by
        refine lpU (N 4) (fun k hk ih2 => ?_)
        refine x_iload (pc := 20) cx (dA ddX0_fillFor (i := 12) rfl) rfl ?_
        refine x_aload_n (pc := 22) cx (dA ddX0_fillFor (i := 13) rfl) rfl ?_
        have il := fillIn_le (N := N) (s := s) (hold := 9 - c) (p := fillOut N s c) (k := k) (by omega)
        refine x_V0 (pc := 23) mX0_35 h0 (c_X0_sorts hH hV hB) cx (dA ddX0_fillFor (i := 14) rfl) (kI ?_)
        refine x_icmp_ge (pc := 26) (tgt := 95) cx (dA ddX0_fillFor (i := 15) rfl) (by decide) (fun c26 => ?_) (fun c26 => ?_)
        · have c26 := cleT (by omega) (by omega) c26
          have ek : k = N 4 := by omega
          have ek : k = N 4 := by omega
          subst ek
          refine x_iinc (pc := 95) cx (dA ddX0_fillFor (i := 52) rfl) rfl rfl (by decide) rfl ?_
          refine x_goto (pc := 98) (tgt := 12) cx (dA ddX0_fillFor (i := 53) rfl) (by decide) ?_
          exact x_enter (ih (by omega) _ (by rw [nI_dec _ (by omega)]; omega)) ⟨.inr rfl, .inr rfl, .inr rfl, .inr rfl, .inr rfl, trivial⟩
        · have c26 := cleF (by omega) (by omega) c26
          have nr := bN (5 + 5 * k + 0) (by omega)
          have nh := bN (5 + 5 * k + 2) (by omega)
          refine x_aload_n (pc := 29) cx (dA ddX0_fillFor (i := 16) rfl) rfl ?_
          refine x_iload (pc := 30) cx (dA ddX0_fillFor (i := 17) rfl) rfl ?_
          refine x_iconst (pc := 32) (v := nI 0) cx (dA ddX0_fillFor (i := 18) rfl) (by decide) ?_
          refine x_V2 (pc := 33) mX0_45 h0 (c_X0_sortNumber hH hV hB (by omega) (by omega)) cx (dA ddX0_fillFor (i := 19) rfl) (kI ?_)
          refine x_istore (pc := 36) cx (dA ddX0_fillFor (i := 20) rfl) (by decide) rfl ?_
          refine x_aload_n (pc := 38) cx (dA ddX0_fillFor (i := 21) rfl) rfl ?_
          refine x_iload (pc := 39) cx (dA ddX0_fillFor (i := 22) rfl) rfl ?_
          refine x_iconst (pc := 41) (v := nI 2) cx (dA ddX0_fillFor (i := 23) rfl) (by decide) ?_
          refine x_V2 (pc := 42) mX0_45 h0 (c_X0_sortNumber hH hV hB (by omega) (by omega)) cx (dA ddX0_fillFor (i := 24) rfl) (kI ?_)
          refine x_iload (pc := 45) cx (dA ddX0_fillFor (i := 25) rfl) rfl ?_
          refine x_icmp_ne (pc := 47) (tgt := 89) cx (dA ddX0_fillFor (i := 26) rfl) (by decide) (fun c47 => ?_) (fun c47 => ?_)
          · have c47 := ceqF (by omega) (by omega) c47
            have e5 : fillIn N s (9 - c) (k + 1) (fillOut N s c) = fillStep N s (9 - c) k (fillIn N s (9 - c) k (fillOut N s c)) := rfl
            refine x_iinc (pc := 89) cx (dA ddX0_fillFor (i := 50) rfl) rfl (iinc1 _) (by decide) rfl ?_
            refine x_goto (pc := 92) (tgt := 20) cx (dA ddX0_fillFor (i := 51) rfl) (by decide) ?_
            have ih3 := ih2 (by omega)
            rw [e5] at ih3
            unfold fillStep at ih3
            first
              | (rw [if_pos (by omega)] at ih3; exact x_enter ih3 ⟨.inr rfl, .inr rfl, .inr rfl, .inr rfl, .inr rfl, .inr rfl, trivial⟩)
              | (rw [if_neg (by omega)] at ih3; exact x_enter ih3 ⟨.inr rfl, .inr rfl, .inr rfl, .inr rfl, .inr rfl, .inr rfl, trivial⟩)
          · have c47 := ceqT (by omega) (by omega) c47
            refine x_iload (pc := 50) cx (dA ddX0_fillFor (i := 27) rfl) rfl ?_
            refine x_if_le (pc := 52) (tgt := 89) cx (dA ddX0_fillFor (i := 28) rfl) (by decide) (fun c52 => ?_) (fun c52 => ?_)
            · have c52 := cleT (b := 0) (by omega) (by omega) c52
              have e5 : fillIn N s (9 - c) (k + 1) (fillOut N s c) = fillStep N s (9 - c) k (fillIn N s (9 - c) k (fillOut N s c)) := rfl
              refine x_iinc (pc := 89) cx (dA ddX0_fillFor (i := 50) rfl) rfl (iinc1 _) (by decide) rfl ?_
              refine x_goto (pc := 92) (tgt := 20) cx (dA ddX0_fillFor (i := 51) rfl) (by decide) ?_
              have ih3 := ih2 (by omega)
              rw [e5] at ih3
              unfold fillStep at ih3
              first
                | (rw [if_pos (by omega)] at ih3; exact x_enter ih3 ⟨.inr rfl, .inr rfl, .inr rfl, .inr rfl, .inr rfl, .inr rfl, trivial⟩)
                | (rw [if_neg (by omega)] at ih3; exact x_enter ih3 ⟨.inr rfl, .inr rfl, .inr rfl, .inr rfl, .inr rfl, .inr rfl, trivial⟩)
            · have c52 := cleF (b := 0) (by omega) (by omega) c52
              refine x_iload_n (pc := 55) cx (dA ddX0_fillFor (i := 29) rfl) rfl ?_
              refine x_iload (pc := 56) cx (dA ddX0_fillFor (i := 30) rfl) rfl ?_
              refine x_SN2 (pc := 58) mX0_42 (c_X7_standing hs (by omega)) cx (dA ddX0_fillFor (i := 31) rfl) (kI ?_)
              refine x_iload_n (pc := 61) cx (dA ddX0_fillFor (i := 32) rfl) rfl ?_
              refine x_iload (pc := 62) cx (dA ddX0_fillFor (i := 33) rfl) rfl ?_
              refine x_idiv (pc := 64) cx (nI_ne0 (by omega) (by omega)) (dA ddX0_fillFor (i := 34) rfl) ?_
              rw [div32 (by omega) (by omega) (by omega)]
              have dl := dig_lt s k
              have ml : min (dig s k) ((fillIn N s (9 - c) k (fillOut N s c)).1 / N (5 + 5 * k + 0)) * N (5 + 5 * k + 0) ≤ (fillIn N s (9 - c) k (fillOut N s c)).1 := Nat.le_trans (Nat.mul_le_mul_right _ (Nat.min_le_right _ _)) (Nat.div_mul_le_self _ _)
              refine x_mmin (pc := 65) mX0_55.1 cx (dA ddX0_fillFor (i := 35) rfl) ?_
              rw [nI_min (by omega) (Nat.lt_of_le_of_lt (Nat.div_le_self _ _) (by omega))]
              refine x_istore (pc := 68) cx (dA ddX0_fillFor (i := 36) rfl) (by decide) rfl ?_
              refine x_iload_n (pc := 70) cx (dA ddX0_fillFor (i := 37) rfl) rfl ?_
              refine x_iload (pc := 71) cx (dA ddX0_fillFor (i := 38) rfl) rfl ?_
              refine x_iload (pc := 73) cx (dA ddX0_fillFor (i := 39) rfl) rfl ?_
              refine x_imul (pc := 75) cx (dA ddX0_fillFor (i := 40) rfl) ?_
              refine x_isub (pc := 76) cx (dA ddX0_fillFor (i := 41) rfl) ?_
              rw [nI_cmul, pk_sub ml]
              refine x_istore_n (pc := 77) cx (dA ddX0_fillFor (i := 42) rfl) (by decide) rfl ?_
              refine x_iload_n (pc := 78) cx (dA ddX0_fillFor (i := 43) rfl) rfl ?_
              refine x_iload (pc := 79) cx (dA ddX0_fillFor (i := 44) rfl) rfl ?_
              refine x_iload (pc := 81) cx (dA ddX0_fillFor (i := 45) rfl) rfl ?_
              refine x_SN1 (pc := 83) mX0_39 (c_X7_oneOf (by omega)) cx (dA ddX0_fillFor (i := 46) rfl) (kI ?_)
              refine x_imul (pc := 86) cx (dA ddX0_fillFor (i := 47) rfl) ?_
              refine x_iadd (pc := 87) cx (dA ddX0_fillFor (i := 48) rfl) ?_
              rw [nI_cmul, nI_add]
              refine x_istore_n (pc := 88) cx (dA ddX0_fillFor (i := 49) rfl) (by decide) rfl ?_
              have e5 : fillIn N s (9 - c) (k + 1) (fillOut N s c) = fillStep N s (9 - c) k (fillIn N s (9 - c) k (fillOut N s c)) := rfl
              refine x_iinc (pc := 89) cx (dA ddX0_fillFor (i := 50) rfl) rfl (iinc1 _) (by decide) rfl ?_
              refine x_goto (pc := 92) (tgt := 20) cx (dA ddX0_fillFor (i := 51) rfl) (by decide) ?_
              have ih3 := ih2 (by omega)
              rw [e5] at ih3
              unfold fillStep at ih3
              first
                | (rw [if_pos (by omega)] at ih3; exact x_enter ih3 ⟨.inr rfl, .inr rfl, .inr rfl, .inr rfl, .inr rfl, .inr rfl, trivial⟩)
                | (rw [if_neg (by omega)] at ih3; exact x_enter ih3 ⟨.inr rfl, .inr rfl, .inr rfl, .inr rfl, .inr rfl, .inr rfl, trivial⟩)
      exact x_enter (L20 0 (Nat.zero_le _)) ⟨.inr rfl, .inr rfl, .inr rfl, .inr rfl, .inr rfl, .inr rfl, trivial⟩
  exact x_enter (L12 0 (Nat.zero_le _) (nI 9) rfl) ⟨.inr rfl, .inr rfl, .inr rfl, .inr rfl, .inr rfl, trivial⟩
