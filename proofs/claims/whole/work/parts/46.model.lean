/-! THE REFERENCE at y -/
def A1 (Z : zP) (G : zG) (y f o t n : Nat) : Prop := G.2.2.1 f y = some (y + o) ∧ isA Z G (y + o) t n
def A2 (Z : zP) (G : zG) (y f o t r n : Nat) : Prop := G.2.2.1 f y = some (y + o) ∧ isA Z G (y + o) (6 + t) r ∧ ∀ i, i < r → G.2.2.2 (y + o) i = some (y + o + 1 + i) ∧ isA Z G (y + o + 1 + i) t n
def ModelAt (Z : zP) (G : zG) (y : Nat) : Prop := isK Z G y 8 ∧ A1 Z G y 400 1 1 8 ∧ A1 Z G y 401 2 1 8 ∧ A1 Z G y 402 3 1 8 ∧ A2 Z G y 403 4 2 8 125 ∧ A1 Z G y 404 13 2 125 ∧ A1 Z G y 405 14 1 10 ∧ A1 Z G y 406 15 1 10 ∧ A2 Z G y 407 16 1 10 125 ∧ A1 Z G y 408 27 1 160 ∧ A1 Z G y 410 28 1 8 ∧ A2 Z G y 412 29 1 8 20 ∧ A1 Z G y 422 38 1 10 ∧ A2 Z G y 428 39 2 7 125 ∧ A2 Z G y 429 47 1 7 125 ∧ A2 Z G y 430 55 2 7 125 ∧ A1 Z G y 431 63 2 8 ∧ A2 Z G y 432 64 1 8 125 ∧ A2 Z G y 433 73 1 8 125 ∧ A1 Z G y 434 82 1 125 ∧ A1 Z G y 435 83 1 125 ∧ A1 Z G y 436 84 1 125 ∧ A1 Z G y 437 85 2 125 ∧ A2 Z G y 438 86 2 7 125
/-- its row of a house, as far as it is told -/
def MH (V : zV) (y h : Nat) (N : Nat → Nat) : Prop := ∀ j, j < 5 + 5 * N 4 → V.2.2.1 (y + 29 + 1 + h) j = nI (N j)
theorem i64_lt {x y : Int64} : x < y ↔ x.toInt < y.toInt := Int64.lt_iff_toInt_lt
theorem i64_le {x y : Int64} : x ≤ y ↔ x.toInt ≤ y.toInt := Int64.le_iff_toInt_le
theorem l0_toInt : (lN 0).toInt = 0 := rfl
theorem tl_toInt (x : Int32) : x.toInt64.toInt = x.toInt := Int32.toInt_toInt64 x
theorem powI (b : Nat) : ∀ n, nI (b ^ n) * nI b = nI (b ^ (n + 1)) := fun n => by rw [nI_cmul, Nat.pow_succ]
theorem rf_neg {r : Int32} {i : Nat} (hi : i < 5) (hr : r.toInt = -2 - (i : Int)) : -r = nI (i + 2) := by
  have e : r = (-2 : Int32) - nI i := by
    rcases (show i = 0 ∨ i = 1 ∨ i = 2 ∨ i = 3 ∨ i = 4 by omega) with h | h | h | h | h <;> subst h <;> exact Int32.toInt_inj.mp (by rw [hr]; decide)
  rw [e]
  rcases (show i = 0 ∨ i = 1 ∨ i = 2 ∨ i = 3 ∨ i = 4 by omega) with h | h | h | h | h <;> subst h <;> decide
theorem c_X8_in {l : Launch} {Z : zP} {G : zG} {V : zV} {v a b : Int64} : CT l Z yX8_in cX8_in 6 (some .boolean) 0 0 0 [.long v, .long a, .long b] G V (pI (b2i (a.toInt ≤ v.toInt ∧ v.toInt ≤ b.toInt)) G V) := by
  refine CT.of (by decide +kernel) (Nat.le_of_ble_eq_true rfl) (fun X hX cx => ?_)
  subst hX
  show Wm Z X 6 G V 0 0 _ 0 [(0, some (.long v)), (2, some (.long a)), (4, some (.long b))] []
  refine x_lload_n (pc := 0) cx (dA ddX8_in (i := 0) rfl) rfl ?_
  refine x_lload_n (pc := 1) cx (dA ddX8_in (i := 1) rfl) rfl ?_
  refine x_lc_lt (pc := 2) (tgt := 17) cx (dA ddX8_in (i := 2) rfl) (dA ddX8_in (i := 3) rfl) (by decide) (fun c2 => ?_) (fun c2 => ?_)
  · refine x_iconst (pc := 17) (v := nI 0) cx (dA ddX8_in (i := 10) rfl) (by decide) ?_
    refine x_zreturn (pc := 18) cx (dA ddX8_in (i := 11) rfl) (by first | exact Nat.le_of_ble_eq_true rfl | omega) (by first | exact Nat.le_of_ble_eq_true rfl | omega) rfl ?_
    refine rI ?_
    (try simp only [i64_lt] at c2)
    (try simp only [i64_lt] at c9)
    first | exact (b2i_t (by omega)).symm | exact (b2i_f (by omega)).symm
  · refine x_lload_n (pc := 6) cx (dA ddX8_in (i := 4) rfl) rfl ?_
    refine x_lload (pc := 7) cx (dA ddX8_in (i := 5) rfl) rfl ?_
    refine x_lc_gt (pc := 9) (tgt := 17) cx (dA ddX8_in (i := 6) rfl) (dA ddX8_in (i := 7) rfl) (by decide) (fun c9 => ?_) (fun c9 => ?_)
    · refine x_iconst (pc := 17) (v := nI 0) cx (dA ddX8_in (i := 10) rfl) (by decide) ?_
      refine x_zreturn (pc := 18) cx (dA ddX8_in (i := 11) rfl) (by first | exact Nat.le_of_ble_eq_true rfl | omega) (by first | exact Nat.le_of_ble_eq_true rfl | omega) rfl ?_
      refine rI ?_
      (try simp only [i64_lt] at c2)
      (try simp only [i64_lt] at c9)
      first | exact (b2i_t (by omega)).symm | exact (b2i_f (by omega)).symm
    · refine x_iconst (pc := 13) (v := nI 1) cx (dA ddX8_in (i := 8) rfl) (by decide) ?_
      refine x_goto (pc := 14) (tgt := 18) cx (dA ddX8_in (i := 9) rfl) (by decide) ?_
      refine x_zreturn (pc := 18) cx (dA ddX8_in (i := 11) rfl) (by first | exact Nat.le_of_ble_eq_true rfl | omega) (by first | exact Nat.le_of_ble_eq_true rfl | omega) rfl ?_
      refine rI ?_
      (try simp only [i64_lt] at c2)
      (try simp only [i64_lt] at c9)
      first | exact (b2i_t (by omega)).symm | exact (b2i_f (by omega)).symm
theorem c_X8_power {l : Launch} {Z : zP} {G : zG} {V : zV} {b n : Nat} (hn : n < 100) : CT l Z yX8_power cX8_power 4 (some .int) 0 0 0 [.int (nI b), .int (nI n)] G V (pI (nI (b ^ n)) G V) := by
  refine CT.of (by decide +kernel) (Nat.le_of_ble_eq_true rfl) (fun X hX cx => ?_)
  subst hX
  show Wm Z X 4 G V 0 0 _ 0 [(0, some (.int (nI b))), (1, some (.int (nI n)))] []
  refine x_iconst (pc := 0) (v := nI 1) cx (dA ddX8_power (i := 0) rfl) (by decide) ?_
  refine x_istore_n (pc := 1) cx (dA ddX8_power (i := 1) rfl) (by decide) rfl ?_
  refine x_iconst (pc := 2) (v := nI 0) cx (dA ddX8_power (i := 2) rfl) (by decide) ?_
  refine x_istore_n (pc := 3) cx (dA ddX8_power (i := 3) rfl) (by decide) rfl ?_
  have L4 : ∀ i, i ≤ n → Wm Z X 4 G V 0 0 (rQ Z X 0 0 (pI (nI (b ^ n)) G V)) 4 [(0, some (.int (nI b))), (1, some (.int (nI n))), (2, some (.int (nI (b ^ i)))), (3, some (.int (nI i)))] [] := by
    refine lpU n (fun i hi ih => ?_)
    refine x_iload_n (pc := 4) cx (dA ddX8_power (i := 4) rfl) rfl ?_
    refine x_iload_n (pc := 5) cx (dA ddX8_power (i := 5) rfl) rfl ?_
    refine x_icmp_ge (pc := 6) (tgt := 19) cx (dA ddX8_power (i := 6) rfl) (by decide) (fun c6 => ?_) (fun c6 => ?_)
    · have c6 := cleT (by omega) (by omega) c6
      have ei : i = n := by omega
      subst ei
      refine x_iload_n (pc := 19) cx (dA ddX8_power (i := 13) rfl) rfl ?_
      refine x_ireturn (pc := 20) cx (dA ddX8_power (i := 14) rfl) (by first | exact Nat.le_of_ble_eq_true rfl | omega) (by first | exact Nat.le_of_ble_eq_true rfl | omega) ?_
      exact rI rfl
    · have c6 := cleF (by omega) (by omega) c6
      refine x_iload_n (pc := 9) cx (dA ddX8_power (i := 7) rfl) rfl ?_
      refine x_iload_n (pc := 10) cx (dA ddX8_power (i := 8) rfl) rfl ?_
      refine x_imul (pc := 11) cx (dA ddX8_power (i := 9) rfl) ?_
      rw [powI]
      refine x_istore_n (pc := 12) cx (dA ddX8_power (i := 10) rfl) (by decide) rfl ?_
      refine x_iinc (pc := 13) cx (dA ddX8_power (i := 11) rfl) rfl (iinc1 _) (by decide) rfl ?_
      refine x_goto (pc := 16) (tgt := 4) cx (dA ddX8_power (i := 12) rfl) (by decide) ?_
      exact x_enter (ih (by omega)) ⟨.inr rfl, .inr rfl, .inr rfl, .inr rfl, trivial⟩
  exact x_enter (L4 0 (Nat.zero_le _)) ⟨.inr rfl, .inr rfl, .inr rfl, .inr rfl, trivial⟩
theorem c_X8_isLetter {l : Launch} {Z : zP} {G : zG} {V : zV} {b : Nat} (hb : b < 256) : CT l Z yX8_isLetter cX8_isLetter 1 (some .boolean) 0 0 0 [.int (nI b)] G V (pI (b2i (97 ≤ b ∧ b ≤ 122)) G V) := by
  refine CT.of (by decide +kernel) (Nat.le_of_ble_eq_true rfl) (fun X hX cx => ?_)
  subst hX
  show Wm Z X 1 G V 0 0 _ 0 [(0, some (.int (nI b)))] []
  refine x_iload_n (pc := 0) cx (dA ddX8_isLetter (i := 0) rfl) rfl ?_
  refine x_bipush (pc := 1) (v := nI 97) cx (dA ddX8_isLetter (i := 1) rfl) (by decide) ?_
  refine x_icmp_lt (pc := 3) (tgt := 16) cx (dA ddX8_isLetter (i := 2) rfl) (by decide) (fun c3 => ?_) (fun c3 => ?_)
  · have c3 := cltT (by omega) (by omega) c3
    refine x_iconst (pc := 16) (v := nI 0) cx (dA ddX8_isLetter (i := 8) rfl) (by decide) ?_
    refine x_zreturn (pc := 17) cx (dA ddX8_isLetter (i := 9) rfl) (by first | exact Nat.le_of_ble_eq_true rfl | omega) (by first | exact Nat.le_of_ble_eq_true rfl | omega) rfl ?_
    refine rI ?_
    first | exact (b2i_t (by omega)).symm | exact (b2i_f (by omega)).symm
  · have c3 := cltF (by omega) (by omega) c3
    refine x_iload_n (pc := 6) cx (dA ddX8_isLetter (i := 3) rfl) rfl ?_
    refine x_bipush (pc := 7) (v := nI 122) cx (dA ddX8_isLetter (i := 4) rfl) (by decide) ?_
    refine x_icmp_gt (pc := 9) (tgt := 16) cx (dA ddX8_isLetter (i := 5) rfl) (by decide) (fun c9 => ?_) (fun c9 => ?_)
    · have c9 := cltT (by omega) (by omega) c9
      refine x_iconst (pc := 16) (v := nI 0) cx (dA ddX8_isLetter (i := 8) rfl) (by decide) ?_
      refine x_zreturn (pc := 17) cx (dA ddX8_isLetter (i := 9) rfl) (by first | exact Nat.le_of_ble_eq_true rfl | omega) (by first | exact Nat.le_of_ble_eq_true rfl | omega) rfl ?_
      refine rI ?_
      first | exact (b2i_t (by omega)).symm | exact (b2i_f (by omega)).symm
    · have c9 := cltF (by omega) (by omega) c9
      refine x_iconst (pc := 12) (v := nI 1) cx (dA ddX8_isLetter (i := 6) rfl) (by decide) ?_
      refine x_goto (pc := 13) (tgt := 17) cx (dA ddX8_isLetter (i := 7) rfl) (by decide) ?_
      refine x_zreturn (pc := 17) cx (dA ddX8_isLetter (i := 9) rfl) (by first | exact Nat.le_of_ble_eq_true rfl | omega) (by first | exact Nat.le_of_ble_eq_true rfl | omega) rfl ?_
      refine rI ?_
      first | exact (b2i_t (by omega)).symm | exact (b2i_f (by omega)).symm
theorem c_X8_isDigit {l : Launch} {Z : zP} {G : zG} {V : zV} {b : Nat} (hb : b < 256) : CT l Z yX8_isDigit cX8_isDigit 1 (some .boolean) 0 0 0 [.int (nI b)] G V (pI (b2i (48 ≤ b ∧ b ≤ 57)) G V) := by
  refine CT.of (by decide +kernel) (Nat.le_of_ble_eq_true rfl) (fun X hX cx => ?_)
  subst hX
  show Wm Z X 1 G V 0 0 _ 0 [(0, some (.int (nI b)))] []
  refine x_iload_n (pc := 0) cx (dA ddX8_isDigit (i := 0) rfl) rfl ?_
  refine x_bipush (pc := 1) (v := nI 48) cx (dA ddX8_isDigit (i := 1) rfl) (by decide) ?_
  refine x_icmp_lt (pc := 3) (tgt := 16) cx (dA ddX8_isDigit (i := 2) rfl) (by decide) (fun c3 => ?_) (fun c3 => ?_)
  · have c3 := cltT (by omega) (by omega) c3
    refine x_iconst (pc := 16) (v := nI 0) cx (dA ddX8_isDigit (i := 8) rfl) (by decide) ?_
    refine x_zreturn (pc := 17) cx (dA ddX8_isDigit (i := 9) rfl) (by first | exact Nat.le_of_ble_eq_true rfl | omega) (by first | exact Nat.le_of_ble_eq_true rfl | omega) rfl ?_
    refine rI ?_
    first | exact (b2i_t (by omega)).symm | exact (b2i_f (by omega)).symm
  · have c3 := cltF (by omega) (by omega) c3
    refine x_iload_n (pc := 6) cx (dA ddX8_isDigit (i := 3) rfl) rfl ?_
    refine x_bipush (pc := 7) (v := nI 57) cx (dA ddX8_isDigit (i := 4) rfl) (by decide) ?_
    refine x_icmp_gt (pc := 9) (tgt := 16) cx (dA ddX8_isDigit (i := 5) rfl) (by decide) (fun c9 => ?_) (fun c9 => ?_)
    · have c9 := cltT (by omega) (by omega) c9
      refine x_iconst (pc := 16) (v := nI 0) cx (dA ddX8_isDigit (i := 8) rfl) (by decide) ?_
      refine x_zreturn (pc := 17) cx (dA ddX8_isDigit (i := 9) rfl) (by first | exact Nat.le_of_ble_eq_true rfl | omega) (by first | exact Nat.le_of_ble_eq_true rfl | omega) rfl ?_
      refine rI ?_
      first | exact (b2i_t (by omega)).symm | exact (b2i_f (by omega)).symm
    · have c9 := cltF (by omega) (by omega) c9
      refine x_iconst (pc := 12) (v := nI 1) cx (dA ddX8_isDigit (i := 6) rfl) (by decide) ?_
      refine x_goto (pc := 13) (tgt := 17) cx (dA ddX8_isDigit (i := 7) rfl) (by decide) ?_
      refine x_zreturn (pc := 17) cx (dA ddX8_isDigit (i := 9) rfl) (by first | exact Nat.le_of_ble_eq_true rfl | omega) (by first | exact Nat.le_of_ble_eq_true rfl | omega) rfl ?_
      refine rI ?_
      first | exact (b2i_t (by omega)).symm | exact (b2i_f (by omega)).symm
theorem c_X8_ofState {l : Launch} {Z : zP} {G : zG} {V : zV} {s k : Nat} (hs : s < 125) (hk : k < 3) : CT l Z yX8_ofState cX8_ofState 2 (some .int) 1 0 0 [.int (nI s), .int (nI k)] G V (pI (nI (dig s k)) G V) := by
  refine CT.of (by decide +kernel) (Nat.le_of_ble_eq_true rfl) (fun X hX cx => ?_)
  subst hX
  show Wm Z X 2 G V 0 0 _ 0 [(0, some (.int (nI s))), (1, some (.int (nI k)))] []
  refine x_iload_n (pc := 0) cx (dA ddX8_ofState (i := 0) rfl) rfl ?_
  refine x_iconst (pc := 1) (v := nI 5) cx (dA ddX8_ofState (i := 1) rfl) (by decide) ?_
  refine x_iload_n (pc := 2) cx (dA ddX8_ofState (i := 2) rfl) rfl ?_
  refine x_S2 (pc := 3) mX8_102 (c_X8_power (by omega)) cx (dA ddX8_ofState (i := 3) rfl) (kI ?_)
  have p5 : 0 < 5 ^ k := Nat.pow_pos (by decide)
  have q5 : 5 ^ k ≤ 25 := Nat.le_trans (Nat.pow_le_pow_right (by decide) (show k ≤ 2 by omega)) (by decide)
  refine x_idiv (pc := 6) cx (nI_ne0 p5 (by omega)) (dA ddX8_ofState (i := 4) rfl) ?_
  refine x_iconst (pc := 7) (v := nI 5) cx (dA ddX8_ofState (i := 5) rfl) (by decide) ?_
  rw [div32 (by omega) p5 (by omega)]
  refine x_irem (pc := 8) cx (by decide) (dA ddX8_ofState (i := 6) rfl) ?_
  have dl := Nat.div_le_self s (5 ^ k)
  rw [rem32 (by omega) (by omega) (by omega)]
  refine x_ireturn (pc := 9) cx (dA ddX8_ofState (i := 7) rfl) (by first | exact Nat.le_of_ble_eq_true rfl | omega) (by first | exact Nat.le_of_ble_eq_true rfl | omega) ?_
  exact rI rfl
theorem c_X8_sorts {l : Launch} {Z : zP} {G : zG} {V : zV} {y : Nat} (hM : ModelAt Z G y) {h : Nat} (hh : h < 8) {N : Nat → Nat} (hR : MH V y h N) (hB : HouseB N) : CT l Z yX8_sorts cX8_sorts 2 (some .int) 0 0 0 [.ref y, .int (nI h)] G V (pI (nI (N 4)) G V) := by
  refine CT.of (by decide +kernel) (Nat.le_of_ble_eq_true rfl) (fun X hX cx => ?_)
  subst hX
  show Wm Z X 2 G V 0 0 _ 0 [(0, some (.ref y)), (1, some (.int (nI h)))] []
  have h0 := hM.1
  refine x_aload_n (pc := 0) cx (dA ddX8_sorts (i := 0) rfl) rfl ?_
  refine gX8_45 (pc := 1) (rfA hM.2.2.2.2.2.2.2.2.2.2.2.1.1) cx (dA ddX8_sorts (i := 1) rfl) h0 ?_
  refine x_iload_n (pc := 4) cx (dA ddX8_sorts (i := 2) rfl) rfl ?_
  refine x_aaload (pc := 5) cx (dA ddX8_sorts (i := 3) rfl) hM.2.2.2.2.2.2.2.2.2.2.2.1.2.1 (by decide) (by decide) hh (by decide) ?_
  rw [arA (hM.2.2.2.2.2.2.2.2.2.2.2.1.2.2 h hh).1]
  refine x_iconst (pc := 6) (v := nI 4) cx (dA ddX8_sorts (i := 4) rfl) (by decide) ?_
  refine x_iaload (pc := 7) cx (dA ddX8_sorts (i := 5) rfl) (hM.2.2.2.2.2.2.2.2.2.2.2.1.2.2 h hh).2 (by decide) (by decide) ?_
  rw [hR 4 (by omega)]
  refine x_ireturn (pc := 8) cx (dA ddX8_sorts (i := 6) rfl) (by first | exact Nat.le_of_ble_eq_true rfl | omega) (by first | exact Nat.le_of_ble_eq_true rfl | omega) ?_
  exact rI rfl
theorem c_X8_states {l : Launch} {Z : zP} {G : zG} {V : zV} {y : Nat} (hM : ModelAt Z G y) {h : Nat} (hh : h < 8) {N : Nat → Nat} (hR : MH V y h N) (hB : HouseB N) : CT l Z yX8_states cX8_states 2 (some .int) 1 0 0 [.ref y, .int (nI h)] G V (pI (nI (5 ^ N 4)) G V) := by
  refine CT.of (by decide +kernel) (Nat.le_of_ble_eq_true rfl) (fun X hX cx => ?_)
  subst hX
  show Wm Z X 2 G V 0 0 _ 0 [(0, some (.ref y)), (1, some (.int (nI h)))] []
  have h0 := hM.1
  refine x_iconst (pc := 0) (v := nI 5) cx (dA ddX8_states (i := 0) rfl) (by decide) ?_
  refine x_aload_n (pc := 1) cx (dA ddX8_states (i := 1) rfl) rfl ?_
  refine x_iload_n (pc := 2) cx (dA ddX8_states (i := 2) rfl) rfl ?_
  refine x_V1 (pc := 3) mX8_98 h0 (c_X8_sorts hM hh hR hB) cx (dA ddX8_states (i := 3) rfl) (kI ?_)
  refine x_S2 (pc := 6) mX8_102 (c_X8_power (by have := hB.1; omega)) cx (dA ddX8_states (i := 4) rfl) (kI ?_)
  refine x_ireturn (pc := 9) cx (dA ddX8_states (i := 5) rfl) (by first | exact Nat.le_of_ble_eq_true rfl | omega) (by first | exact Nat.le_of_ble_eq_true rfl | omega) ?_
  exact rI rfl
theorem c_X8_numberOf {l : Launch} {Z : zP} {G : zG} {V : zV} {y : Nat} (hM : ModelAt Z G y) {h : Nat} (hh : h < 8) {N : Nat → Nat} (hR : MH V y h N) (hB : HouseB N) {k w : Nat} (hk : k < N 4) (hw : w < 5) : CT l Z yX8_numberOf cX8_numberOf 4 (some .int) 0 0 0 [.ref y, .int (nI h), .int (nI k), .int (nI w)] G V (pI (nI (N (5 + 5 * k + w))) G V) := by
  refine CT.of (by decide +kernel) (Nat.le_of_ble_eq_true rfl) (fun X hX cx => ?_)
  subst hX
  show Wm Z X 4 G V 0 0 _ 0 [(0, some (.ref y)), (1, some (.int (nI h))), (2, some (.int (nI k))), (3, some (.int (nI w)))] []
  have h0 := hM.1
  have b4 := hB.1
  refine x_aload_n (pc := 0) cx (dA ddX8_numberOf (i := 0) rfl) rfl ?_
  refine gX8_45 (pc := 1) (rfA hM.2.2.2.2.2.2.2.2.2.2.2.1.1) cx (dA ddX8_numberOf (i := 1) rfl) h0 ?_
  refine x_iload_n (pc := 4) cx (dA ddX8_numberOf (i := 2) rfl) rfl ?_
  refine x_aaload (pc := 5) cx (dA ddX8_numberOf (i := 3) rfl) hM.2.2.2.2.2.2.2.2.2.2.2.1.2.1 (by decide) (by decide) hh (by decide) ?_
  rw [arA (hM.2.2.2.2.2.2.2.2.2.2.2.1.2.2 h hh).1]
  refine x_iconst (pc := 6) (v := nI 5) cx (dA ddX8_numberOf (i := 4) rfl) (by decide) ?_
  refine x_iconst (pc := 7) (v := nI 5) cx (dA ddX8_numberOf (i := 5) rfl) (by decide) ?_
  refine x_iload_n (pc := 8) cx (dA ddX8_numberOf (i := 6) rfl) rfl ?_
  refine x_imul (pc := 9) cx (dA ddX8_numberOf (i := 7) rfl) ?_
  refine x_iadd (pc := 10) cx (dA ddX8_numberOf (i := 8) rfl) ?_
  refine x_iload_n (pc := 11) cx (dA ddX8_numberOf (i := 9) rfl) rfl ?_
  refine x_iadd (pc := 12) cx (dA ddX8_numberOf (i := 10) rfl) ?_
  rw [nI_cmul, nI_add, nI_add]
  refine x_iaload (pc := 13) cx (dA ddX8_numberOf (i := 11) rfl) (hM.2.2.2.2.2.2.2.2.2.2.2.1.2.2 h hh).2 (by omega) (by decide) ?_
  rw [hR _ (by omega)]
  refine x_ireturn (pc := 14) cx (dA ddX8_numberOf (i := 12) rfl) (by first | exact Nat.le_of_ble_eq_true rfl | omega) (by first | exact Nat.le_of_ble_eq_true rfl | omega) ?_
  exact rI rfl
theorem c_X8_sum {l : Launch} {Z : zP} {G : zG} {V : zV} {y : Nat} (hM : ModelAt Z G y) {h : Nat} (hh : h < 8) {N : Nat → Nat} (hR : MH V y h N) (hB : HouseB N) {s w : Nat} (hs : s < 125) (hw : w < 5) : CT l Z yX8_sum cX8_sum 6 (some .int) 2 0 0 [.ref y, .int (nI h), .int (nI s), .int (nI w)] G V (pI (nI (sumP N s w)) G V) := by
  refine CT.of (by decide +kernel) (Nat.le_of_ble_eq_true rfl) (fun X hX cx => ?_)
  subst hX
  show Wm Z X 6 G V 0 0 _ 0 [(0, some (.ref y)), (1, some (.int (nI h))), (2, some (.int (nI s))), (3, some (.int (nI w)))] []
  have h0 := hM.1
  have b4 := hB.1
  refine x_iconst (pc := 0) (v := nI 0) cx (dA ddX8_sum (i := 0) rfl) (by decide) ?_
  refine x_istore (pc := 1) cx (dA ddX8_sum (i := 1) rfl) (by decide) rfl ?_
  refine x_iconst (pc := 3) (v := nI 0) cx (dA ddX8_sum (i := 2) rfl) (by decide) ?_
  refine x_istore (pc := 4) cx (dA ddX8_sum (i := 3) rfl) (by decide) rfl ?_
  have L6 : ∀ k, k ≤ N 4 → Wm Z X 6 G V 0 0 (rQ Z X 0 0 (pI (nI (sumP N s w)) G V)) 6 [(0, some (.ref y)), (1, some (.int (nI h))), (2, some (.int (nI s))), (3, some (.int (nI w))), (4, some (.int (nI (sumN k (fun k => dig s k * N (5 + 5 * k + w)))))), (5, some (.int (nI k)))] [] := by
    refine lpU (N 4) (fun k hk ih => ?_)
    refine x_iload (pc := 6) cx (dA ddX8_sum (i := 4) rfl) rfl ?_
    refine x_aload_n (pc := 8) cx (dA ddX8_sum (i := 5) rfl) rfl ?_
    refine x_iload_n (pc := 9) cx (dA ddX8_sum (i := 6) rfl) rfl ?_
    refine x_V1 (pc := 10) mX8_98 h0 (c_X8_sorts hM hh hR hB) cx (dA ddX8_sum (i := 7) rfl) (kI ?_)
    refine x_icmp_ge (pc := 13) (tgt := 42) cx (dA ddX8_sum (i := 8) rfl) (by decide) (fun c13 => ?_) (fun c13 => ?_)
    · have c13 := cleT (by omega) (by omega) c13
      have ek : k = N 4 := by omega
      subst ek
      refine x_iload (pc := 42) cx (dA ddX8_sum (i := 23) rfl) rfl ?_
      refine x_ireturn (pc := 44) cx (dA ddX8_sum (i := 24) rfl) (by first | exact Nat.le_of_ble_eq_true rfl | omega) (by first | exact Nat.le_of_ble_eq_true rfl | omega) ?_
      exact rI rfl
    · have c13 := cleF (by omega) (by omega) c13
      refine x_iload (pc := 16) cx (dA ddX8_sum (i := 9) rfl) rfl ?_
      refine x_iload_n (pc := 18) cx (dA ddX8_sum (i := 10) rfl) rfl ?_
      refine x_iload (pc := 19) cx (dA ddX8_sum (i := 11) rfl) rfl ?_
      refine x_S2 (pc := 21) mX8_226 (c_X8_ofState hs (by omega)) cx (dA ddX8_sum (i := 12) rfl) (kI ?_)
      refine x_aload_n (pc := 24) cx (dA ddX8_sum (i := 13) rfl) rfl ?_
      refine x_iload_n (pc := 25) cx (dA ddX8_sum (i := 14) rfl) rfl ?_
      refine x_iload (pc := 26) cx (dA ddX8_sum (i := 15) rfl) rfl ?_
      refine x_iload_n (pc := 28) cx (dA ddX8_sum (i := 16) rfl) rfl ?_
      refine x_V3 (pc := 29) mX8_229 h0 (c_X8_numberOf hM hh hR hB c13 hw) cx (dA ddX8_sum (i := 17) rfl) (kI ?_)
      refine x_imul (pc := 32) cx (dA ddX8_sum (i := 18) rfl) ?_
      refine x_iadd (pc := 33) cx (dA ddX8_sum (i := 19) rfl) ?_
      rw [nI_cmul, nI_add]
      refine x_istore (pc := 34) cx (dA ddX8_sum (i := 20) rfl) (by decide) rfl ?_
      refine x_iinc (pc := 36) cx (dA ddX8_sum (i := 21) rfl) rfl (iinc1 _) (by decide) rfl ?_
      refine x_goto (pc := 39) (tgt := 6) cx (dA ddX8_sum (i := 22) rfl) (by decide) ?_
      exact x_enter (ih (by omega)) ⟨.inr rfl, .inr rfl, .inr rfl, .inr rfl, .inr rfl, .inr rfl, trivial⟩
  exact x_enter (L6 0 (Nat.zero_le _)) ⟨.inr rfl, .inr rfl, .inr rfl, .inr rfl, .inr rfl, .inr rfl, trivial⟩
theorem c_X8_scaleOf {l : Launch} {Z : zP} {G : zG} {V : zV} {y : Nat} (hM : ModelAt Z G y) {h : Nat} (hh : h < 8) {N : Nat → Nat} (hR : MH V y h N) (hB : HouseB N) {d : Nat} (hd : d ≤ 6) : CT l Z yX8_scaleOf cX8_scaleOf 6 (some .long) 1 0 0 [.ref y, .int (nI h), .int (nI d)] G V (pJ (lN (sclP N d)) G V) := by
  refine CT.of (by decide +kernel) (Nat.le_of_ble_eq_true rfl) (fun X hX cx => ?_)
  subst hX
  show Wm Z X 6 G V 0 0 _ 0 [(0, some (.ref y)), (1, some (.int (nI h))), (2, some (.int (nI d)))] []
  have h0 := hM.1
  have b4 := hB.1
  have d24 := dD24 b4 hd
  refine x_lconst (pc := 0) (v := lN 1) cx (dA ddX8_scaleOf (i := 0) rfl) rfl ?_
  refine x_lstore_n (pc := 1) cx (dA ddX8_scaleOf (i := 1) rfl) (by decide) rfl ?_
  refine x_iconst (pc := 2) (v := nI 0) cx (dA ddX8_scaleOf (i := 2) rfl) (by decide) ?_
  refine x_istore (pc := 3) cx (dA ddX8_scaleOf (i := 3) rfl) (by decide) rfl ?_
  have L5 : ∀ i, i ≤ d * (1 + N 4) → Wm Z X 6 G V 0 0 (rQ Z X 0 0 (pJ (lN (sclP N d)) G V)) 5 [(0, some (.ref y)), (1, some (.int (nI h))), (2, some (.int (nI d))), (3, some (.long (lN (4 ^ i)))), (5, some (.int (nI i)))] [] := by
    refine lpU (d * (1 + N 4)) (fun i hi ih => ?_)
    refine x_iload (pc := 5) cx (dA ddX8_scaleOf (i := 4) rfl) rfl ?_
    refine x_iload_n (pc := 7) cx (dA ddX8_scaleOf (i := 5) rfl) rfl ?_
    refine x_iconst (pc := 8) (v := nI 1) cx (dA ddX8_scaleOf (i := 6) rfl) (by decide) ?_
    refine x_aload_n (pc := 9) cx (dA ddX8_scaleOf (i := 7) rfl) rfl ?_
    refine x_iload_n (pc := 10) cx (dA ddX8_scaleOf (i := 8) rfl) rfl ?_
    refine x_V1 (pc := 11) mX8_98 h0 (c_X8_sorts hM hh hR hB) cx (dA ddX8_scaleOf (i := 9) rfl) (kI ?_)
    refine x_iadd (pc := 14) cx (dA ddX8_scaleOf (i := 10) rfl) ?_
    refine x_imul (pc := 15) cx (dA ddX8_scaleOf (i := 11) rfl) ?_
    rw [nI_add, nI_cmul]
    refine x_icmp_ge (pc := 16) (tgt := 31) cx (dA ddX8_scaleOf (i := 12) rfl) (by decide) (fun c16 => ?_) (fun c16 => ?_)
    · have c16 := cleT (by omega) (by omega) c16
      have ei : i = d * (1 + N 4) := by omega
      subst ei
      refine x_lload_n (pc := 31) cx (dA ddX8_scaleOf (i := 19) rfl) rfl ?_
      refine x_lreturn (pc := 32) cx (dA ddX8_scaleOf (i := 20) rfl) (by first | exact Nat.le_of_ble_eq_true rfl | omega) (by first | exact Nat.le_of_ble_eq_true rfl | omega) ?_
      exact rJ rfl
    · have c16 := cleF (by omega) (by omega) c16
      refine x_lload_n (pc := 19) cx (dA ddX8_scaleOf (i := 13) rfl) rfl ?_
      refine x_ldc2 (pc := 20) cx klX8_115 (dA ddX8_scaleOf (i := 14) rfl) ?_
      refine x_lmul (pc := 23) cx (dA ddX8_scaleOf (i := 15) rfl) ?_
      rw [lN_mul, ← Nat.pow_succ]
      refine x_lstore_n (pc := 24) cx (dA ddX8_scaleOf (i := 16) rfl) (by decide) rfl ?_
      refine x_iinc (pc := 25) cx (dA ddX8_scaleOf (i := 17) rfl) rfl (iinc1 _) (by decide) rfl ?_
      refine x_goto (pc := 28) (tgt := 5) cx (dA ddX8_scaleOf (i := 18) rfl) (by decide) ?_
      exact x_enter (ih (by omega)) ⟨.inr rfl, .inr rfl, .inr rfl, .inr rfl, .inr rfl, trivial⟩
  exact x_enter (L5 0 (Nat.zero_le _)) ⟨.inr rfl, .inr rfl, .inr rfl, .inr rfl, .inr rfl, trivial⟩
theorem c_X8_boxOf {l : Launch} {Z : zP} {G : zG} {V : zV} {y : Nat} (hM : ModelAt Z G y) {h : Nat} (hh : h < 8) {N : Nat → Nat} (hR : MH V y h N) (hB : HouseB N) {d : Nat} (h1 : 1 ≤ d) (hd : d ≤ 6) : CT l Z yX8_boxOf cX8_boxOf 3 (some .long) 2 0 0 [.ref y, .int (nI h), .int (nI d)] G V (pJ (lN (boxP N d)) G V) := by
  refine CT.of (by decide +kernel) (Nat.le_of_ble_eq_true rfl) (fun X hX cx => ?_)
  subst hX
  show Wm Z X 3 G V 0 0 _ 0 [(0, some (.ref y)), (1, some (.int (nI h))), (2, some (.int (nI d)))] []
  have h0 := hM.1
  have b4 := hB.1
  have p4 : 4 ^ N 4 ≤ 64 := Nat.le_trans (Nat.pow_le_pow_right (by decide) b4) (by decide)
  refine x_aload_n (pc := 0) cx (dA ddX8_boxOf (i := 0) rfl) rfl ?_
  refine gX8_45 (pc := 1) (rfA hM.2.2.2.2.2.2.2.2.2.2.2.1.1) cx (dA ddX8_boxOf (i := 1) rfl) h0 ?_
  refine x_iload_n (pc := 4) cx (dA ddX8_boxOf (i := 2) rfl) rfl ?_
  refine x_aaload (pc := 5) cx (dA ddX8_boxOf (i := 3) rfl) hM.2.2.2.2.2.2.2.2.2.2.2.1.2.1 (by decide) (by decide) hh (by decide) ?_
  rw [arA (hM.2.2.2.2.2.2.2.2.2.2.2.1.2.2 h hh).1]
  refine x_iconst (pc := 6) (v := nI 1) cx (dA ddX8_boxOf (i := 4) rfl) (by decide) ?_
  refine x_iaload (pc := 7) cx (dA ddX8_boxOf (i := 5) rfl) (hM.2.2.2.2.2.2.2.2.2.2.2.1.2.2 h hh).2 (by decide) (by decide) ?_
  rw [hR 1 (by omega)]
  refine x_i2l (pc := 8) cx (dA ddX8_boxOf (i := 6) rfl) ?_
  rw [nI_l (nI20 (hB.2 1 (by omega)))]
  refine x_iconst (pc := 9) (v := nI 4) cx (dA ddX8_boxOf (i := 7) rfl) (by decide) ?_
  refine x_aload_n (pc := 10) cx (dA ddX8_boxOf (i := 8) rfl) rfl ?_
  refine x_iload_n (pc := 11) cx (dA ddX8_boxOf (i := 9) rfl) rfl ?_
  refine x_V1 (pc := 12) mX8_98 h0 (c_X8_sorts hM hh hR hB) cx (dA ddX8_boxOf (i := 10) rfl) (kI ?_)
  refine x_S2 (pc := 15) mX8_102 (c_X8_power (by omega)) cx (dA ddX8_boxOf (i := 11) rfl) (kI ?_)
  refine x_i2l (pc := 18) cx (dA ddX8_boxOf (i := 12) rfl) ?_
  rw [nI_l (by omega)]
  refine x_lmul (pc := 19) cx (dA ddX8_boxOf (i := 13) rfl) ?_
  refine x_aload_n (pc := 20) cx (dA ddX8_boxOf (i := 14) rfl) rfl ?_
  refine x_iload_n (pc := 21) cx (dA ddX8_boxOf (i := 15) rfl) rfl ?_
  refine x_iload_n (pc := 22) cx (dA ddX8_boxOf (i := 16) rfl) rfl ?_
  refine x_iconst (pc := 23) (v := nI 1) cx (dA ddX8_boxOf (i := 17) rfl) (by decide) ?_
  refine x_isub (pc := 24) cx (dA ddX8_boxOf (i := 18) rfl) ?_
  rw [pk_sub h1]
  refine x_V2 (pc := 25) mX8_242 h0 (c_X8_scaleOf hM hh hR hB (d := d - 1) (by omega)) cx (dA ddX8_boxOf (i := 19) rfl) (kJ ?_)
  refine x_lmul (pc := 28) cx (dA ddX8_boxOf (i := 20) rfl) ?_
  rw [lN_mul, lN_mul, show N 1 * 4 ^ N 4 * sclP N (d - 1) = boxP N d from by unfold boxP; rw [(scl_s h1).2, Nat.mul_comm (sclP N (d - 1)), Nat.mul_assoc]]
  refine x_lreturn (pc := 29) cx (dA ddX8_boxOf (i := 21) rfl) (by first | exact Nat.le_of_ble_eq_true rfl | omega) (by first | exact Nat.le_of_ble_eq_true rfl | omega) ?_
  exact rJ rfl
theorem c_X8_seed {l : Launch} {Z : zP} {G : zG} {V : zV} {y : Nat} (hM : ModelAt Z G y) {v : Int32} : CT l Z yX8_seed cX8_seed 3 (some .int) 0 0 0 [.ref y, .int v] G V (pI (V.1 413 y) G (sI V 413 y v)) := by
  refine CT.of (by decide +kernel) (Nat.le_of_ble_eq_true rfl) (fun X hX cx => ?_)
  subst hX
  show Wm Z X 3 G V 0 0 _ 0 [(0, some (.ref y)), (1, some (.int v))] []
  have h0 := hM.1
  refine x_aload_n (pc := 0) cx (dA ddX8_seed (i := 0) rfl) rfl ?_
  refine gX8_48 (pc := 1) rfl cx (dA ddX8_seed (i := 1) rfl) h0 ?_
  refine x_istore_n (pc := 4) cx (dA ddX8_seed (i := 2) rfl) (by decide) rfl ?_
  refine x_aload_n (pc := 5) cx (dA ddX8_seed (i := 3) rfl) rfl ?_
  refine x_iload_n (pc := 6) cx (dA ddX8_seed (i := 4) rfl) rfl ?_
  refine pX8_48 (pc := 7)  cx (dA ddX8_seed (i := 5) rfl) h0 ?_
  refine x_iload_n (pc := 10) cx (dA ddX8_seed (i := 6) rfl) rfl ?_
  refine x_ireturn (pc := 11) cx (dA ddX8_seed (i := 7) rfl) (by first | exact Nat.le_of_ble_eq_true rfl | omega) (by first | exact Nat.le_of_ble_eq_true rfl | omega) ?_
  exact ⟨rfl, rfl, rfl⟩
theorem c_X8_draw {l : Launch} {Z : zP} {G : zG} {V : zV} {y : Nat} (hM : ModelAt Z G y) {d : Int32} (hd : V.1 413 y = d) : CT l Z yX8_draw cX8_draw 1 (some .int) 0 0 0 [.ref y] G V (pI (nI (dvl (drw d))) G (sI V 413 y (drw d))) := by
  refine CT.of (by decide +kernel) (Nat.le_of_ble_eq_true rfl) (fun X hX cx => ?_)
  subst hX
  show Wm Z X 1 G V 0 0 _ 0 [(0, some (.ref y))] []
  have h0 := hM.1
  refine x_aload_n (pc := 0) cx (dA ddX8_draw (i := 0) rfl) rfl ?_
  refine x_aload_n (pc := 1) cx (dA ddX8_draw (i := 1) rfl) rfl ?_
  refine gX8_48 (pc := 2) (congrArg Value.int hd) cx (dA ddX8_draw (i := 2) rfl) h0 ?_
  refine x_ldc_w (pc := 5) cx kcX8_330 (dA ddX8_draw (i := 3) rfl) ?_
  refine x_imul (pc := 8) cx (dA ddX8_draw (i := 4) rfl) ?_
  refine x_sipush (pc := 9) (v := nI 12345) cx (dA ddX8_draw (i := 5) rfl) (by decide) ?_
  refine x_iadd (pc := 12) cx (dA ddX8_draw (i := 6) rfl) ?_
  rw [show d * nI 1103515245 + nI 12345 = drw d from rfl]
  refine pX8_48 (pc := 13)  cx (dA ddX8_draw (i := 7) rfl) h0 ?_
  refine x_aload_n (pc := 16) cx (dA ddX8_draw (i := 8) rfl) rfl ?_
  refine gX8_48 (pc := 17) (congrArg Value.int sI_eq) cx (dA ddX8_draw (i := 9) rfl) h0 ?_
  refine x_bipush (pc := 20) (v := nI 16) cx (dA ddX8_draw (i := 10) rfl) (by decide) ?_
  refine x_iushr (pc := 22) cx (dA ddX8_draw (i := 11) rfl) ?_
  rw [ush16]
  refine x_iconst (pc := 23) (v := nI 4) cx (dA ddX8_draw (i := 12) rfl) (by decide) ?_
  refine x_irem (pc := 24) cx (by decide) (dA ddX8_draw (i := 13) rfl) ?_
  have h32 := (drw d).toUInt32.toNat_lt
  rw [rem32 (by omega) (by omega) (by omega)]
  refine x_ireturn (pc := 25) cx (dA ddX8_draw (i := 14) rfl) (by first | exact Nat.le_of_ble_eq_true rfl | omega) (by first | exact Nat.le_of_ble_eq_true rfl | omega) ?_
  exact rI rfl
theorem c_X8_wipe {l : Launch} {Z : zP} {G : zG} {V : zV} {y : Nat} (hM : ModelAt Z G y) {S : Nat} (hS : V.1 409 y = nI S) : CT l Z yX8_wipe cX8_wipe 2 (some .int) 0 0 0 [.ref y] G V (pI (nI S) G (sI V 409 y (nI 0))) := by
  refine CT.of (by decide +kernel) (Nat.le_of_ble_eq_true rfl) (fun X hX cx => ?_)
  subst hX
  show Wm Z X 2 G V 0 0 _ 0 [(0, some (.ref y))] []
  have h0 := hM.1
  refine x_aload_n (pc := 0) cx (dA ddX8_wipe (i := 0) rfl) rfl ?_
  refine gX8_136 (pc := 1) (congrArg Value.int hS) cx (dA ddX8_wipe (i := 1) rfl) h0 ?_
  refine x_istore_n (pc := 4) cx (dA ddX8_wipe (i := 2) rfl) (by decide) rfl ?_
  refine x_aload_n (pc := 5) cx (dA ddX8_wipe (i := 3) rfl) rfl ?_
  refine x_iconst (pc := 6) (v := nI 0) cx (dA ddX8_wipe (i := 4) rfl) (by decide) ?_
  refine pX8_136 (pc := 7)  cx (dA ddX8_wipe (i := 5) rfl) h0 ?_
  refine x_iload_n (pc := 10) cx (dA ddX8_wipe (i := 6) rfl) rfl ?_
  refine x_ireturn (pc := 11) cx (dA ddX8_wipe (i := 7) rfl) (by first | exact Nat.le_of_ble_eq_true rfl | omega) (by first | exact Nat.le_of_ble_eq_true rfl | omega) ?_
  exact ⟨rfl, rfl, rfl⟩
theorem c_X8_refuse {l : Launch} {Z : zP} {G : zG} {V : zV} {y : Nat} (hM : ModelAt Z G y) {r : Int32} {i : Nat} (hi : i < 5) (hr : r.toInt = -2 - (i : Int)) : CT l Z yX8_refuse cX8_refuse 2 (some .int) 0 0 0 [.ref y, .int r] G V (pI r G (sAI V (y + 28) (i + 2) (V.2.2.1 (y + 28) (i + 2) + nI 1))) := by
  refine CT.of (by decide +kernel) (Nat.le_of_ble_eq_true rfl) (fun X hX cx => ?_)
  subst hX
  show Wm Z X 2 G V 0 0 _ 0 [(0, some (.ref y)), (1, some (.int r))] []
  have h0 := hM.1
  refine x_aload_n (pc := 0) cx (dA ddX8_refuse (i := 0) rfl) rfl ?_
  refine gX8_42 (pc := 1) (rfA hM.2.2.2.2.2.2.2.2.2.2.1.1) cx (dA ddX8_refuse (i := 1) rfl) h0 ?_
  refine x_iload_n (pc := 4) cx (dA ddX8_refuse (i := 2) rfl) rfl ?_
  refine x_ineg (pc := 5) cx (dA ddX8_refuse (i := 3) rfl) ?_
  rw [rf_neg hi hr]
  refine x_dup2 (pc := 6) cx rfl rfl (dA ddX8_refuse (i := 4) rfl) ?_
  refine x_iaload (pc := 7) cx (dA ddX8_refuse (i := 5) rfl) hM.2.2.2.2.2.2.2.2.2.2.1.2 (by omega) (by decide) ?_
  refine x_iconst (pc := 8) (v := nI 1) cx (dA ddX8_refuse (i := 6) rfl) (by decide) ?_
  refine x_iadd (pc := 9) cx (dA ddX8_refuse (i := 7) rfl) ?_
  refine x_iastore (pc := 10) cx (dA ddX8_refuse (i := 8) rfl) hM.2.2.2.2.2.2.2.2.2.2.1.2 (by omega) (by decide) ?_
  refine x_iload_n (pc := 11) cx (dA ddX8_refuse (i := 9) rfl) rfl ?_
  refine x_ireturn (pc := 12) cx (dA ddX8_refuse (i := 10) rfl) (by first | exact Nat.le_of_ble_eq_true rfl | omega) (by first | exact Nat.le_of_ble_eq_true rfl | omega) ?_
  exact ⟨rfl, rfl, rfl⟩
