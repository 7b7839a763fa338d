theorem zs_link : Cond.methodLink RX2 35 arraycopyName ∈ WA := wa (tt3 (j := 109) rfl) rfl
theorem zs_stat : Cond.static arraycopyName ∈ WA := wa (tt3 (j := 110) rfl) rfl
theorem zs_init : Cond.initialized "java/lang/System" ∈ WA := wa (tt1 (j := 13) rfl) rfl
/-! ROWS -/
def RowAt (Z : zP) (G : zG) (r m : Nat) : Prop := isK Z G r 2 ∧ G.2.2.1 101 r = some (r + 1) ∧ isA Z G (r + 1) 2 m ∧ m ≤ 125
/-- what an element keeps -/
def lowP (t : Nat) (v : Int64) : Int64 := match t with
  | 0 => v.toInt32.toInt8.toInt32.toInt64
  | 1 => v.toInt32.toInt16.toInt32.toInt64
  | 2 => v.toInt32.toInt64
  | 4 => if v = lN 0 then lN 0 else lN 1
  | _ => v
theorem isK_at {Z : zP} {G : zG} {c : Nat} (h : Z.1 ≤ G.1) : isK Z (nG G c 0) G.1 c := ⟨h, Nat.lt_succ_self _, by show (va_up G.2.1 G.1 (c, 0) G.1).1 = c; rw [va_up_self]⟩
theorem isA_at {Z : zP} {G : zG} {t m : Nat} (h : Z.1 ≤ G.1) : isA Z (nG G (9 + t) m) G.1 t m := ⟨h, Nat.lt_succ_self _, by show va_up G.2.1 G.1 (9 + t, m) G.1 = _; rw [va_up_self]⟩
theorem RowAt.new {Z : zP} {G : zG} {m : Nat} (h : Z.1 ≤ G.1) (hm : m ≤ 125) : RowAt Z (sR (nG (nG G 2 0) (9 + 2) m) 101 G.1 (some (G.1 + 1))) G.1 m :=
  ⟨isK_nG (t := 9 + 2) (m := m) (isK_at h), u2_same _ _ _ _, isA_at (G := nG G 2 0) (t := 2) (Nat.le_succ_of_le h), hm⟩
theorem RowAt.old {Z : zP} {G : zG} {r m q : Nat} (h : RowAt Z G r m) : RowAt Z (sR (nG (nG G 2 0) (9 + 2) q) 101 G.1 (some (G.1 + 1))) r m :=
  ⟨isK_nG (t := 9 + 2) (m := q) (isK_nG (t := 2) (m := 0) h.1), by show u2 G.2.2.1 101 G.1 (some (G.1 + 1)) 101 r = _; rw [u2_snd _ _ (Nat.ne_of_lt h.1.2.1)]; exact h.2.1, isA_nG (t := 9 + 2) (m := q) (isA_nG (t := 2) (m := 0) h.2.2.1), h.2.2.2⟩
theorem c_X2_init {l : Launch} {Z : zP} {G : zG} {V : zV} {r m : Nat} {t : Nat} (h0 : isK Z G r 2) (hr : G.1 = r + 1) (hm : m ≤ 125) : CT l Z yX2_init cX2_init 3 none 1 1 125 [.ref r, .int (nI t), .int (nI m)] G V (pV (sR (nG G (9 + 2) m) 101 r (some (r + 1))) (sI V 100 r (nI t))) := by
  refine CT.of (by decide +kernel) (Nat.le_of_ble_eq_true rfl) (fun X hX cx => ?_)
  subst hX
  show Wm Z X 3 G V 0 0 _ 0 [(0, some (.ref r)), (1, some (.int (nI t))), (2, some (.int (nI m)))] []
  refine x_aload_n (pc := 0) cx (dA ddX2_init (i := 0) rfl) rfl ?_
  refine x_objInit (pc := 1) koX2_3 ko_i ko_c cx (dA ddX2_init (i := 1) rfl) (by decide) (Nat.le_of_ble_eq_true rfl) ?_
  refine x_aload_n (pc := 4) cx (dA ddX2_init (i := 2) rfl) rfl ?_
  refine x_iload_n (pc := 5) cx (dA ddX2_init (i := 3) rfl) rfl ?_
  refine pX2_9 (pc := 6)  cx (dA ddX2_init (i := 4) rfl) h0 ?_
  refine x_aload_n (pc := 9) cx (dA ddX2_init (i := 5) rfl) rfl ?_
  refine x_iload_n (pc := 10) cx (dA ddX2_init (i := 6) rfl) rfl ?_
  refine x_if_le (pc := 11) (tgt := 18) cx (dA ddX2_init (i := 7) rfl) (by decide) (fun c11 => ?_) (fun c11 => ?_)
  · have c11 := cleT (b := 0) (by omega) (by omega) c11
    have em : m = 0 := by omega
    subst em
    refine x_iconst (pc := 18) (v := nI 0) cx (dA ddX2_init (i := 10) rfl) (by decide) ?_
    refine x_newJ (pc := 19) cx (dA ddX2_init (i := 11) rfl) (by omega) ?_
    rw [hr]
    refine pX2_15 (pc := 21) (x := some (r + 1)) cx (dA ddX2_init (i := 12) rfl) (isK_nG h0) ?_
    refine x_return (pc := 24) cx (dA ddX2_init (i := 13) rfl) (by first | exact Nat.le_of_ble_eq_true rfl | omega) (by first | exact Nat.le_of_ble_eq_true rfl | omega) ?_
    exact ⟨rfl, rfl, rfl⟩
  · refine x_iload_n (pc := 14) cx (dA ddX2_init (i := 8) rfl) rfl ?_
    refine x_goto (pc := 15) (tgt := 19) cx (dA ddX2_init (i := 9) rfl) (by decide) ?_
    refine x_newJ (pc := 19) cx (dA ddX2_init (i := 11) rfl) (by omega) ?_
    rw [hr]
    refine pX2_15 (pc := 21) (x := some (r + 1)) cx (dA ddX2_init (i := 12) rfl) (isK_nG h0) ?_
    refine x_return (pc := 24) cx (dA ddX2_init (i := 13) rfl) (by first | exact Nat.le_of_ble_eq_true rfl | omega) (by first | exact Nat.le_of_ble_eq_true rfl | omega) ?_
    exact ⟨rfl, rfl, rfl⟩
theorem c_X2_hasPlace {l : Launch} {Z : zP} {G : zG} {V : zV} {r m : Nat} (hR : RowAt Z G r m) {x : Int32} : CT l Z yX2_hasPlace cX2_hasPlace 2 (some .boolean) 0 0 0 [.ref r, .int x] G V (pI (b2i (0 ≤ x.toInt ∧ x.toInt < m)) G V) := by
  refine CT.of (by decide +kernel) (Nat.le_of_ble_eq_true rfl) (fun X hX cx => ?_)
  subst hX
  show Wm Z X 2 G V 0 0 _ 0 [(0, some (.ref r)), (1, some (.int x))] []
  have h0 := hR.1
  have hA := hR.2.2.1
  have hm := hR.2.2.2
  refine x_iload_n (pc := 0) cx (dA ddX2_hasPlace (i := 0) rfl) rfl ?_
  refine x_if_lt (pc := 1) (tgt := 17) cx (dA ddX2_hasPlace (i := 1) rfl) (by decide) (fun c1 => ?_) (fun c1 => ?_)
  · refine x_iconst (pc := 17) (v := nI 0) cx (dA ddX2_hasPlace (i := 9) rfl) (by decide) ?_
    refine x_zreturn (pc := 18) cx (dA ddX2_hasPlace (i := 10) rfl) (by first | exact Nat.le_of_ble_eq_true rfl | omega) (by first | exact Nat.le_of_ble_eq_true rfl | omega) rfl ?_
    refine rI ?_
    have e8 : (nI m).toInt = m := nI_toInt (by omega)
    simp only [i32_lt, i32_le, toI_0] at c1
    try simp only [i32_lt, i32_le, toI_0, e8] at c10
    first | exact (b2i_t (by omega)).symm | exact (b2i_f (by omega)).symm
  · refine x_iload_n (pc := 4) cx (dA ddX2_hasPlace (i := 2) rfl) rfl ?_
    refine x_aload_n (pc := 5) cx (dA ddX2_hasPlace (i := 3) rfl) rfl ?_
    refine gX2_15 (pc := 6) (rfA hR.2.1) cx (dA ddX2_hasPlace (i := 4) rfl) h0 ?_
    refine x_alen (pc := 9) cx (dA ddX2_hasPlace (i := 5) rfl) hA (by decide) ?_
    refine x_icmp_ge (pc := 10) (tgt := 17) cx (dA ddX2_hasPlace (i := 6) rfl) (by decide) (fun c10 => ?_) (fun c10 => ?_)
    · refine x_iconst (pc := 17) (v := nI 0) cx (dA ddX2_hasPlace (i := 9) rfl) (by decide) ?_
      refine x_zreturn (pc := 18) cx (dA ddX2_hasPlace (i := 10) rfl) (by first | exact Nat.le_of_ble_eq_true rfl | omega) (by first | exact Nat.le_of_ble_eq_true rfl | omega) rfl ?_
      refine rI ?_
      have e8 : (nI m).toInt = m := nI_toInt (by omega)
      simp only [i32_lt, i32_le, toI_0] at c1
      try simp only [i32_lt, i32_le, toI_0, e8] at c10
      first | exact (b2i_t (by omega)).symm | exact (b2i_f (by omega)).symm
    · refine x_iconst (pc := 13) (v := nI 1) cx (dA ddX2_hasPlace (i := 7) rfl) (by decide) ?_
      refine x_goto (pc := 14) (tgt := 18) cx (dA ddX2_hasPlace (i := 8) rfl) (by decide) ?_
      refine x_zreturn (pc := 18) cx (dA ddX2_hasPlace (i := 10) rfl) (by first | exact Nat.le_of_ble_eq_true rfl | omega) (by first | exact Nat.le_of_ble_eq_true rfl | omega) rfl ?_
      refine rI ?_
      have e8 : (nI m).toInt = m := nI_toInt (by omega)
      simp only [i32_lt, i32_le, toI_0] at c1
      try simp only [i32_lt, i32_le, toI_0, e8] at c10
      first | exact (b2i_t (by omega)).symm | exact (b2i_f (by omega)).symm
theorem c_X2_hasRange {l : Launch} {Z : zP} {G : zG} {V : zV} {r m : Nat} (hR : RowAt Z G r m) {x y : Int32} : CT l Z yX2_hasRange cX2_hasRange 3 (some .boolean) 0 0 0 [.ref r, .int x, .int y] G V (pI (b2i (0 ≤ x.toInt ∧ 0 ≤ y.toInt ∧ x.toInt + y.toInt ≤ m)) G V) := by
  refine CT.of (by decide +kernel) (Nat.le_of_ble_eq_true rfl) (fun X hX cx => ?_)
  subst hX
  show Wm Z X 3 G V 0 0 _ 0 [(0, some (.ref r)), (1, some (.int x)), (2, some (.int y))] []
  have h0 := hR.1
  have hA := hR.2.2.1
  have hm := hR.2.2.2
  have e8 : (nI m).toInt = m := nI_toInt (by omega)
  refine x_iload_n (pc := 0) cx (dA ddX2_hasRange (i := 0) rfl) rfl ?_
  refine x_if_lt (pc := 1) (tgt := 32) cx (dA ddX2_hasRange (i := 1) rfl) (by decide) (fun c1 => ?_) (fun c1 => ?_)
  · refine x_iconst (pc := 32) (v := nI 0) cx (dA ddX2_hasRange (i := 18) rfl) (by decide) ?_
    refine x_zreturn (pc := 33) cx (dA ddX2_hasRange (i := 19) rfl) (by first | exact Nat.le_of_ble_eq_true rfl | omega) (by first | exact Nat.le_of_ble_eq_true rfl | omega) rfl ?_
    refine rI ?_
    simp only [i32_lt, i32_le, toI_0] at c1
    try simp only [i32_lt, i32_le, toI_0] at c5
    try simp only [i32_lt, i32_le, toI_0, e8] at c14
    try simp only [i32_lt, i32_le, hx] at c25
    first | exact (b2i_t (by omega)).symm | exact (b2i_f (by omega)).symm
  · refine x_iload_n (pc := 4) cx (dA ddX2_hasRange (i := 2) rfl) rfl ?_
    refine x_if_lt (pc := 5) (tgt := 32) cx (dA ddX2_hasRange (i := 3) rfl) (by decide) (fun c5 => ?_) (fun c5 => ?_)
    · refine x_iconst (pc := 32) (v := nI 0) cx (dA ddX2_hasRange (i := 18) rfl) (by decide) ?_
      refine x_zreturn (pc := 33) cx (dA ddX2_hasRange (i := 19) rfl) (by first | exact Nat.le_of_ble_eq_true rfl | omega) (by first | exact Nat.le_of_ble_eq_true rfl | omega) rfl ?_
      refine rI ?_
      simp only [i32_lt, i32_le, toI_0] at c1
      try simp only [i32_lt, i32_le, toI_0] at c5
      try simp only [i32_lt, i32_le, toI_0, e8] at c14
      try simp only [i32_lt, i32_le, hx] at c25
      first | exact (b2i_t (by omega)).symm | exact (b2i_f (by omega)).symm
    · refine x_iload_n (pc := 8) cx (dA ddX2_hasRange (i := 4) rfl) rfl ?_
      refine x_aload_n (pc := 9) cx (dA ddX2_hasRange (i := 5) rfl) rfl ?_
      refine gX2_15 (pc := 10) (rfA hR.2.1) cx (dA ddX2_hasRange (i := 6) rfl) h0 ?_
      refine x_alen (pc := 13) cx (dA ddX2_hasRange (i := 7) rfl) hA (by decide) ?_
      refine x_icmp_gt (pc := 14) (tgt := 32) cx (dA ddX2_hasRange (i := 8) rfl) (by decide) (fun c14 => ?_) (fun c14 => ?_)
      · refine x_iconst (pc := 32) (v := nI 0) cx (dA ddX2_hasRange (i := 18) rfl) (by decide) ?_
        refine x_zreturn (pc := 33) cx (dA ddX2_hasRange (i := 19) rfl) (by first | exact Nat.le_of_ble_eq_true rfl | omega) (by first | exact Nat.le_of_ble_eq_true rfl | omega) rfl ?_
        refine rI ?_
        simp only [i32_lt, i32_le, toI_0] at c1
        try simp only [i32_lt, i32_le, toI_0] at c5
        try simp only [i32_lt, i32_le, toI_0, e8] at c14
        try simp only [i32_lt, i32_le, hx] at c25
        first | exact (b2i_t (by omega)).symm | exact (b2i_f (by omega)).symm
      · have hx : (nI m - x).toInt = m - x.toInt := by
          have h1 : 0 ≤ x.toInt := by simp only [i32_lt, toI_0] at c1; omega
          have h2 : x.toInt ≤ m := by simp only [i32_lt, e8] at c14; omega
          obtain ⟨j, hj, rfl⟩ : ∃ j : Nat, j ≤ m ∧ x = nI j := ⟨x.toInt.toNat, by omega, Int32.toInt_inj.mp (by rw [nI_toInt (by omega)]; omega)⟩
          rw [pk_sub hj, nI_toInt (by omega), nI_toInt (by omega)]
          omega
        refine x_iload_n (pc := 17) cx (dA ddX2_hasRange (i := 9) rfl) rfl ?_
        refine x_aload_n (pc := 18) cx (dA ddX2_hasRange (i := 10) rfl) rfl ?_
        refine gX2_15 (pc := 19) (rfA hR.2.1) cx (dA ddX2_hasRange (i := 11) rfl) h0 ?_
        refine x_alen (pc := 22) cx (dA ddX2_hasRange (i := 12) rfl) hA (by decide) ?_
        refine x_iload_n (pc := 23) cx (dA ddX2_hasRange (i := 13) rfl) rfl ?_
        refine x_isub (pc := 24) cx (dA ddX2_hasRange (i := 14) rfl) ?_
        refine x_icmp_gt (pc := 25) (tgt := 32) cx (dA ddX2_hasRange (i := 15) rfl) (by decide) (fun c25 => ?_) (fun c25 => ?_)
        · refine x_iconst (pc := 32) (v := nI 0) cx (dA ddX2_hasRange (i := 18) rfl) (by decide) ?_
          refine x_zreturn (pc := 33) cx (dA ddX2_hasRange (i := 19) rfl) (by first | exact Nat.le_of_ble_eq_true rfl | omega) (by first | exact Nat.le_of_ble_eq_true rfl | omega) rfl ?_
          refine rI ?_
          simp only [i32_lt, i32_le, toI_0] at c1
          try simp only [i32_lt, i32_le, toI_0] at c5
          try simp only [i32_lt, i32_le, toI_0, e8] at c14
          try simp only [i32_lt, i32_le, hx] at c25
          first | exact (b2i_t (by omega)).symm | exact (b2i_f (by omega)).symm
        · refine x_iconst (pc := 28) (v := nI 1) cx (dA ddX2_hasRange (i := 16) rfl) (by decide) ?_
          refine x_goto (pc := 29) (tgt := 33) cx (dA ddX2_hasRange (i := 17) rfl) (by decide) ?_
          refine x_zreturn (pc := 33) cx (dA ddX2_hasRange (i := 19) rfl) (by first | exact Nat.le_of_ble_eq_true rfl | omega) (by first | exact Nat.le_of_ble_eq_true rfl | omega) rfl ?_
          refine rI ?_
          simp only [i32_lt, i32_le, toI_0] at c1
          try simp only [i32_lt, i32_le, toI_0] at c5
          try simp only [i32_lt, i32_le, toI_0, e8] at c14
          try simp only [i32_lt, i32_le, hx] at c25
          first | exact (b2i_t (by omega)).symm | exact (b2i_f (by omega)).symm
theorem c_X2_valueAt {l : Launch} {Z : zP} {G : zG} {V : zV} {r m : Nat} (hR : RowAt Z G r m) {x : Int32} : CT l Z yX2_valueAt cX2_valueAt 2 (some .long) 1 0 0 [.ref r, .int x] G V (pJ (atL V (r + 1) m x) G V) := by
  refine CT.of (by decide +kernel) (Nat.le_of_ble_eq_true rfl) (fun X hX cx => ?_)
  subst hX
  show Wm Z X 2 G V 0 0 _ 0 [(0, some (.ref r)), (1, some (.int x))] []
  have h0 := hR.1
  have hA := hR.2.2.1
  have hm := hR.2.2.2
  refine x_aload_n (pc := 0) cx (dA ddX2_valueAt (i := 0) rfl) rfl ?_
  refine gX2_15 (pc := 1) (rfA hR.2.1) cx (dA ddX2_valueAt (i := 1) rfl) h0 ?_
  refine x_iload_n (pc := 4) cx (dA ddX2_valueAt (i := 2) rfl) rfl ?_
  refine x_SN2 (pc := 5) mX2_19 (c_X7_at_ hA (by omega)) cx (dA ddX2_valueAt (i := 3) rfl) (kJ ?_)
  refine x_lreturn (pc := 8) cx (dA ddX2_valueAt (i := 4) rfl) (by first | exact Nat.le_of_ble_eq_true rfl | omega) (by first | exact Nat.le_of_ble_eq_true rfl | omega) ?_
  exact rJ rfl
theorem c_X2_lowestBits {l : Launch} {Z : zP} {G : zG} {V : zV} {r : Nat} (h0 : isK Z G r 2) {t : Nat} (ht : V.1 100 r = nI t) (h5 : t < 5) {v : Int64} : CT l Z yX2_lowestBits cX2_lowestBits 3 (some .long) 0 0 0 [.ref r, .long v] G V (pJ (lowP t v) G V) := by
  refine CT.of (by decide +kernel) (Nat.le_of_ble_eq_true rfl) (fun X hX cx => ?_)
  subst hX
  show Wm Z X 3 G V 0 0 _ 0 [(0, some (.ref r)), (1, some (.long v))] []
  refine x_aload_n (pc := 0) cx (dA ddX2_lowestBits (i := 0) rfl) rfl ?_
  refine gX2_9 (pc := 1) (congrArg Value.int ht) cx (dA ddX2_lowestBits (i := 1) rfl) h0 ?_
  by_cases c4_0 : nI t = 0
  · refine x_tabIn (pc := 4) (v := 0) (tgt := 40) cx (dA ddX2_lowestBits (i := 2) rfl) (by rw [c4_0]; decide) (by decide) (by decide) rfl (by decide) ?_
    refine x_lload_n (pc := 40) cx (dA ddX2_lowestBits (i := 3) rfl) rfl ?_
    refine x_l2i (pc := 41) cx (dA ddX2_lowestBits (i := 4) rfl) ?_
    refine x_i2b (pc := 42) cx (dA ddX2_lowestBits (i := 5) rfl) ?_
    refine x_i2l (pc := 43) cx (dA ddX2_lowestBits (i := 6) rfl) ?_
    refine x_lreturn (pc := 44) cx (dA ddX2_lowestBits (i := 7) rfl) (by first | exact Nat.le_of_ble_eq_true rfl | omega) (by first | exact Nat.le_of_ble_eq_true rfl | omega) ?_
    have e : t = 0 := nI_inj (by omega) (by omega) c4_0
    subst e
    exact rJ rfl
  by_cases c4_1 : nI t = 1
  · refine x_tabIn (pc := 4) (v := 1) (tgt := 45) cx (dA ddX2_lowestBits (i := 2) rfl) (by rw [c4_1]; decide) (by decide) (by decide) rfl (by decide) ?_
    refine x_lload_n (pc := 45) cx (dA ddX2_lowestBits (i := 8) rfl) rfl ?_
    refine x_l2i (pc := 46) cx (dA ddX2_lowestBits (i := 9) rfl) ?_
    refine x_i2s (pc := 47) cx (dA ddX2_lowestBits (i := 10) rfl) ?_
    refine x_i2l (pc := 48) cx (dA ddX2_lowestBits (i := 11) rfl) ?_
    refine x_lreturn (pc := 49) cx (dA ddX2_lowestBits (i := 12) rfl) (by first | exact Nat.le_of_ble_eq_true rfl | omega) (by first | exact Nat.le_of_ble_eq_true rfl | omega) ?_
    have e : t = 1 := nI_inj (by omega) (by omega) c4_1
    subst e
    exact rJ rfl
  by_cases c4_2 : nI t = 2
  · refine x_tabIn (pc := 4) (v := 2) (tgt := 50) cx (dA ddX2_lowestBits (i := 2) rfl) (by rw [c4_2]; decide) (by decide) (by decide) rfl (by decide) ?_
    refine x_lload_n (pc := 50) cx (dA ddX2_lowestBits (i := 13) rfl) rfl ?_
    refine x_l2i (pc := 51) cx (dA ddX2_lowestBits (i := 14) rfl) ?_
    refine x_i2l (pc := 52) cx (dA ddX2_lowestBits (i := 15) rfl) ?_
    refine x_lreturn (pc := 53) cx (dA ddX2_lowestBits (i := 16) rfl) (by first | exact Nat.le_of_ble_eq_true rfl | omega) (by first | exact Nat.le_of_ble_eq_true rfl | omega) ?_
    have e : t = 2 := nI_inj (by omega) (by omega) c4_2
    subst e
    exact rJ rfl
  by_cases c4_3 : nI t = 3
  · refine x_tabIn (pc := 4) (v := 3) (tgt := 66) cx (dA ddX2_lowestBits (i := 2) rfl) (by rw [c4_3]; decide) (by decide) (by decide) rfl (by decide) ?_
    refine x_lload_n (pc := 66) cx (dA ddX2_lowestBits (i := 25) rfl) rfl ?_
    refine x_lreturn (pc := 67) cx (dA ddX2_lowestBits (i := 26) rfl) (by first | exact Nat.le_of_ble_eq_true rfl | omega) (by first | exact Nat.le_of_ble_eq_true rfl | omega) ?_
    refine rJ ?_
    first
      | (have e : t = 3 := nI_inj (by omega) (by omega) c4_3; subst e; rfl)
      | (exfalso; rcases (show t = 0 ∨ t = 1 ∨ t = 2 ∨ t = 3 ∨ t = 4 by omega) with h | h | h | h | h; exact c4_0 (by rw [h]; rfl); exact c4_1 (by rw [h]; rfl); exact c4_2 (by rw [h]; rfl); exact c4_3 (by rw [h]; rfl); exact c4_4 (by rw [h]; rfl))
  by_cases c4_4 : nI t = 4
  · refine x_tabIn (pc := 4) (v := 4) (tgt := 54) cx (dA ddX2_lowestBits (i := 2) rfl) (by rw [c4_4]; decide) (by decide) (by decide) rfl (by decide) ?_
    refine x_lload_n (pc := 54) cx (dA ddX2_lowestBits (i := 17) rfl) rfl ?_
    refine x_lconst (pc := 55) (v := lN 0) cx (dA ddX2_lowestBits (i := 18) rfl) rfl ?_
    refine x_lc_eq (pc := 56) (tgt := 64) cx (dA ddX2_lowestBits (i := 19) rfl) (dA ddX2_lowestBits (i := 20) rfl) (by decide) (fun c56 => ?_) (fun c56 => ?_)
    · refine x_lconst (pc := 64) (v := lN 0) cx (dA ddX2_lowestBits (i := 23) rfl) rfl ?_
      refine x_lreturn (pc := 65) cx (dA ddX2_lowestBits (i := 24) rfl) (by first | exact Nat.le_of_ble_eq_true rfl | omega) (by first | exact Nat.le_of_ble_eq_true rfl | omega) ?_
      have e : t = 4 := nI_inj (by omega) (by omega) c4_4
      subst e
      refine rJ ?_
      unfold lowP
      first | exact (if_pos c56).symm | exact (if_neg c56).symm
    · refine x_lconst (pc := 60) (v := lN 1) cx (dA ddX2_lowestBits (i := 21) rfl) rfl ?_
      refine x_goto (pc := 61) (tgt := 65) cx (dA ddX2_lowestBits (i := 22) rfl) (by decide) ?_
      refine x_lreturn (pc := 65) cx (dA ddX2_lowestBits (i := 24) rfl) (by first | exact Nat.le_of_ble_eq_true rfl | omega) (by first | exact Nat.le_of_ble_eq_true rfl | omega) ?_
      have e : t = 4 := nI_inj (by omega) (by omega) c4_4
      subst e
      refine rJ ?_
      unfold lowP
      first | exact (if_pos c56).symm | exact (if_neg c56).symm
  refine x_tabOut (pc := 4) (tgt := 66) cx (dA ddX2_lowestBits (i := 2) rfl) (by have t0 := lv_neT (a := 0) c4_0 (by decide); have t1 := lv_neT (a := 1) c4_1 (by decide); have t2 := lv_neT (a := 2) c4_2 (by decide); have t3 := lv_neT (a := 3) c4_3 (by decide); have t4 := lv_neT (a := 4) c4_4 (by decide); omega) (by decide) ?_
  refine x_lload_n (pc := 66) cx (dA ddX2_lowestBits (i := 25) rfl) rfl ?_
  refine x_lreturn (pc := 67) cx (dA ddX2_lowestBits (i := 26) rfl) (by first | exact Nat.le_of_ble_eq_true rfl | omega) (by first | exact Nat.le_of_ble_eq_true rfl | omega) ?_
  refine rJ ?_
  first
    | (have e : t = 3 := nI_inj (by omega) (by omega) c4_3; subst e; rfl)
    | (exfalso; rcases (show t = 0 ∨ t = 1 ∨ t = 2 ∨ t = 3 ∨ t = 4 by omega) with h | h | h | h | h; exact c4_0 (by rw [h]; rfl); exact c4_1 (by rw [h]; rfl); exact c4_2 (by rw [h]; rfl); exact c4_3 (by rw [h]; rfl); exact c4_4 (by rw [h]; rfl))
theorem c_X2_put {l : Launch} {Z : zP} {G : zG} {V : zV} {r m : Nat} (hR : RowAt Z G r m) {t j : Nat} (ht : V.1 100 r = nI t) (h5 : t < 5) {v : Int64} (hj : j < m) : CT l Z yX2_put cX2_put 4 none 1 0 0 [.ref r, .int (nI j), .long v] G V (pV G (sAJ V (r + 1) j (lowP t v))) := by
  refine CT.of (by decide +kernel) (Nat.le_of_ble_eq_true rfl) (fun X hX cx => ?_)
  subst hX
  show Wm Z X 4 G V 0 0 _ 0 [(0, some (.ref r)), (1, some (.int (nI j))), (2, some (.long v))] []
  have h0 := hR.1
  have hA := hR.2.2.1
  have hm := hR.2.2.2
  refine x_aload_n (pc := 0) cx (dA ddX2_put (i := 0) rfl) rfl ?_
  refine x_iload_n (pc := 1) cx (dA ddX2_put (i := 1) rfl) rfl ?_
  refine x_V1 (pc := 2) mX2_23 h0 (c_X2_hasPlace hR) cx (dA ddX2_put (i := 2) rfl) (kI ?_)
  refine x_if_eq (pc := 5) (tgt := 19) cx (dA ddX2_put (i := 3) rfl) (by decide) (fun c5 => absurd c5 (fun q => b2i_eq q (by rw [nI_toInt (by omega)]; omega))) (fun c5 => ?_)
  refine x_aload_n (pc := 8) cx (dA ddX2_put (i := 4) rfl) rfl ?_
  refine gX2_15 (pc := 9) (rfA hR.2.1) cx (dA ddX2_put (i := 5) rfl) h0 ?_
  refine x_iload_n (pc := 12) cx (dA ddX2_put (i := 6) rfl) rfl ?_
  refine x_aload_n (pc := 13) cx (dA ddX2_put (i := 7) rfl) rfl ?_
  refine x_lload_n (pc := 14) cx (dA ddX2_put (i := 8) rfl) rfl ?_
  refine x_V1 (pc := 15) mX2_27 h0 (c_X2_lowestBits h0 ht h5) cx (dA ddX2_put (i := 9) rfl) (kJ ?_)
  refine x_lastore (pc := 18) cx (dA ddX2_put (i := 10) rfl) hA hj (by omega) ?_
  refine x_return (pc := 19) cx (dA ddX2_put (i := 11) rfl) (by first | exact Nat.le_of_ble_eq_true rfl | omega) (by first | exact Nat.le_of_ble_eq_true rfl | omega) ?_
  exact ⟨rfl, rfl, rfl⟩
theorem c_X2_take {l : Launch} {Z : zP} {G : zG} {V : zV} {r m : Nat} (hR : RowAt Z G r m) {f q i j n : Nat} (hF : RowAt Z G f q) (hi : i + n ≤ q) (hj : j + n ≤ m) : CT l Z yX2_take cX2_take 5 none 1 0 0 [.ref r, .ref f, .int (nI i), .int (nI j), .int (nI n)] G V (pV G (rAJ V (r + 1) j n (fun z => V.2.2.2 (f + 1) (i + z)))) := by
  refine CT.of (by decide +kernel) (Nat.le_of_ble_eq_true rfl) (fun X hX cx => ?_)
  subst hX
  show Wm Z X 5 G V 0 0 _ 0 [(0, some (.ref r)), (1, some (.ref f)), (2, some (.int (nI i))), (3, some (.int (nI j))), (4, some (.int (nI n)))] []
  have h0 := hR.1
  have hA := hR.2.2.1
  have hm := hR.2.2.2
  have f0 := hF.1
  have fA := hF.2.2.1
  have fm := hF.2.2.2
  have e1 : (nI i).toInt = i := nI_toInt (by omega)
  have e2 : (nI j).toInt = j := nI_toInt (by omega)
  have e3 : (nI n).toInt = n := nI_toInt (by omega)
  refine x_aload_n (pc := 0) cx (dA ddX2_take (i := 0) rfl) rfl ?_
  refine x_ifnull_s (pc := 1) cx (dA ddX2_take (i := 1) rfl) ?_
  refine x_aload_n (pc := 4) cx (dA ddX2_take (i := 2) rfl) rfl ?_
  refine x_iload_n (pc := 5) cx (dA ddX2_take (i := 3) rfl) rfl ?_
  refine x_iload (pc := 6) cx (dA ddX2_take (i := 4) rfl) rfl ?_
  refine x_V2 (pc := 8) mX2_31 f0 (c_X2_hasRange hF) cx (dA ddX2_take (i := 5) rfl) (kI ?_)
  refine x_if_eq (pc := 11) (tgt := 39) cx (dA ddX2_take (i := 6) rfl) (by decide) (fun c11 => absurd c11 (fun q => b2i_eq q (by omega))) (fun c11 => ?_)
  refine x_aload_n (pc := 14) cx (dA ddX2_take (i := 7) rfl) rfl ?_
  refine x_iload_n (pc := 15) cx (dA ddX2_take (i := 8) rfl) rfl ?_
  refine x_iload (pc := 16) cx (dA ddX2_take (i := 9) rfl) rfl ?_
  refine x_V2 (pc := 18) mX2_31 h0 (c_X2_hasRange hR) cx (dA ddX2_take (i := 10) rfl) (kI ?_)
  refine x_if_eq (pc := 21) (tgt := 39) cx (dA ddX2_take (i := 11) rfl) (by decide) (fun c21 => absurd c21 (fun q => b2i_eq q (by omega))) (fun c21 => ?_)
  refine x_aload_n (pc := 24) cx (dA ddX2_take (i := 12) rfl) rfl ?_
  refine gX2_15 (pc := 25) (rfA hF.2.1) cx (dA ddX2_take (i := 13) rfl) f0 ?_
  refine x_iload_n (pc := 28) cx (dA ddX2_take (i := 14) rfl) rfl ?_
  refine x_aload_n (pc := 29) cx (dA ddX2_take (i := 15) rfl) rfl ?_
  refine gX2_15 (pc := 30) (rfA hR.2.1) cx (dA ddX2_take (i := 16) rfl) h0 ?_
  refine x_iload_n (pc := 33) cx (dA ddX2_take (i := 17) rfl) rfl ?_
  refine x_iload (pc := 34) cx (dA ddX2_take (i := 18) rfl) rfl ?_
  refine x_copyJ (pc := 36) zs_link (wa zs_native rfl) zs_stat zs_init cx (dA ddX2_take (i := 19) rfl) fA hA hi hj (by omega) (by omega) (by decide) (Nat.le_of_ble_eq_true rfl) ?_
  refine x_return (pc := 39) cx (dA ddX2_take (i := 20) rfl) (by first | exact Nat.le_of_ble_eq_true rfl | omega) (by first | exact Nat.le_of_ble_eq_true rfl | omega) ?_
  exact ⟨rfl, rfl, rfl⟩
theorem c_X2_twin {l : Launch} {Z : zP} {G : zG} {V : zV} {r m : Nat} (hR : RowAt Z G r m) {t : Nat} (ht : V.1 100 r = nI t) : CT l Z yX2_twin cX2_twin 2 (some (.object "SendTheBox$Row")) 2 2 127 [.ref r] G V (pR (some G.1) (sR (nG (nG G 2 0) (9 + 2) m) 101 G.1 (some (G.1 + 1))) (rAJ (sI V 100 G.1 (nI t)) (G.1 + 1) 0 m (fun z => V.2.2.2 (r + 1) z))) := by
  refine CT.of (by decide +kernel) (Nat.le_of_ble_eq_true rfl) (fun X hX cx => ?_)
  subst hX
  show Wm Z X 2 G V 0 0 _ 0 [(0, some (.ref r))] []
  have h0 := hR.1
  have hA := hR.2.2.1
  have hm := hR.2.2.2
  have gz : Z.1 ≤ G.1 := Nat.le_trans h0.1 (Nat.le_of_lt h0.2.1)
  have rl := h0.2.1
  have nR := RowAt.new (m := m) gz hm
  have rR : RowAt Z (sR (nG (nG G 2 0) (9 + 2) m) 101 G.1 (some (G.1 + 1))) r m := RowAt.old hR
  refine nX2_10 (pc := 0) cx (dA ddX2_twin (i := 0) rfl) ?_
  refine x_dup (pc := 3) cx rfl (dA ddX2_twin (i := 1) rfl) ?_
  refine x_aload_n (pc := 4) cx (dA ddX2_twin (i := 2) rfl) rfl ?_
  refine gX2_9 (pc := 5) (congrArg Value.int ht) cx (dA ddX2_twin (i := 3) rfl) (isK_nG h0) ?_
  refine x_aload_n (pc := 8) cx (dA ddX2_twin (i := 4) rfl) rfl ?_
  refine gX2_15 (pc := 9) (rfA hR.2.1) cx (dA ddX2_twin (i := 5) rfl) (isK_nG h0) ?_
  refine x_alen (pc := 12) cx (dA ddX2_twin (i := 6) rfl) (isA_nG hA) (by decide) ?_
  refine x_I2 (pc := 13) mX2_41 (c_X2_init (isK_at gz) rfl hm) cx (dA ddX2_twin (i := 7) rfl) (kV ?_)
  refine x_astore_n (pc := 16) cx (dA ddX2_twin (i := 8) rfl) (by decide) rfl ?_
  refine x_aload_n (pc := 17) cx (dA ddX2_twin (i := 9) rfl) rfl ?_
  refine x_aload_n (pc := 18) cx (dA ddX2_twin (i := 10) rfl) rfl ?_
  refine x_iconst (pc := 19) (v := nI 0) cx (dA ddX2_twin (i := 11) rfl) (by decide) ?_
  refine x_iconst (pc := 20) (v := nI 0) cx (dA ddX2_twin (i := 12) rfl) (by decide) ?_
  refine x_aload_n (pc := 21) cx (dA ddX2_twin (i := 13) rfl) rfl ?_
  refine gX2_15 (pc := 22) (rfA rR.2.1) cx (dA ddX2_twin (i := 14) rfl) rR.1 ?_
  refine x_alen (pc := 25) cx (dA ddX2_twin (i := 15) rfl) rR.2.2.1 (by decide) ?_
  refine x_V4 (pc := 26) mX2_44 nR.1 (c_X2_take (i := 0) (j := 0) nR rR (by omega) (by omega)) cx (dA ddX2_twin (i := 16) rfl) (kV ?_)
  refine x_aload_n (pc := 29) cx (dA ddX2_twin (i := 17) rfl) rfl ?_
  refine x_areturn (pc := 30) (o := some G.1) cx (dA ddX2_twin (i := 18) rfl) (by first | exact Nat.le_of_ble_eq_true rfl | omega) (by first | exact Nat.le_of_ble_eq_true rfl | omega) ?_
  refine ⟨rfl, rfl, ?_⟩
  simp only [Nat.zero_add]
  rfl
