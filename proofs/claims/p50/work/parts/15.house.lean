noncomputable def b2p (p : Prop) : Int32 := @b2i p (Classical.propDecidable p)
theorem b2p_t {p : Prop} (h : p) : b2p p = 1 := @b2i_t p (Classical.propDecidable p) h
theorem b2p_f {p : Prop} (h : ¬ p) : b2p p = 0 := @b2i_f p (Classical.propDecidable p) h
theorem b2p_ne {p : Prop} (h : ¬ b2p p = 0) : p := @b2i_ne p (Classical.propDecidable p) h
theorem b2p_eq {p : Prop} (h : b2p p = 0) : ¬ p := @b2i_eq p (Classical.propDecidable p) h
def likeP (N M : Nat → Nat) : Prop := ∀ j, j < 20 → N j = M j
theorem rw2_self (V : zV) (o a i : Nat) : rw2 V.2.2.1 a 0 i (fun j => V.2.2.1 o j) o i = V.2.2.1 o i := by
  by_cases h : o = a
  · subst h
    exact rw2_out (Or.inr (by omega))
  · exact rw2_ne h i
def clearP (j : Nat) : Nat := if j = 0 then 3 else if j = 1 then 10 else if j = 2 then 10 else 0
theorem clear_eq (V : zV) (h : Nat) : rAI V (h + 1) 0 20 (fun j => nI (clearP j)) = sAI (sAI (sAI (rAI V (h + 1) 0 20 (fun _ => nI 0)) (h + 1) 0 (nI 3)) (h + 1) 1 (nI 10)) (h + 1) 2 (nI 10) := by
  unfold rAI sAI
  dsimp only
  congr 3
  funext x j
  simp only [u2, rw2, clearP]
  by_cases hx : x = h + 1
  · subst hx
    by_cases h0 : j = 0
    · subst h0; simp
    · by_cases h1 : j = 1
      · subst h1; simp
      · by_cases h2 : j = 2
        · subst h2; simp
        · simp [h0, h1, h2]
  · simp [hx]
theorem c_X0_init {l : Launch} {Z : zP} {G : zG} {V : zV} {h : Nat} (h0 : isK Z G h 0) : CT l Z yX0_init cX0_init 1 none 1 1 20 [.ref h] G V (pV (sR (nG G 10 20) 0 h (some G.1)) V) := by
  refine CT.of (by decide +kernel) (Nat.le_of_ble_eq_true rfl) (fun X hX cx => ?_)
  subst hX
  show Wm Z X 1 G V 0 0 _ 0 [(0, some (.ref h))] []
  refine x_aload_n (pc := 0) cx (dA ddX0_init (i := 0) rfl) rfl ?_
  refine x_objInit (pc := 1) koX0_3 ko_i ko_c cx (dA ddX0_init (i := 1) rfl) (by decide) (Nat.le_of_ble_eq_true rfl) ?_
  refine x_aload_n (pc := 4) cx (dA ddX0_init (i := 2) rfl) rfl ?_
  refine x_bipush (pc := 5) (v := nI 20) cx (dA ddX0_init (i := 3) rfl) (by decide) ?_
  refine x_newI (pc := 7) cx (dA ddX0_init (i := 4) rfl) (by decide) ?_
  refine pX0_9 (pc := 9) (x := some G.1) cx (dA ddX0_init (i := 5) rfl) (isK_nG h0) ?_
  refine x_return (pc := 12) cx (dA ddX0_init (i := 6) rfl) (Nat.le_of_ble_eq_true rfl) (Nat.le_of_ble_eq_true rfl) ?_
  exact ⟨rfl, rfl, rfl⟩
theorem c_X0_number {l : Launch} {Z : zP} {G : zG} {V : zV} {h : Nat} (hH : HouseAt Z G h) {N : Nat → Nat} (hV : HouseV V h N) (hB : HouseB N) {w : Nat} (hw : w < 5) : CT l Z yX0_number cX0_number 2 (some .int) 0 0 0 [.ref h, .int (nI w)] G V (pI (nI (N w)) G V) := by
  refine CT.of (by decide +kernel) (Nat.le_of_ble_eq_true rfl) (fun X hX cx => ?_)
  subst hX
  show Wm Z X 2 G V 0 0 _ 0 [(0, some (.ref h)), (1, some (.int (nI w)))] []
  have h0 := hH.1
  have hA := hH.2.2
  have b4 := hB.1
  have bN := hB.2
  refine x_iload_n (pc := 0) cx (dA ddX0_number (i := 0) rfl) rfl ?_
  refine x_if_lt (pc := 1) (tgt := 27) cx (dA ddX0_number (i := 1) rfl) (by decide) (fun c1 => absurd c1 (nI_pos (by omega))) (fun c1 => ?_)
  refine x_iload_n (pc := 4) cx (dA ddX0_number (i := 2) rfl) rfl ?_
  refine x_iconst (pc := 5) (v := nI 5) cx (dA ddX0_number (i := 3) rfl) (by decide) ?_
  refine x_icmp_ge (pc := 6) (tgt := 27) cx (dA ddX0_number (i := 4) rfl) (by decide) (fun c6 => absurd c6 (nI_ge (by omega) (by omega))) (fun c6 => ?_)
  refine x_iload_n (pc := 9) cx (dA ddX0_number (i := 5) rfl) rfl ?_
  refine x_aload_n (pc := 10) cx (dA ddX0_number (i := 6) rfl) rfl ?_
  refine gX0_9 (pc := 11) (rfA hH.2.1) cx (dA ddX0_number (i := 7) rfl) h0 ?_
  refine x_alen (pc := 14) cx (dA ddX0_number (i := 8) rfl) hA (by decide) ?_
  refine x_icmp_ge (pc := 15) (tgt := 27) cx (dA ddX0_number (i := 9) rfl) (by decide) (fun c15 => absurd c15 (nI_ge (by omega) (by omega))) (fun c15 => ?_)
  refine x_aload_n (pc := 18) cx (dA ddX0_number (i := 10) rfl) rfl ?_
  refine gX0_9 (pc := 19) (rfA hH.2.1) cx (dA ddX0_number (i := 11) rfl) h0 ?_
  refine x_iload_n (pc := 22) cx (dA ddX0_number (i := 12) rfl) rfl ?_
  refine x_iaload (pc := 23) cx (dA ddX0_number (i := 13) rfl) hA (by omega) (by omega) ?_
  refine x_goto (pc := 24) (tgt := 28) cx (dA ddX0_number (i := 14) rfl) (by decide) ?_
  refine x_ireturn (pc := 28) cx (dA ddX0_number (i := 16) rfl) (Nat.le_of_ble_eq_true rfl) (Nat.le_of_ble_eq_true rfl) ?_
  exact rI (hV w (by omega))
theorem c_X0_putNumber {l : Launch} {Z : zP} {G : zG} {V : zV} {h : Nat} (hH : HouseAt Z G h) {w : Nat} {x : Int32} (hw : w < 5) : CT l Z yX0_putNumber cX0_putNumber 3 none 1 0 0 [.ref h, .int (nI w), .int x] G V (pV G (sAI V (h + 1) w x)) := by
  refine CT.of (by decide +kernel) (Nat.le_of_ble_eq_true rfl) (fun X hX cx => ?_)
  subst hX
  show Wm Z X 3 G V 0 0 _ 0 [(0, some (.ref h)), (1, some (.int (nI w))), (2, some (.int x))] []
  have h0 := hH.1
  have hA := hH.2.2
  refine x_iload_n (pc := 0) cx (dA ddX0_putNumber (i := 0) rfl) rfl ?_
  refine x_iconst (pc := 1) (v := nI 5) cx (dA ddX0_putNumber (i := 1) rfl) (by decide) ?_
  refine x_icmp_ge (pc := 2) (tgt := 14) cx (dA ddX0_putNumber (i := 2) rfl) (by decide) (fun c2 => absurd c2 (nI_ge (by omega) (by omega))) (fun c2 => ?_)
  refine x_aload_n (pc := 5) cx (dA ddX0_putNumber (i := 3) rfl) rfl ?_
  refine gX0_9 (pc := 6) (rfA hH.2.1) cx (dA ddX0_putNumber (i := 4) rfl) h0 ?_
  refine x_iload_n (pc := 9) cx (dA ddX0_putNumber (i := 5) rfl) rfl ?_
  refine x_iload_n (pc := 10) cx (dA ddX0_putNumber (i := 6) rfl) rfl ?_
  refine x_SN3 (pc := 11) mX0_23 (c_X7_put hA (by omega) (by omega)) cx (dA ddX0_putNumber (i := 7) rfl) (kV ?_)
  refine x_return (pc := 14) cx (dA ddX0_putNumber (i := 8) rfl) (Nat.le_of_ble_eq_true rfl) (Nat.le_of_ble_eq_true rfl) ?_
  exact ⟨rfl, rfl, rfl⟩
theorem c_X0_placeOf {l : Launch} {Z : zP} {G : zG} {V : zV} {a b : Nat} : CT l Z yX0_placeOf cX0_placeOf 2 (some .int) 0 0 0 [.int (nI a), .int (nI b)] G V (pI (nI (5 + 5 * a + b)) G V) := by
  refine CT.of (by decide +kernel) (Nat.le_of_ble_eq_true rfl) (fun X hX cx => ?_)
  subst hX
  show Wm Z X 2 G V 0 0 _ 0 [(0, some (.int (nI a))), (1, some (.int (nI b)))] []
  refine x_iconst (pc := 0) (v := nI 5) cx (dA ddX0_placeOf (i := 0) rfl) (by decide) ?_
  refine x_iload_n (pc := 1) cx (dA ddX0_placeOf (i := 1) rfl) rfl ?_
  refine x_iconst (pc := 2) (v := nI 5) cx (dA ddX0_placeOf (i := 2) rfl) (by decide) ?_
  refine x_imul (pc := 3) cx (dA ddX0_placeOf (i := 3) rfl) ?_
  refine x_iadd (pc := 4) cx (dA ddX0_placeOf (i := 4) rfl) ?_
  refine x_iload_n (pc := 5) cx (dA ddX0_placeOf (i := 5) rfl) rfl ?_
  refine x_iadd (pc := 6) cx (dA ddX0_placeOf (i := 6) rfl) ?_
  refine x_ireturn (pc := 7) cx (dA ddX0_placeOf (i := 7) rfl) (Nat.le_of_ble_eq_true rfl) (Nat.le_of_ble_eq_true rfl) ?_
  refine rI ?_
  rw [nI_cmul, nI_add, nI_add, Nat.mul_comm a 5]
theorem c_X0_sortNumber {l : Launch} {Z : zP} {G : zG} {V : zV} {h : Nat} (hH : HouseAt Z G h) {N : Nat → Nat} (hV : HouseV V h N) (hB : HouseB N) {s w : Nat} (hs : s < 3) (hw : w < 5) : CT l Z yX0_sortNumber cX0_sortNumber 3 (some .int) 1 0 0 [.ref h, .int (nI s), .int (nI w)] G V (pI (nI (N (5 + 5 * s + w))) G V) := by
  refine CT.of (by decide +kernel) (Nat.le_of_ble_eq_true rfl) (fun X hX cx => ?_)
  subst hX
  show Wm Z X 3 G V 0 0 _ 0 [(0, some (.ref h)), (1, some (.int (nI s))), (2, some (.int (nI w)))] []
  have h0 := hH.1
  have hA := hH.2.2
  have b4 := hB.1
  have bN := hB.2
  refine x_aload_n (pc := 0) cx (dA ddX0_sortNumber (i := 0) rfl) rfl ?_
  refine gX0_9 (pc := 1) (rfA hH.2.1) cx (dA ddX0_sortNumber (i := 1) rfl) h0 ?_
  refine x_iload_n (pc := 4) cx (dA ddX0_sortNumber (i := 2) rfl) rfl ?_
  refine x_iload_n (pc := 5) cx (dA ddX0_sortNumber (i := 3) rfl) rfl ?_
  refine x_S2 (pc := 6) mX0_27 c_X0_placeOf cx (dA ddX0_sortNumber (i := 4) rfl) (kI ?_)
  refine x_SN2 (pc := 9) mX0_19 (c_X7_at hA (by omega)) cx (dA ddX0_sortNumber (i := 5) rfl) (kI ?_)
  refine x_ireturn (pc := 12) cx (dA ddX0_sortNumber (i := 6) rfl) (Nat.le_of_ble_eq_true rfl) (Nat.le_of_ble_eq_true rfl) ?_
  refine rI ?_
  rw [atI_in (by omega) (by omega)]
  exact hV _ (by omega)
theorem c_X0_putSortNumber {l : Launch} {Z : zP} {G : zG} {V : zV} {h : Nat} (hH : HouseAt Z G h) {s w : Nat} {x : Int32} (hs : s < 3) (hw : w < 5) : CT l Z yX0_putSortNumber cX0_putSortNumber 4 none 1 0 0 [.ref h, .int (nI s), .int (nI w), .int x] G V (pV G (sAI V (h + 1) (5 + 5 * s + w) x)) := by
  refine CT.of (by decide +kernel) (Nat.le_of_ble_eq_true rfl) (fun X hX cx => ?_)
  subst hX
  show Wm Z X 4 G V 0 0 _ 0 [(0, some (.ref h)), (1, some (.int (nI s))), (2, some (.int (nI w))), (3, some (.int x))] []
  have h0 := hH.1
  have hA := hH.2.2
  refine x_aload_n (pc := 0) cx (dA ddX0_putSortNumber (i := 0) rfl) rfl ?_
  refine gX0_9 (pc := 1) (rfA hH.2.1) cx (dA ddX0_putSortNumber (i := 1) rfl) h0 ?_
  refine x_iload_n (pc := 4) cx (dA ddX0_putSortNumber (i := 2) rfl) rfl ?_
  refine x_iload_n (pc := 5) cx (dA ddX0_putSortNumber (i := 3) rfl) rfl ?_
  refine x_S2 (pc := 6) mX0_27 c_X0_placeOf cx (dA ddX0_putSortNumber (i := 4) rfl) (kI ?_)
  refine x_iload_n (pc := 9) cx (dA ddX0_putSortNumber (i := 5) rfl) rfl ?_
  refine x_SN3 (pc := 10) mX0_23 (c_X7_put hA (by omega) (by omega)) cx (dA ddX0_putSortNumber (i := 6) rfl) (kV ?_)
  refine x_return (pc := 13) cx (dA ddX0_putSortNumber (i := 7) rfl) (Nat.le_of_ble_eq_true rfl) (Nat.le_of_ble_eq_true rfl) ?_
  exact ⟨rfl, rfl, rfl⟩
theorem c_X0_days {l : Launch} {Z : zP} {G : zG} {V : zV} {h : Nat} (hH : HouseAt Z G h) {N : Nat → Nat} (hV : HouseV V h N) (hB : HouseB N) : CT l Z yX0_days cX0_days 1 (some .int) 1 0 0 [.ref h] G V (pI (nI (N 0)) G V) := by
  refine CT.of (by decide +kernel) (Nat.le_of_ble_eq_true rfl) (fun X hX cx => ?_)
  subst hX
  show Wm Z X 1 G V 0 0 _ 0 [(0, some (.ref h))] []
  have h0 := hH.1
  have hA := hH.2.2
  have b4 := hB.1
  have bN := hB.2
  refine x_aload_n (pc := 0) cx (dA ddX0_days (i := 0) rfl) rfl ?_
  refine x_iconst (pc := 1) (v := nI 0) cx (dA ddX0_days (i := 1) rfl) (by decide) ?_
  refine x_V1 (pc := 2) mX0_31 h0 (c_X0_number hH hV hB (by omega)) cx (dA ddX0_days (i := 2) rfl) (kI ?_)
  refine x_ireturn (pc := 5) cx (dA ddX0_days (i := 3) rfl) (Nat.le_of_ble_eq_true rfl) (Nat.le_of_ble_eq_true rfl) ?_
  exact rI rfl
theorem c_X0_sorts {l : Launch} {Z : zP} {G : zG} {V : zV} {h : Nat} (hH : HouseAt Z G h) {N : Nat → Nat} (hV : HouseV V h N) (hB : HouseB N) : CT l Z yX0_sorts cX0_sorts 1 (some .int) 1 0 0 [.ref h] G V (pI (nI (N 4)) G V) := by
  refine CT.of (by decide +kernel) (Nat.le_of_ble_eq_true rfl) (fun X hX cx => ?_)
  subst hX
  show Wm Z X 1 G V 0 0 _ 0 [(0, some (.ref h))] []
  have h0 := hH.1
  have hA := hH.2.2
  have b4 := hB.1
  have bN := hB.2
  refine x_aload_n (pc := 0) cx (dA ddX0_sorts (i := 0) rfl) rfl ?_
  refine x_iconst (pc := 1) (v := nI 4) cx (dA ddX0_sorts (i := 1) rfl) (by decide) ?_
  refine x_V1 (pc := 2) mX0_31 h0 (c_X0_number hH hV hB (by omega)) cx (dA ddX0_sorts (i := 2) rfl) (kI ?_)
  refine x_ireturn (pc := 5) cx (dA ddX0_sorts (i := 3) rfl) (Nat.le_of_ble_eq_true rfl) (Nat.le_of_ble_eq_true rfl) ?_
  exact rI rfl
theorem c_X0_hasSort {l : Launch} {Z : zP} {G : zG} {V : zV} {h : Nat} (hH : HouseAt Z G h) {N : Nat → Nat} (hV : HouseV V h N) (hB : HouseB N) {x : Int32} : CT l Z yX0_hasSort cX0_hasSort 2 (some .boolean) 2 0 0 [.ref h, .int x] G V (pI (b2i (0 ≤ x.toInt ∧ x.toInt < N 4)) G V) := by
  refine CT.of (by decide +kernel) (Nat.le_of_ble_eq_true rfl) (fun X hX cx => ?_)
  subst hX
  show Wm Z X 2 G V 0 0 _ 0 [(0, some (.ref h)), (1, some (.int x))] []
  have h0 := hH.1
  have hA := hH.2.2
  have b4 := hB.1
  have bN := hB.2
  refine x_iload_n (pc := 0) cx (dA ddX0_hasSort (i := 0) rfl) rfl ?_
  refine x_if_lt (pc := 1) (tgt := 16) cx (dA ddX0_hasSort (i := 1) rfl) (by decide) (fun c1 => ?_) (fun c1 => ?_)
  · refine x_iconst (pc := 16) (v := nI 0) cx (dA ddX0_hasSort (i := 8) rfl) (by decide) ?_
    refine x_zreturn (pc := 17) cx (dA ddX0_hasSort (i := 9) rfl) (Nat.le_of_ble_eq_true rfl) (Nat.le_of_ble_eq_true rfl) rfl ?_
    refine rI ?_
    have e8 : (nI (N 4)).toInt = N 4 := nI_toInt (by omega)
    simp only [i32_lt, i32_le, toI_0] at c1
    try simp only [i32_lt, i32_le, toI_0, e8] at c9
    first | exact (b2i_t (by omega)).symm | exact (b2i_f (by omega)).symm
  · refine x_iload_n (pc := 4) cx (dA ddX0_hasSort (i := 2) rfl) rfl ?_
    refine x_aload_n (pc := 5) cx (dA ddX0_hasSort (i := 3) rfl) rfl ?_
    refine x_V0 (pc := 6) mX0_35 h0 (c_X0_sorts hH hV hB) cx (dA ddX0_hasSort (i := 4) rfl) (kI ?_)
    refine x_icmp_ge (pc := 9) (tgt := 16) cx (dA ddX0_hasSort (i := 5) rfl) (by decide) (fun c9 => ?_) (fun c9 => ?_)
    · refine x_iconst (pc := 16) (v := nI 0) cx (dA ddX0_hasSort (i := 8) rfl) (by decide) ?_
      refine x_zreturn (pc := 17) cx (dA ddX0_hasSort (i := 9) rfl) (Nat.le_of_ble_eq_true rfl) (Nat.le_of_ble_eq_true rfl) rfl ?_
      refine rI ?_
      have e8 : (nI (N 4)).toInt = N 4 := nI_toInt (by omega)
      simp only [i32_lt, i32_le, toI_0] at c1
      try simp only [i32_lt, i32_le, toI_0, e8] at c9
      first | exact (b2i_t (by omega)).symm | exact (b2i_f (by omega)).symm
    · refine x_iconst (pc := 12) (v := nI 1) cx (dA ddX0_hasSort (i := 6) rfl) (by decide) ?_
      refine x_goto (pc := 13) (tgt := 17) cx (dA ddX0_hasSort (i := 7) rfl) (by decide) ?_
      refine x_zreturn (pc := 17) cx (dA ddX0_hasSort (i := 9) rfl) (Nat.le_of_ble_eq_true rfl) (Nat.le_of_ble_eq_true rfl) rfl ?_
      refine rI ?_
      have e8 : (nI (N 4)).toInt = N 4 := nI_toInt (by omega)
      simp only [i32_lt, i32_le, toI_0] at c1
      try simp only [i32_lt, i32_le, toI_0, e8] at c9
      first | exact (b2i_t (by omega)).symm | exact (b2i_f (by omega)).symm
theorem c_X0_states {l : Launch} {Z : zP} {G : zG} {V : zV} {h : Nat} (hH : HouseAt Z G h) {N : Nat → Nat} (hV : HouseV V h N) (hB : HouseB N) : CT l Z yX0_states cX0_states 1 (some .int) 2 0 0 [.ref h] G V (pI (nI (5 ^ N 4)) G V) := by
  refine CT.of (by decide +kernel) (Nat.le_of_ble_eq_true rfl) (fun X hX cx => ?_)
  subst hX
  show Wm Z X 1 G V 0 0 _ 0 [(0, some (.ref h))] []
  have h0 := hH.1
  have hA := hH.2.2
  have b4 := hB.1
  have bN := hB.2
  refine x_aload_n (pc := 0) cx (dA ddX0_states (i := 0) rfl) rfl ?_
  refine x_V0 (pc := 1) mX0_35 h0 (c_X0_sorts hH hV hB) cx (dA ddX0_states (i := 1) rfl) (kI ?_)
  refine x_iconst (pc := 4) (v := nI 3) cx (dA ddX0_states (i := 2) rfl) (by decide) ?_
  refine x_icmp_ge (pc := 5) (tgt := 18) cx (dA ddX0_states (i := 3) rfl) (by decide) (fun c5 => ?_) (fun c5 => ?_)
  · have c5 := cleT (by omega) (by omega) c5
    refine x_bipush (pc := 18) (v := nI 125) cx (dA ddX0_states (i := 8) rfl) (by decide) ?_
    refine x_ireturn (pc := 20) cx (dA ddX0_states (i := 9) rfl) (Nat.le_of_ble_eq_true rfl) (Nat.le_of_ble_eq_true rfl) ?_
    first | exact rI rfl | (have e3 : N 4 = 3 := by omega) ; rw [e3] ; exact rI rfl
  · have c5 := cleF (by omega) (by omega) c5
    refine x_aload_n (pc := 8) cx (dA ddX0_states (i := 4) rfl) rfl ?_
    refine x_V0 (pc := 9) mX0_35 h0 (c_X0_sorts hH hV hB) cx (dA ddX0_states (i := 5) rfl) (kI ?_)
    refine x_SN1 (pc := 12) mX0_39 (c_X7_oneOf (by omega)) cx (dA ddX0_states (i := 6) rfl) (kI ?_)
    refine x_goto (pc := 15) (tgt := 20) cx (dA ddX0_states (i := 7) rfl) (by decide) ?_
    refine x_ireturn (pc := 20) cx (dA ddX0_states (i := 9) rfl) (Nat.le_of_ble_eq_true rfl) (Nat.le_of_ble_eq_true rfl) ?_
    first | exact rI rfl | (have e3 : N 4 = 3 := by omega) ; rw [e3] ; exact rI rfl
theorem c_X0_sumOf {l : Launch} {Z : zP} {G : zG} {V : zV} {h : Nat} (hH : HouseAt Z G h) {N : Nat → Nat} (hV : HouseV V h N) (hB : HouseB N) {s w : Nat} (hs : s < 125) (hw : w < 5) : CT l Z yX0_sumOf cX0_sumOf 5 (some .int) 2 0 0 [.ref h, .int (nI s), .int (nI w)] G V (pI (nI (sumP N s w)) G V) := by
  refine CT.of (by decide +kernel) (Nat.le_of_ble_eq_true rfl) (fun X hX cx => ?_)
  subst hX
  show Wm Z X 5 G V 0 0 _ 0 [(0, some (.ref h)), (1, some (.int (nI s))), (2, some (.int (nI w)))] []
  have h0 := hH.1
  have hA := hH.2.2
  have b4 := hB.1
  have bN := hB.2
  refine x_iconst (pc := 0) (v := nI 0) cx (dA ddX0_sumOf (i := 0) rfl) (by decide) ?_
  refine x_istore_n (pc := 1) cx (dA ddX0_sumOf (i := 1) rfl) (by decide) rfl ?_
  refine x_iconst (pc := 2) (v := nI 0) cx (dA ddX0_sumOf (i := 2) rfl) (by decide) ?_
  refine x_istore (pc := 3) cx (dA ddX0_sumOf (i := 3) rfl) (by decide) rfl ?_
  have L5 : ∀ i, i ≤ N 4 → Wm Z X 5 G V 0 0 (rQ Z X 0 0 (pI (nI (sumP N s w)) G V)) 5 [(0, some (.ref h)), (1, some (.int (nI s))), (2, some (.int (nI w))), (3, some (.int (nI (sumN i (fun k => dig s k * N (5 + 5 * k + w)))))), (4, some (.int (nI i)))] [] := by
    refine lpU (N 4) (fun i hi ih => ?_)
    refine x_iload (pc := 5) cx (dA ddX0_sumOf (i := 4) rfl) rfl ?_
    refine x_aload_n (pc := 7) cx (dA ddX0_sumOf (i := 5) rfl) rfl ?_
    refine x_V0 (pc := 8) mX0_35 h0 (c_X0_sorts hH hV hB) cx (dA ddX0_sumOf (i := 6) rfl) (kI ?_)
    refine x_icmp_ge (pc := 11) (tgt := 37) cx (dA ddX0_sumOf (i := 7) rfl) (by decide) (fun c11 => ?_) (fun c11 => ?_)
    · have c11 := cleT (by omega) (by omega) c11
      refine x_iload_n (pc := 37) cx (dA ddX0_sumOf (i := 21) rfl) rfl ?_
      refine x_ireturn (pc := 38) cx (dA ddX0_sumOf (i := 22) rfl) (Nat.le_of_ble_eq_true rfl) (Nat.le_of_ble_eq_true rfl) ?_
      have e : i = N 4 := by omega
      subst e
      exact rI rfl
    · have c11 := cleF (by omega) (by omega) c11
      refine x_iload_n (pc := 14) cx (dA ddX0_sumOf (i := 8) rfl) rfl ?_
      refine x_iload_n (pc := 15) cx (dA ddX0_sumOf (i := 9) rfl) rfl ?_
      refine x_iload (pc := 16) cx (dA ddX0_sumOf (i := 10) rfl) rfl ?_
      refine x_SN2 (pc := 18) mX0_42 (c_X7_standing hs (by omega)) cx (dA ddX0_sumOf (i := 11) rfl) (kI ?_)
      refine x_aload_n (pc := 21) cx (dA ddX0_sumOf (i := 12) rfl) rfl ?_
      refine x_iload (pc := 22) cx (dA ddX0_sumOf (i := 13) rfl) rfl ?_
      refine x_iload_n (pc := 24) cx (dA ddX0_sumOf (i := 14) rfl) rfl ?_
      refine x_V2 (pc := 25) mX0_45 h0 (c_X0_sortNumber hH hV hB (by omega) hw) cx (dA ddX0_sumOf (i := 15) rfl) (kI ?_)
      refine x_imul (pc := 28) cx (dA ddX0_sumOf (i := 16) rfl) ?_
      refine x_iadd (pc := 29) cx (dA ddX0_sumOf (i := 17) rfl) ?_
      rw [nI_cmul, nI_add]
      refine x_istore_n (pc := 30) cx (dA ddX0_sumOf (i := 18) rfl) (by decide) rfl ?_
      refine x_iinc (pc := 31) cx (dA ddX0_sumOf (i := 19) rfl) rfl (iinc1 _) (by decide) rfl ?_
      refine x_goto (pc := 34) (tgt := 5) cx (dA ddX0_sumOf (i := 20) rfl) (by decide) ?_
      exact x_enter (ih (by omega)) ⟨.inr rfl, .inr rfl, .inr rfl, .inr rfl, .inr rfl, trivial⟩
  exact x_enter (L5 0 (Nat.zero_le _)) ⟨.inr rfl, .inr rfl, .inr rfl, .inr rfl, .inr rfl, trivial⟩
theorem c_X0_goesWith {l : Launch} {Z : zP} {G : zG} {V : zV} {h : Nat} (hH : HouseAt Z G h) {N : Nat → Nat} (hV : HouseV V h N) (hB : HouseB N) {o : Nat} {M : Nat → Nat} (oH : HouseAt Z G o) (oV : HouseV V o M) (oB : HouseB M) : CT l Z yX0_goesWith cX0_goesWith 2 (some .boolean) 2 0 0 [.ref h, .ref o] G V (pI (b2i (N 0 = M 0 ∧ N 4 + M 4 ≤ 3)) G V) := by
  refine CT.of (by decide +kernel) (Nat.le_of_ble_eq_true rfl) (fun X hX cx => ?_)
  subst hX
  show Wm Z X 2 G V 0 0 _ 0 [(0, some (.ref h)), (1, some (.ref o))] []
  have h0 := hH.1
  have hA := hH.2.2
  have b4 := hB.1
  have bN := hB.2
  have o0 := oH.1
  have oA := oH.2.2
  have b4o := oB.1
  have bM := oB.2
  have n0 := bN 0 (by omega)
  have m0 := bM 0 (by omega)
  refine x_aload_n (pc := 0) cx (dA ddX0_goesWith (i := 0) rfl) rfl ?_
  refine x_V0 (pc := 1) mX0_48 h0 (c_X0_days hH hV hB) cx (dA ddX0_goesWith (i := 1) rfl) (kI ?_)
  refine x_aload_n (pc := 4) cx (dA ddX0_goesWith (i := 2) rfl) rfl ?_
  refine x_V0 (pc := 5) mX0_48 o0 (c_X0_days oH oV oB) cx (dA ddX0_goesWith (i := 3) rfl) (kI ?_)
  refine x_icmp_ne (pc := 8) (tgt := 28) cx (dA ddX0_goesWith (i := 4) rfl) (by decide) (fun c8 => ?_) (fun c8 => ?_)
  · have c8 := ceqF (by omega) (by omega) c8
    refine x_iconst (pc := 28) (v := nI 0) cx (dA ddX0_goesWith (i := 14) rfl) (by decide) ?_
    refine x_zreturn (pc := 29) cx (dA ddX0_goesWith (i := 15) rfl) (Nat.le_of_ble_eq_true rfl) (Nat.le_of_ble_eq_true rfl) rfl ?_
    refine rI ?_
    first | exact (b2i_t (by omega)).symm | exact (b2i_f (by omega)).symm
  · have c8 := ceqT (by omega) (by omega) c8
    refine x_aload_n (pc := 11) cx (dA ddX0_goesWith (i := 5) rfl) rfl ?_
    refine x_V0 (pc := 12) mX0_35 h0 (c_X0_sorts hH hV hB) cx (dA ddX0_goesWith (i := 6) rfl) (kI ?_)
    refine x_aload_n (pc := 15) cx (dA ddX0_goesWith (i := 7) rfl) rfl ?_
    refine x_V0 (pc := 16) mX0_35 o0 (c_X0_sorts oH oV oB) cx (dA ddX0_goesWith (i := 8) rfl) (kI ?_)
    refine x_iadd (pc := 19) cx (dA ddX0_goesWith (i := 9) rfl) ?_
    rw [nI_add]
    refine x_iconst (pc := 20) (v := nI 3) cx (dA ddX0_goesWith (i := 10) rfl) (by decide) ?_
    refine x_icmp_gt (pc := 21) (tgt := 28) cx (dA ddX0_goesWith (i := 11) rfl) (by decide) (fun c21 => ?_) (fun c21 => ?_)
    · have c21 := cltT (by omega) (by omega) c21
      refine x_iconst (pc := 28) (v := nI 0) cx (dA ddX0_goesWith (i := 14) rfl) (by decide) ?_
      refine x_zreturn (pc := 29) cx (dA ddX0_goesWith (i := 15) rfl) (Nat.le_of_ble_eq_true rfl) (Nat.le_of_ble_eq_true rfl) rfl ?_
      refine rI ?_
      first | exact (b2i_t (by omega)).symm | exact (b2i_f (by omega)).symm
    · have c21 := cltF (by omega) (by omega) c21
      refine x_iconst (pc := 24) (v := nI 1) cx (dA ddX0_goesWith (i := 12) rfl) (by decide) ?_
      refine x_goto (pc := 25) (tgt := 29) cx (dA ddX0_goesWith (i := 13) rfl) (by decide) ?_
      refine x_zreturn (pc := 29) cx (dA ddX0_goesWith (i := 15) rfl) (Nat.le_of_ble_eq_true rfl) (Nat.le_of_ble_eq_true rfl) rfl ?_
      refine rI ?_
      first | exact (b2i_t (by omega)).symm | exact (b2i_f (by omega)).symm
theorem c_X0_become {l : Launch} {Z : zP} {G : zG} {V : zV} {h : Nat} (hH : HouseAt Z G h) {o : Nat} (oH : HouseAt Z G o) : CT l Z yX0_become cX0_become 3 none 1 0 0 [.ref h, .ref o] G V (pV G (rAI V (h + 1) 0 20 (fun j => V.2.2.1 (o + 1) j))) := by
  refine CT.of (by decide +kernel) (Nat.le_of_ble_eq_true rfl) (fun X hX cx => ?_)
  subst hX
  show Wm Z X 3 G V 0 0 _ 0 [(0, some (.ref h)), (1, some (.ref o))] []
  have h0 := hH.1
  have hA := hH.2.2
  have o0 := oH.1
  have oA := oH.2.2
  refine x_iconst (pc := 0) (v := nI 0) cx (dA ddX0_become (i := 0) rfl) (by decide) ?_
  refine x_istore_n (pc := 1) cx (dA ddX0_become (i := 1) rfl) (by decide) rfl ?_
  have L2 : ∀ i, i ≤ 20 → Wm Z X 3 G (rAI V (h + 1) 0 i (fun j => V.2.2.1 (o + 1) j)) 0 0 (rQ Z X 0 0 (pV G (rAI V (h + 1) 0 20 (fun j => V.2.2.1 (o + 1) j)))) 2 [(0, some (.ref h)), (1, some (.ref o)), (2, some (.int (nI i)))] [] := by
    refine lpU 20 (fun i hi ih => ?_)
    refine x_iload_n (pc := 2) cx (dA ddX0_become (i := 2) rfl) rfl ?_
    refine x_aload_n (pc := 3) cx (dA ddX0_become (i := 3) rfl) rfl ?_
    refine gX0_9 (pc := 4) (rfA hH.2.1) cx (dA ddX0_become (i := 4) rfl) h0 ?_
    refine x_alen (pc := 7) cx (dA ddX0_become (i := 5) rfl) hA (by decide) ?_
    refine x_icmp_ge (pc := 8) (tgt := 31) cx (dA ddX0_become (i := 6) rfl) (by decide) (fun c8 => ?_) (fun c8 => ?_)
    · have c8 := cleT (by omega) (by omega) c8
      have e : i = 20 := by omega
      subst e
      refine x_return (pc := 31) cx (dA ddX0_become (i := 17) rfl) (Nat.le_of_ble_eq_true rfl) (Nat.le_of_ble_eq_true rfl) ?_
      exact ⟨rfl, rfl, rfl⟩
    · have c8 := cleF (by omega) (by omega) c8
      refine x_aload_n (pc := 11) cx (dA ddX0_become (i := 7) rfl) rfl ?_
      refine gX0_9 (pc := 12) (rfA hH.2.1) cx (dA ddX0_become (i := 8) rfl) h0 ?_
      refine x_iload_n (pc := 15) cx (dA ddX0_become (i := 9) rfl) rfl ?_
      refine x_aload_n (pc := 16) cx (dA ddX0_become (i := 10) rfl) rfl ?_
      refine gX0_9 (pc := 17) (rfA oH.2.1) cx (dA ddX0_become (i := 11) rfl) o0 ?_
      refine x_iload_n (pc := 20) cx (dA ddX0_become (i := 12) rfl) rfl ?_
      refine x_SN2 (pc := 21) mX0_19 (c_X7_at oA (by omega)) cx (dA ddX0_become (i := 13) rfl) (kI ?_)
      rw [atI_in (by omega) (by omega)]
      refine x_iastore (pc := 24) cx (dA ddX0_become (i := 14) rfl) hA (by omega) (by omega) ?_
      rw [rAI_s0 V (h + 1) i (fun j => V.2.2.1 (o + 1) j) (v := (rAI V (h + 1) 0 i (fun j => V.2.2.1 (o + 1) j)).2.2.1 (o + 1) i) (rw2_self V (o + 1) (h + 1) i)]
      refine x_iinc (pc := 25) cx (dA ddX0_become (i := 15) rfl) rfl (iinc1 _) (by decide) rfl ?_
      refine x_goto (pc := 28) (tgt := 2) cx (dA ddX0_become (i := 16) rfl) (by decide) ?_
      exact x_enter (ih (by omega)) ⟨.inr rfl, .inr rfl, .inr rfl, trivial⟩
  have L := L2 0 (Nat.zero_le _)
  rw [rAI_0] at L
  exact x_enter L ⟨.inr rfl, .inr rfl, .inr rfl, trivial⟩
theorem c_X0_isLike {l : Launch} {Z : zP} {G : zG} {V : zV} {h : Nat} (hH : HouseAt Z G h) {N : Nat → Nat} (hV : HouseV V h N) (hB : HouseB N) {o : Nat} {M : Nat → Nat} (oH : HouseAt Z G o) (oV : HouseV V o M) (oB : HouseB M) : CT l Z yX0_isLike cX0_isLike 3 (some .boolean) 1 0 0 [.ref h, .ref o] G V (pI (b2p (likeP N M)) G V) := by
  refine CT.of (by decide +kernel) (Nat.le_of_ble_eq_true rfl) (fun X hX cx => ?_)
  subst hX
  show Wm Z X 3 G V 0 0 _ 0 [(0, some (.ref h)), (1, some (.ref o))] []
  have h0 := hH.1
  have hA := hH.2.2
  have b4 := hB.1
  have bN := hB.2
  have o0 := oH.1
  have oA := oH.2.2
  have b4o := oB.1
  have bM := oB.2
  refine x_iconst (pc := 0) (v := nI 0) cx (dA ddX0_isLike (i := 0) rfl) (by decide) ?_
  refine x_istore_n (pc := 1) cx (dA ddX0_isLike (i := 1) rfl) (by decide) rfl ?_
  have L2 : ∀ i, i ≤ 20 → (∀ j, j < i → N j = M j) → Wm Z X 3 G V 0 0 (rQ Z X 0 0 (pI (b2p (likeP N M)) G V)) 2 [(0, some (.ref h)), (1, some (.ref o)), (2, some (.int (nI i)))] [] := by
    refine lpU 20 (fun i hi ih => ?_)
    intro hq
    refine x_iload_n (pc := 2) cx (dA ddX0_isLike (i := 2) rfl) rfl ?_
    refine x_aload_n (pc := 3) cx (dA ddX0_isLike (i := 3) rfl) rfl ?_
    refine gX0_9 (pc := 4) (rfA hH.2.1) cx (dA ddX0_isLike (i := 4) rfl) h0 ?_
    refine x_alen (pc := 7) cx (dA ddX0_isLike (i := 5) rfl) hA (by decide) ?_
    refine x_icmp_ge (pc := 8) (tgt := 36) cx (dA ddX0_isLike (i := 6) rfl) (by decide) (fun c8 => ?_) (fun c8 => ?_)
    · have c8 := cleT (by omega) (by omega) c8
      refine x_iconst (pc := 36) (v := nI 1) cx (dA ddX0_isLike (i := 20) rfl) (by decide) ?_
      refine x_zreturn (pc := 37) cx (dA ddX0_isLike (i := 21) rfl) (Nat.le_of_ble_eq_true rfl) (Nat.le_of_ble_eq_true rfl) rfl ?_
      exact rI (b2p_t (fun j hj => hq j (by omega))).symm
    · have c8 := cleF (by omega) (by omega) c8
      refine x_aload_n (pc := 11) cx (dA ddX0_isLike (i := 7) rfl) rfl ?_
      refine gX0_9 (pc := 12) (rfA hH.2.1) cx (dA ddX0_isLike (i := 8) rfl) h0 ?_
      refine x_iload_n (pc := 15) cx (dA ddX0_isLike (i := 9) rfl) rfl ?_
      refine x_iaload (pc := 16) cx (dA ddX0_isLike (i := 10) rfl) hA (by omega) (by omega) ?_
      refine x_aload_n (pc := 17) cx (dA ddX0_isLike (i := 11) rfl) rfl ?_
      refine gX0_9 (pc := 18) (rfA oH.2.1) cx (dA ddX0_isLike (i := 12) rfl) o0 ?_
      refine x_iload_n (pc := 21) cx (dA ddX0_isLike (i := 13) rfl) rfl ?_
      refine x_SN2 (pc := 22) mX0_19 (c_X7_at oA (by omega)) cx (dA ddX0_isLike (i := 14) rfl) (kI ?_)
      rw [atI_in (by omega) (by omega), hV i (by omega), oV i (by omega)]
      have n1 := bN i (by omega)
      have m1 := bM i (by omega)
      refine x_icmp_eq (pc := 25) (tgt := 30) cx (dA ddX0_isLike (i := 15) rfl) (by decide) (fun c25 => ?_) (fun c25 => ?_)
      · have c25 := ceqT (by omega) (by omega) c25
        refine x_iinc (pc := 30) cx (dA ddX0_isLike (i := 18) rfl) rfl (iinc1 _) (by decide) rfl ?_
        refine x_goto (pc := 33) (tgt := 2) cx (dA ddX0_isLike (i := 19) rfl) (by decide) ?_
        exact x_enter (ih (by omega) (lt_s hq c25)) ⟨.inr rfl, .inr rfl, .inr rfl, trivial⟩
      · have c25 := ceqF (by omega) (by omega) c25
        refine x_iconst (pc := 28) (v := nI 0) cx (dA ddX0_isLike (i := 16) rfl) (by decide) ?_
        refine x_zreturn (pc := 29) cx (dA ddX0_isLike (i := 17) rfl) (Nat.le_of_ble_eq_true rfl) (Nat.le_of_ble_eq_true rfl) rfl ?_
        exact rI (b2p_f (fun q => c25 (q i (by omega)))).symm
  exact x_enter (L2 0 (Nat.zero_le _) lt_0) ⟨.inr rfl, .inr rfl, .inr rfl, trivial⟩
theorem c_X0_clear {l : Launch} {Z : zP} {G : zG} {V : zV} {h : Nat} (hH : HouseAt Z G h) : CT l Z yX0_clear cX0_clear 2 none 2 0 0 [.ref h] G V (pV G (rAI V (h + 1) 0 20 (fun j => nI (clearP j)))) := by
  refine CT.of (by decide +kernel) (Nat.le_of_ble_eq_true rfl) (fun X hX cx => ?_)
  subst hX
  show Wm Z X 2 G V 0 0 _ 0 [(0, some (.ref h))] []
  have h0 := hH.1
  have hA := hH.2.2
  refine x_iconst (pc := 0) (v := nI 0) cx (dA ddX0_clear (i := 0) rfl) (by decide) ?_
  refine x_istore_n (pc := 1) cx (dA ddX0_clear (i := 1) rfl) (by decide) rfl ?_
  have L2 : ∀ i, i ≤ 20 → Wm Z X 2 G (rAI V (h + 1) 0 i (fun _ => nI 0)) 0 0 (rQ Z X 0 0 (pV G (rAI V (h + 1) 0 20 (fun j => nI (clearP j))))) 2 [(0, some (.ref h)), (1, some (.int (nI i)))] [] := by
    refine lpU 20 (fun i hi ih => ?_)
    refine x_iload_n (pc := 2) cx (dA ddX0_clear (i := 2) rfl) rfl ?_
    refine x_aload_n (pc := 3) cx (dA ddX0_clear (i := 3) rfl) rfl ?_
    refine gX0_9 (pc := 4) (rfA hH.2.1) cx (dA ddX0_clear (i := 4) rfl) h0 ?_
    refine x_alen (pc := 7) cx (dA ddX0_clear (i := 5) rfl) hA (by decide) ?_
    refine x_icmp_ge (pc := 8) (tgt := 24) cx (dA ddX0_clear (i := 6) rfl) (by decide) (fun c8 => ?_) (fun c8 => ?_)
    · have c8 := cleT (by omega) (by omega) c8
      have e : i = 20 := by omega
      subst e
      refine x_aload_n (pc := 24) cx (dA ddX0_clear (i := 14) rfl) rfl ?_
      refine x_iconst (pc := 25) (v := nI 0) cx (dA ddX0_clear (i := 15) rfl) (by decide) ?_
      refine x_iconst (pc := 26) (v := nI 3) cx (dA ddX0_clear (i := 16) rfl) (by decide) ?_
      refine x_V2 (pc := 27) mX0_15 h0 (c_X0_putNumber hH (by omega)) cx (dA ddX0_clear (i := 17) rfl) (kV ?_)
      refine x_aload_n (pc := 30) cx (dA ddX0_clear (i := 18) rfl) rfl ?_
      refine x_iconst (pc := 31) (v := nI 1) cx (dA ddX0_clear (i := 19) rfl) (by decide) ?_
      refine x_bipush (pc := 32) (v := nI 10) cx (dA ddX0_clear (i := 20) rfl) (by decide) ?_
      refine x_V2 (pc := 34) mX0_15 h0 (c_X0_putNumber hH (by omega)) cx (dA ddX0_clear (i := 21) rfl) (kV ?_)
      refine x_aload_n (pc := 37) cx (dA ddX0_clear (i := 22) rfl) rfl ?_
      refine x_iconst (pc := 38) (v := nI 2) cx (dA ddX0_clear (i := 23) rfl) (by decide) ?_
      refine x_bipush (pc := 39) (v := nI 10) cx (dA ddX0_clear (i := 24) rfl) (by decide) ?_
      refine x_V2 (pc := 41) mX0_15 h0 (c_X0_putNumber hH (by omega)) cx (dA ddX0_clear (i := 25) rfl) (kV ?_)
      refine x_return (pc := 44) cx (dA ddX0_clear (i := 26) rfl) (Nat.le_of_ble_eq_true rfl) (Nat.le_of_ble_eq_true rfl) ?_
      refine ⟨rfl, rfl, ?_⟩
      exact (clear_eq V h).symm
    · have c8 := cleF (by omega) (by omega) c8
      refine x_aload_n (pc := 11) cx (dA ddX0_clear (i := 7) rfl) rfl ?_
      refine gX0_9 (pc := 12) (rfA hH.2.1) cx (dA ddX0_clear (i := 8) rfl) h0 ?_
      refine x_iload_n (pc := 15) cx (dA ddX0_clear (i := 9) rfl) rfl ?_
      refine x_iconst (pc := 16) (v := nI 0) cx (dA ddX0_clear (i := 10) rfl) (by decide) ?_
      refine x_iastore (pc := 17) cx (dA ddX0_clear (i := 11) rfl) hA (by omega) (by omega) ?_
      rw [rAI_s0 V (h + 1) i (fun _ => nI 0) (v := nI 0) rfl]
      refine x_iinc (pc := 18) cx (dA ddX0_clear (i := 12) rfl) rfl (iinc1 _) (by decide) rfl ?_
      refine x_goto (pc := 21) (tgt := 2) cx (dA ddX0_clear (i := 13) rfl) (by decide) ?_
      exact x_enter (ih (by omega)) ⟨.inr rfl, .inr rfl, trivial⟩
  have L := L2 0 (Nat.zero_le _)
  rw [rAI_0] at L
  exact x_enter L ⟨.inr rfl, .inr rfl, trivial⟩
