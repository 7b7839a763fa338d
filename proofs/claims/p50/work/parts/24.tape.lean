def nhV (o : Option Nat) : Int32 := match o with
  | some v => nI v
  | none => -1
theorem kOf_dig {b : Nat} (h : kOf b = 2) : 48 ≤ b ∧ b ≤ 57 := by
  unfold kOf at h
  split at h
  · cases h
  · split at h
    · assumption
    · split at h <;> cases h
theorem numD_lt {B : Nat → Nat} {f n : Nat} (hn : n ≤ 2) (h : ∀ j, f ≤ j → j < f + n → kOf (B j) = 2) : numD B f n ≤ 99 := by
  rcases (show n = 0 ∨ n = 1 ∨ n = 2 by omega) with rfl | rfl | rfl
  · exact Nat.zero_le _
  · have h0 := kOf_dig (h f (by omega) (by omega))
    show 10 * 0 + (B (f + 0) - 48) ≤ 99
    rw [Nat.add_zero]
    omega
  · have h0 := kOf_dig (h f (by omega) (by omega))
    have h1 := kOf_dig (h (f + 1) (by omega) (by omega))
    show 10 * (10 * 0 + (B (f + 0) - 48)) + (B (f + 1) - 48) ≤ 99
    rw [Nat.add_zero]
    omega
theorem c_X4_init {l : Launch} {Z : zP} {G : zG} {V : zV} {t : Nat} (h0 : isK Z G t 4) (ht : G.1 = t + 1) : CT l Z yX4_init cX4_init 1 none 1 1 160 [.ref t] G V (pV (sR (nG G (9 + 0) 160) 200 t (some (t + 1))) V) := by
  refine CT.of (by decide +kernel) (Nat.le_of_ble_eq_true rfl) (fun X hX cx => ?_)
  subst hX
  show Wm Z X 1 G V 0 0 _ 0 [(0, some (.ref t))] []
  refine x_aload_n (pc := 0) cx (dA ddX4_init (i := 0) rfl) rfl ?_
  refine x_objInit (pc := 1) koX4_3 ko_i ko_c cx (dA ddX4_init (i := 1) rfl) (by decide) (Nat.le_of_ble_eq_true rfl) ?_
  refine x_aload_n (pc := 4) cx (dA ddX4_init (i := 2) rfl) rfl ?_
  refine x_sipush (pc := 5) (v := nI 160) cx (dA ddX4_init (i := 3) rfl) (by decide) ?_
  refine x_newB (pc := 8) cx (dA ddX4_init (i := 4) rfl) (by decide) ?_
  rw [ht]
  refine pX4_9 (pc := 10) (x := some (t + 1)) cx (dA ddX4_init (i := 5) rfl) (isK_nG h0) ?_
  refine x_return (pc := 13) cx (dA ddX4_init (i := 6) rfl) (by first | exact Nat.le_of_ble_eq_true rfl | omega) (by first | exact Nat.le_of_ble_eq_true rfl | omega) ?_
  exact ⟨rfl, rfl, rfl⟩
theorem c_X4_hasPlaceFor {l : Launch} {Z : zP} {G : zG} {V : zV} {t : Nat} (hT : TapeAt Z G t) {B : Nat → Nat} {S : Nat} (hV : TapeV V t B S) {n : Nat} (hn : n ≤ 4) : CT l Z yX4_hasPlaceFor cX4_hasPlaceFor 2 (some .boolean) 0 0 0 [.ref t, .int (nI n)] G V (pI (b2i (n ≤ 160 - S)) G V) := by
  refine CT.of (by decide +kernel) (Nat.le_of_ble_eq_true rfl) (fun X hX cx => ?_)
  subst hX
  show Wm Z X 2 G V 0 0 _ 0 [(0, some (.ref t)), (1, some (.int (nI n)))] []
  have h0 := hT.1
  have hA := hT.2.2
  have vS := hV.1
  have vB := hV.2.1
  have hS := hV.2.2.1
  have b256 := hV.2.2.2
  refine x_iload_n (pc := 0) cx (dA ddX4_hasPlaceFor (i := 0) rfl) rfl ?_
  refine x_aload_n (pc := 1) cx (dA ddX4_hasPlaceFor (i := 1) rfl) rfl ?_
  refine gX4_9 (pc := 2) (rfA hT.2.1) cx (dA ddX4_hasPlaceFor (i := 2) rfl) h0 ?_
  refine x_alen (pc := 5) cx (dA ddX4_hasPlaceFor (i := 3) rfl) hA (by decide) ?_
  refine x_aload_n (pc := 6) cx (dA ddX4_hasPlaceFor (i := 4) rfl) rfl ?_
  refine gX4_15 (pc := 7) (congrArg Value.int vS) cx (dA ddX4_hasPlaceFor (i := 5) rfl) h0 ?_
  refine x_isub (pc := 10) cx (dA ddX4_hasPlaceFor (i := 6) rfl) ?_
  rw [pk_sub hS]
  refine x_icmp_gt (pc := 11) (tgt := 18) cx (dA ddX4_hasPlaceFor (i := 7) rfl) (by decide) (fun c11 => ?_) (fun c11 => ?_)
  · have c11 := cltT (by omega) (by omega) c11
    refine x_iconst (pc := 18) (v := nI 0) cx (dA ddX4_hasPlaceFor (i := 10) rfl) (by decide) ?_
    refine x_zreturn (pc := 19) cx (dA ddX4_hasPlaceFor (i := 11) rfl) (by first | exact Nat.le_of_ble_eq_true rfl | omega) (by first | exact Nat.le_of_ble_eq_true rfl | omega) rfl ?_
    refine rI ?_
    first | exact (b2i_t (by omega)).symm | exact (b2i_f (by omega)).symm
  · have c11 := cltF (by omega) (by omega) c11
    refine x_iconst (pc := 14) (v := nI 1) cx (dA ddX4_hasPlaceFor (i := 8) rfl) (by decide) ?_
    refine x_goto (pc := 15) (tgt := 19) cx (dA ddX4_hasPlaceFor (i := 9) rfl) (by decide) ?_
    refine x_zreturn (pc := 19) cx (dA ddX4_hasPlaceFor (i := 11) rfl) (by first | exact Nat.le_of_ble_eq_true rfl | omega) (by first | exact Nat.le_of_ble_eq_true rfl | omega) rfl ?_
    refine rI ?_
    first | exact (b2i_t (by omega)).symm | exact (b2i_f (by omega)).symm
theorem c_X4_clear {l : Launch} {Z : zP} {G : zG} {V : zV} {t : Nat} (hT : TapeAt Z G t) {B : Nat → Nat} {S : Nat} (hV : TapeV V t B S) : CT l Z yX4_clear cX4_clear 2 (some .int) 0 0 0 [.ref t] G V (pI (nI S) G (sI V 201 t (nI 0))) := by
  refine CT.of (by decide +kernel) (Nat.le_of_ble_eq_true rfl) (fun X hX cx => ?_)
  subst hX
  show Wm Z X 2 G V 0 0 _ 0 [(0, some (.ref t))] []
  have h0 := hT.1
  have hA := hT.2.2
  have vS := hV.1
  have vB := hV.2.1
  have hS := hV.2.2.1
  have b256 := hV.2.2.2
  refine x_aload_n (pc := 0) cx (dA ddX4_clear (i := 0) rfl) rfl ?_
  refine gX4_15 (pc := 1) (congrArg Value.int vS) cx (dA ddX4_clear (i := 1) rfl) h0 ?_
  refine x_istore_n (pc := 4) cx (dA ddX4_clear (i := 2) rfl) (by decide) rfl ?_
  refine x_aload_n (pc := 5) cx (dA ddX4_clear (i := 3) rfl) rfl ?_
  refine x_iconst (pc := 6) (v := nI 0) cx (dA ddX4_clear (i := 4) rfl) (by decide) ?_
  refine pX4_15 (pc := 7)  cx (dA ddX4_clear (i := 5) rfl) h0 ?_
  refine x_iload_n (pc := 10) cx (dA ddX4_clear (i := 6) rfl) rfl ?_
  refine x_ireturn (pc := 11) cx (dA ddX4_clear (i := 7) rfl) (by first | exact Nat.le_of_ble_eq_true rfl | omega) (by first | exact Nat.le_of_ble_eq_true rfl | omega) ?_
  exact ⟨rfl, rfl, rfl⟩
theorem c_X4_byteAt {l : Launch} {Z : zP} {G : zG} {V : zV} {t : Nat} (hT : TapeAt Z G t) {B : Nat → Nat} {S : Nat} (hV : TapeV V t B S) {j : Nat} (hj : j < S) : CT l Z yX4_byteAt cX4_byteAt 2 (some .int) 0 0 0 [.ref t, .int (nI j)] G V (pI (sb (B j)) G V) := by
  refine CT.of (by decide +kernel) (Nat.le_of_ble_eq_true rfl) (fun X hX cx => ?_)
  subst hX
  show Wm Z X 2 G V 0 0 _ 0 [(0, some (.ref t)), (1, some (.int (nI j)))] []
  have h0 := hT.1
  have hA := hT.2.2
  have vS := hV.1
  have vB := hV.2.1
  have hS := hV.2.2.1
  have b256 := hV.2.2.2
  refine x_iload_n (pc := 0) cx (dA ddX4_byteAt (i := 0) rfl) rfl ?_
  refine x_if_lt (pc := 1) (tgt := 30) cx (dA ddX4_byteAt (i := 1) rfl) (by decide) (fun c1 => absurd c1 (nI_pos (by omega))) (fun c1 => ?_)
  refine x_iload_n (pc := 4) cx (dA ddX4_byteAt (i := 2) rfl) rfl ?_
  refine x_aload_n (pc := 5) cx (dA ddX4_byteAt (i := 3) rfl) rfl ?_
  refine gX4_15 (pc := 6) (congrArg Value.int vS) cx (dA ddX4_byteAt (i := 4) rfl) h0 ?_
  refine x_icmp_ge (pc := 9) (tgt := 30) cx (dA ddX4_byteAt (i := 5) rfl) (by decide) (fun c9 => absurd c9 (nI_ge (by omega) (by omega))) (fun c9 => ?_)
  refine x_iload_n (pc := 12) cx (dA ddX4_byteAt (i := 6) rfl) rfl ?_
  refine x_aload_n (pc := 13) cx (dA ddX4_byteAt (i := 7) rfl) rfl ?_
  refine gX4_9 (pc := 14) (rfA hT.2.1) cx (dA ddX4_byteAt (i := 8) rfl) h0 ?_
  refine x_alen (pc := 17) cx (dA ddX4_byteAt (i := 9) rfl) hA (by decide) ?_
  refine x_icmp_ge (pc := 18) (tgt := 30) cx (dA ddX4_byteAt (i := 10) rfl) (by decide) (fun c18 => absurd c18 (nI_ge (by omega) (by omega))) (fun c18 => ?_)
  refine x_aload_n (pc := 21) cx (dA ddX4_byteAt (i := 11) rfl) rfl ?_
  refine gX4_9 (pc := 22) (rfA hT.2.1) cx (dA ddX4_byteAt (i := 12) rfl) h0 ?_
  refine x_iload_n (pc := 25) cx (dA ddX4_byteAt (i := 13) rfl) rfl ?_
  refine x_baload (pc := 26) cx (dA ddX4_byteAt (i := 14) rfl) hA (by omega) (by omega) ?_
  refine x_goto (pc := 27) (tgt := 31) cx (dA ddX4_byteAt (i := 15) rfl) (by decide) ?_
  refine x_ireturn (pc := 31) cx (dA ddX4_byteAt (i := 17) rfl) (by first | exact Nat.le_of_ble_eq_true rfl | omega) (by first | exact Nat.le_of_ble_eq_true rfl | omega) ?_
  exact rI (vB j (by omega))
theorem c_X4_kindOf {l : Launch} {Z : zP} {G : zG} {V : zV} {b : Nat} (hb : b < 256) : CT l Z yX4_kindOf cX4_kindOf 1 (some .int) 0 0 0 [.int (sb b)] G V (pI (nI (kOf b)) G V) := by
  refine CT.of (by decide +kernel) (Nat.le_of_ble_eq_true rfl) (fun X hX cx => ?_)
  subst hX
  show Wm Z X 1 G V 0 0 _ 0 [(0, some (.int (sb b)))] []
  have tb := sb_toInt hb
  have t97 : (nI 97).toInt = 97 := rfl
  have t122 : (nI 122).toInt = 122 := rfl
  have t48 : (nI 48).toInt = 48 := rfl
  have t57 : (nI 57).toInt = 57 := rfl
  have t59 : (nI 59).toInt = 59 := rfl
  refine x_iload_n (pc := 0) cx (dA ddX4_kindOf (i := 0) rfl) rfl ?_
  refine x_bipush (pc := 1) (v := nI 97) cx (dA ddX4_kindOf (i := 1) rfl) (by decide) ?_
  refine x_icmp_lt (pc := 3) (tgt := 14) cx (dA ddX4_kindOf (i := 2) rfl) (by decide) (fun c3 => ?_) (fun c3 => ?_)
  · refine x_iload_n (pc := 14) cx (dA ddX4_kindOf (i := 8) rfl) rfl ?_
    refine x_bipush (pc := 15) (v := nI 48) cx (dA ddX4_kindOf (i := 9) rfl) (by decide) ?_
    refine x_icmp_lt (pc := 17) (tgt := 28) cx (dA ddX4_kindOf (i := 10) rfl) (by decide) (fun c17 => ?_) (fun c17 => ?_)
    · refine x_iload_n (pc := 28) cx (dA ddX4_kindOf (i := 16) rfl) rfl ?_
      refine x_bipush (pc := 29) (v := nI 59) cx (dA ddX4_kindOf (i := 17) rfl) (by decide) ?_
      refine x_icmp_ne (pc := 31) (tgt := 38) cx (dA ddX4_kindOf (i := 18) rfl) (by decide) (fun c31 => ?_) (fun c31 => ?_)
      · (try simp only [i32_lt, i32_eq, tb, t97, t122, t48, t57, t59] at c3)
        (try simp only [i32_lt, i32_eq, tb, t97, t122, t48, t57, t59] at c9)
        (try simp only [i32_lt, i32_eq, tb, t97, t122, t48, t57, t59] at c17)
        (try simp only [i32_lt, i32_eq, tb, t97, t122, t48, t57, t59] at c23)
        (try simp only [i32_lt, i32_eq, tb, t97, t122, t48, t57, t59] at c31)
        have e : kOf b = 4 := by
          unfold kOf
          split at * <;> (repeat' split) <;> omega
        refine x_iconst (pc := 38) (v := nI 4) cx (dA ddX4_kindOf (i := 21) rfl) (by decide) ?_
        refine x_ireturn (pc := 39) cx (dA ddX4_kindOf (i := 22) rfl) (by first | exact Nat.le_of_ble_eq_true rfl | omega) (by first | exact Nat.le_of_ble_eq_true rfl | omega) ?_
        exact rI (by rw [e])
      · (try simp only [i32_lt, i32_eq, tb, t97, t122, t48, t57, t59] at c3)
        (try simp only [i32_lt, i32_eq, tb, t97, t122, t48, t57, t59] at c9)
        (try simp only [i32_lt, i32_eq, tb, t97, t122, t48, t57, t59] at c17)
        (try simp only [i32_lt, i32_eq, tb, t97, t122, t48, t57, t59] at c23)
        (try simp only [i32_lt, i32_eq, tb, t97, t122, t48, t57, t59] at c31)
        have e : kOf b = 3 := by
          unfold kOf
          split at * <;> (repeat' split) <;> omega
        refine x_iconst (pc := 34) (v := nI 3) cx (dA ddX4_kindOf (i := 19) rfl) (by decide) ?_
        refine x_goto (pc := 35) (tgt := 39) cx (dA ddX4_kindOf (i := 20) rfl) (by decide) ?_
        refine x_ireturn (pc := 39) cx (dA ddX4_kindOf (i := 22) rfl) (by first | exact Nat.le_of_ble_eq_true rfl | omega) (by first | exact Nat.le_of_ble_eq_true rfl | omega) ?_
        exact rI (by rw [e])
    · refine x_iload_n (pc := 20) cx (dA ddX4_kindOf (i := 11) rfl) rfl ?_
      refine x_bipush (pc := 21) (v := nI 57) cx (dA ddX4_kindOf (i := 12) rfl) (by decide) ?_
      refine x_icmp_gt (pc := 23) (tgt := 28) cx (dA ddX4_kindOf (i := 13) rfl) (by decide) (fun c23 => ?_) (fun c23 => ?_)
      · refine x_iload_n (pc := 28) cx (dA ddX4_kindOf (i := 16) rfl) rfl ?_
        refine x_bipush (pc := 29) (v := nI 59) cx (dA ddX4_kindOf (i := 17) rfl) (by decide) ?_
        refine x_icmp_ne (pc := 31) (tgt := 38) cx (dA ddX4_kindOf (i := 18) rfl) (by decide) (fun c31 => ?_) (fun c31 => ?_)
        · (try simp only [i32_lt, i32_eq, tb, t97, t122, t48, t57, t59] at c3)
          (try simp only [i32_lt, i32_eq, tb, t97, t122, t48, t57, t59] at c9)
          (try simp only [i32_lt, i32_eq, tb, t97, t122, t48, t57, t59] at c17)
          (try simp only [i32_lt, i32_eq, tb, t97, t122, t48, t57, t59] at c23)
          (try simp only [i32_lt, i32_eq, tb, t97, t122, t48, t57, t59] at c31)
          have e : kOf b = 4 := by
            unfold kOf
            split at * <;> (repeat' split) <;> omega
          refine x_iconst (pc := 38) (v := nI 4) cx (dA ddX4_kindOf (i := 21) rfl) (by decide) ?_
          refine x_ireturn (pc := 39) cx (dA ddX4_kindOf (i := 22) rfl) (by first | exact Nat.le_of_ble_eq_true rfl | omega) (by first | exact Nat.le_of_ble_eq_true rfl | omega) ?_
          exact rI (by rw [e])
        · (try simp only [i32_lt, i32_eq, tb, t97, t122, t48, t57, t59] at c3)
          (try simp only [i32_lt, i32_eq, tb, t97, t122, t48, t57, t59] at c9)
          (try simp only [i32_lt, i32_eq, tb, t97, t122, t48, t57, t59] at c17)
          (try simp only [i32_lt, i32_eq, tb, t97, t122, t48, t57, t59] at c23)
          (try simp only [i32_lt, i32_eq, tb, t97, t122, t48, t57, t59] at c31)
          have e : kOf b = 3 := by
            unfold kOf
            split at * <;> (repeat' split) <;> omega
          refine x_iconst (pc := 34) (v := nI 3) cx (dA ddX4_kindOf (i := 19) rfl) (by decide) ?_
          refine x_goto (pc := 35) (tgt := 39) cx (dA ddX4_kindOf (i := 20) rfl) (by decide) ?_
          refine x_ireturn (pc := 39) cx (dA ddX4_kindOf (i := 22) rfl) (by first | exact Nat.le_of_ble_eq_true rfl | omega) (by first | exact Nat.le_of_ble_eq_true rfl | omega) ?_
          exact rI (by rw [e])
      · refine x_iconst (pc := 26) (v := nI 2) cx (dA ddX4_kindOf (i := 14) rfl) (by decide) ?_
        refine x_ireturn (pc := 27) cx (dA ddX4_kindOf (i := 15) rfl) (by first | exact Nat.le_of_ble_eq_true rfl | omega) (by first | exact Nat.le_of_ble_eq_true rfl | omega) ?_
        refine rI ?_
        (try simp only [i32_lt, i32_eq, tb, t97, t122, t48, t57, t59] at c3)
        (try simp only [i32_lt, i32_eq, tb, t97, t122, t48, t57, t59] at c9)
        (try simp only [i32_lt, i32_eq, tb, t97, t122, t48, t57, t59] at c17)
        (try simp only [i32_lt, i32_eq, tb, t97, t122, t48, t57, t59] at c23)
        have e : kOf b = 2 := by
          unfold kOf
          split at * <;> (repeat' split) <;> omega
        rw [e]
  · refine x_iload_n (pc := 6) cx (dA ddX4_kindOf (i := 3) rfl) rfl ?_
    refine x_bipush (pc := 7) (v := nI 122) cx (dA ddX4_kindOf (i := 4) rfl) (by decide) ?_
    refine x_icmp_gt (pc := 9) (tgt := 14) cx (dA ddX4_kindOf (i := 5) rfl) (by decide) (fun c9 => ?_) (fun c9 => ?_)
    · refine x_iload_n (pc := 14) cx (dA ddX4_kindOf (i := 8) rfl) rfl ?_
      refine x_bipush (pc := 15) (v := nI 48) cx (dA ddX4_kindOf (i := 9) rfl) (by decide) ?_
      refine x_icmp_lt (pc := 17) (tgt := 28) cx (dA ddX4_kindOf (i := 10) rfl) (by decide) (fun c17 => ?_) (fun c17 => ?_)
      · refine x_iload_n (pc := 28) cx (dA ddX4_kindOf (i := 16) rfl) rfl ?_
        refine x_bipush (pc := 29) (v := nI 59) cx (dA ddX4_kindOf (i := 17) rfl) (by decide) ?_
        refine x_icmp_ne (pc := 31) (tgt := 38) cx (dA ddX4_kindOf (i := 18) rfl) (by decide) (fun c31 => ?_) (fun c31 => ?_)
        · (try simp only [i32_lt, i32_eq, tb, t97, t122, t48, t57, t59] at c3)
          (try simp only [i32_lt, i32_eq, tb, t97, t122, t48, t57, t59] at c9)
          (try simp only [i32_lt, i32_eq, tb, t97, t122, t48, t57, t59] at c17)
          (try simp only [i32_lt, i32_eq, tb, t97, t122, t48, t57, t59] at c23)
          (try simp only [i32_lt, i32_eq, tb, t97, t122, t48, t57, t59] at c31)
          have e : kOf b = 4 := by
            unfold kOf
            split at * <;> (repeat' split) <;> omega
          refine x_iconst (pc := 38) (v := nI 4) cx (dA ddX4_kindOf (i := 21) rfl) (by decide) ?_
          refine x_ireturn (pc := 39) cx (dA ddX4_kindOf (i := 22) rfl) (by first | exact Nat.le_of_ble_eq_true rfl | omega) (by first | exact Nat.le_of_ble_eq_true rfl | omega) ?_
          exact rI (by rw [e])
        · (try simp only [i32_lt, i32_eq, tb, t97, t122, t48, t57, t59] at c3)
          (try simp only [i32_lt, i32_eq, tb, t97, t122, t48, t57, t59] at c9)
          (try simp only [i32_lt, i32_eq, tb, t97, t122, t48, t57, t59] at c17)
          (try simp only [i32_lt, i32_eq, tb, t97, t122, t48, t57, t59] at c23)
          (try simp only [i32_lt, i32_eq, tb, t97, t122, t48, t57, t59] at c31)
          have e : kOf b = 3 := by
            unfold kOf
            split at * <;> (repeat' split) <;> omega
          refine x_iconst (pc := 34) (v := nI 3) cx (dA ddX4_kindOf (i := 19) rfl) (by decide) ?_
          refine x_goto (pc := 35) (tgt := 39) cx (dA ddX4_kindOf (i := 20) rfl) (by decide) ?_
          refine x_ireturn (pc := 39) cx (dA ddX4_kindOf (i := 22) rfl) (by first | exact Nat.le_of_ble_eq_true rfl | omega) (by first | exact Nat.le_of_ble_eq_true rfl | omega) ?_
          exact rI (by rw [e])
      · refine x_iload_n (pc := 20) cx (dA ddX4_kindOf (i := 11) rfl) rfl ?_
        refine x_bipush (pc := 21) (v := nI 57) cx (dA ddX4_kindOf (i := 12) rfl) (by decide) ?_
        refine x_icmp_gt (pc := 23) (tgt := 28) cx (dA ddX4_kindOf (i := 13) rfl) (by decide) (fun c23 => ?_) (fun c23 => ?_)
        · refine x_iload_n (pc := 28) cx (dA ddX4_kindOf (i := 16) rfl) rfl ?_
          refine x_bipush (pc := 29) (v := nI 59) cx (dA ddX4_kindOf (i := 17) rfl) (by decide) ?_
          refine x_icmp_ne (pc := 31) (tgt := 38) cx (dA ddX4_kindOf (i := 18) rfl) (by decide) (fun c31 => ?_) (fun c31 => ?_)
          · (try simp only [i32_lt, i32_eq, tb, t97, t122, t48, t57, t59] at c3)
            (try simp only [i32_lt, i32_eq, tb, t97, t122, t48, t57, t59] at c9)
            (try simp only [i32_lt, i32_eq, tb, t97, t122, t48, t57, t59] at c17)
            (try simp only [i32_lt, i32_eq, tb, t97, t122, t48, t57, t59] at c23)
            (try simp only [i32_lt, i32_eq, tb, t97, t122, t48, t57, t59] at c31)
            have e : kOf b = 4 := by
              unfold kOf
              split at * <;> (repeat' split) <;> omega
            refine x_iconst (pc := 38) (v := nI 4) cx (dA ddX4_kindOf (i := 21) rfl) (by decide) ?_
            refine x_ireturn (pc := 39) cx (dA ddX4_kindOf (i := 22) rfl) (by first | exact Nat.le_of_ble_eq_true rfl | omega) (by first | exact Nat.le_of_ble_eq_true rfl | omega) ?_
            exact rI (by rw [e])
          · (try simp only [i32_lt, i32_eq, tb, t97, t122, t48, t57, t59] at c3)
            (try simp only [i32_lt, i32_eq, tb, t97, t122, t48, t57, t59] at c9)
            (try simp only [i32_lt, i32_eq, tb, t97, t122, t48, t57, t59] at c17)
            (try simp only [i32_lt, i32_eq, tb, t97, t122, t48, t57, t59] at c23)
            (try simp only [i32_lt, i32_eq, tb, t97, t122, t48, t57, t59] at c31)
            have e : kOf b = 3 := by
              unfold kOf
              split at * <;> (repeat' split) <;> omega
            refine x_iconst (pc := 34) (v := nI 3) cx (dA ddX4_kindOf (i := 19) rfl) (by decide) ?_
            refine x_goto (pc := 35) (tgt := 39) cx (dA ddX4_kindOf (i := 20) rfl) (by decide) ?_
            refine x_ireturn (pc := 39) cx (dA ddX4_kindOf (i := 22) rfl) (by first | exact Nat.le_of_ble_eq_true rfl | omega) (by first | exact Nat.le_of_ble_eq_true rfl | omega) ?_
            exact rI (by rw [e])
        · refine x_iconst (pc := 26) (v := nI 2) cx (dA ddX4_kindOf (i := 14) rfl) (by decide) ?_
          refine x_ireturn (pc := 27) cx (dA ddX4_kindOf (i := 15) rfl) (by first | exact Nat.le_of_ble_eq_true rfl | omega) (by first | exact Nat.le_of_ble_eq_true rfl | omega) ?_
          refine rI ?_
          (try simp only [i32_lt, i32_eq, tb, t97, t122, t48, t57, t59] at c3)
          (try simp only [i32_lt, i32_eq, tb, t97, t122, t48, t57, t59] at c9)
          (try simp only [i32_lt, i32_eq, tb, t97, t122, t48, t57, t59] at c17)
          (try simp only [i32_lt, i32_eq, tb, t97, t122, t48, t57, t59] at c23)
          have e : kOf b = 2 := by
            unfold kOf
            split at * <;> (repeat' split) <;> omega
          rw [e]
    · refine x_iconst (pc := 12) (v := nI 1) cx (dA ddX4_kindOf (i := 6) rfl) (by decide) ?_
      refine x_ireturn (pc := 13) cx (dA ddX4_kindOf (i := 7) rfl) (by first | exact Nat.le_of_ble_eq_true rfl | omega) (by first | exact Nat.le_of_ble_eq_true rfl | omega) ?_
      refine rI ?_
      (try simp only [i32_lt, i32_eq, tb, t97, t122, t48, t57, t59] at c3)
      (try simp only [i32_lt, i32_eq, tb, t97, t122, t48, t57, t59] at c9)
      have e : kOf b = 1 := by
        unfold kOf
        split at * <;> (repeat' split) <;> omega
      rw [e]
theorem c_X4_advance {l : Launch} {Z : zP} {G : zG} {V : zV} {t : Nat} (hT : TapeAt Z G t) {B : Nat → Nat} {S : Nat} (hV : TapeV V t B S) {p : Nat} (hp : p ≤ S) (vp : V.1 204 t = nI p) : CT l Z yX4_advance cX4_advance 1 none 1 0 0 [.ref t] G V (pV G (tokV V t (nI (adv B S p).1) (nI (adv B S p).2.1) (nI (adv B S p).2.2))) := by
  refine CT.of (by decide +kernel) (Nat.le_of_ble_eq_true rfl) (fun X hX cx => ?_)
  subst hX
  show Wm Z X 1 G V 0 0 _ 0 [(0, some (.ref t))] []
  have h0 := hT.1
  have hA := hT.2.2
  have vS := hV.1
  have vB := hV.2.1
  have hS := hV.2.2.1
  have b256 := hV.2.2.2
  obtain ⟨k0, hk0⟩ : ∃ k0, k0 = V.1 202 t := ⟨_, rfl⟩
  have e0 : sI V 203 t (nI p) = tokV V t k0 (nI p) (nI p) := by
    have e1 : sI V 203 t (nI p) = sI (tokV V t (V.1 202 t) (V.1 203 t) (V.1 204 t)) 203 t (nI p) := by rw [tok_id]
    rw [e1, tok_203, vp, hk0]
  refine x_aload_n (pc := 0) cx (dA ddX4_advance (i := 0) rfl) rfl ?_
  refine x_aload_n (pc := 1) cx (dA ddX4_advance (i := 1) rfl) rfl ?_
  refine gX4_24 (pc := 2) (congrArg Value.int vp) cx (dA ddX4_advance (i := 2) rfl) h0 ?_
  refine pX4_34 (pc := 5)  cx (dA ddX4_advance (i := 3) rfl) h0 ?_
  have L8 : ∀ q, q ≤ S → skip B S q = skip B S p → Wm Z X 1 G (tokV V t k0 (nI q) (nI p)) 0 0 (rQ Z X 0 0 (pV G (tokV V t (nI (adv B S p).1) (nI (adv B S p).2.1) (nI (adv B S p).2.2)))) 8 [(0, some (.ref t))] [] := by
    refine lpU S (fun q hd ih => ?_)
    intro hq
    refine x_aload_n (pc := 8) cx (dA ddX4_advance (i := 4) rfl) rfl ?_
    refine gX4_34 (pc := 9) (congrArg Value.int tok_g203) cx (dA ddX4_advance (i := 5) rfl) h0 ?_
    refine x_aload_n (pc := 12) cx (dA ddX4_advance (i := 6) rfl) rfl ?_
    refine gX4_15 (pc := 13) (congrArg Value.int hV.tok.1) cx (dA ddX4_advance (i := 7) rfl) h0 ?_
    refine x_icmp_ge (pc := 16) (tgt := 45) cx (dA ddX4_advance (i := 8) rfl) (by decide) (fun c16 => ?_) (fun c16 => ?_)
    · have c16 := cleT (by omega) (by omega) c16
      refine x_aload_n (pc := 45) cx (dA ddX4_advance (i := 22) rfl) rfl ?_
      refine x_aload_n (pc := 46) cx (dA ddX4_advance (i := 23) rfl) rfl ?_
      refine gX4_34 (pc := 47) (congrArg Value.int tok_g203) cx (dA ddX4_advance (i := 24) rfl) h0 ?_
      refine pX4_24 (pc := 50)  cx (dA ddX4_advance (i := 25) rfl) h0 ?_
      rw [tok_204]
      refine x_aload_n (pc := 53) cx (dA ddX4_advance (i := 26) rfl) rfl ?_
      refine gX4_34 (pc := 54) (congrArg Value.int tok_g203) cx (dA ddX4_advance (i := 27) rfl) h0 ?_
      refine x_aload_n (pc := 57) cx (dA ddX4_advance (i := 28) rfl) rfl ?_
      refine gX4_15 (pc := 58) (congrArg Value.int hV.tok.1) cx (dA ddX4_advance (i := 29) rfl) h0 ?_
      refine x_icmp_lt (pc := 61) (tgt := 70) cx (dA ddX4_advance (i := 30) rfl) (by decide) (fun c61 => ?_) (fun c61 => ?_)
      · have c61 := cltT (by omega) (by omega) c61
        refine x_aload_n (pc := 70) cx (dA ddX4_advance (i := 35) rfl) rfl ?_
        refine x_aload_n (pc := 71) cx (dA ddX4_advance (i := 36) rfl) rfl ?_
        refine x_aload_n (pc := 72) cx (dA ddX4_advance (i := 37) rfl) rfl ?_
        refine gX4_34 (pc := 73) (congrArg Value.int tok_g203) cx (dA ddX4_advance (i := 38) rfl) h0 ?_
        refine x_V1 (pc := 76) mX4_99 h0 ((c_X4_byteAt hT hV.tok (by omega))) cx (dA ddX4_advance (i := 39) rfl) (kI ?_)
        refine x_S1 (pc := 79) mX4_103 (c_X4_kindOf (b256 q)) cx (dA ddX4_advance (i := 40) rfl) (kI ?_)
        refine pX4_37 (pc := 82)  cx (dA ddX4_advance (i := 41) rfl) h0 ?_
        rw [tok_202]
        refine x_aload_n (pc := 85) cx (dA ddX4_advance (i := 42) rfl) rfl ?_
        refine x_dup (pc := 86) cx rfl (dA ddX4_advance (i := 43) rfl) ?_
        refine gX4_24 (pc := 87) (congrArg Value.int tok_g204) cx (dA ddX4_advance (i := 44) rfl) h0 ?_
        refine x_iconst (pc := 90) (v := nI 1) cx (dA ddX4_advance (i := 45) rfl) (by decide) ?_
        refine x_iadd (pc := 91) cx (dA ddX4_advance (i := 46) rfl) ?_
        refine pX4_24 (pc := 92)  cx (dA ddX4_advance (i := 47) rfl) h0 ?_
        rw [nI_add, tok_204]
        have kq := kOf_le (B q)
        have es : skip B S p = q := by rw [← hq, skip_stop (by omega)]
        refine x_aload_n (pc := 95) cx (dA ddX4_advance (i := 48) rfl) rfl ?_
        refine gX4_37 (pc := 96) (congrArg Value.int tok_g202) cx (dA ddX4_advance (i := 49) rfl) h0 ?_
        refine x_iconst (pc := 99) (v := nI 1) cx (dA ddX4_advance (i := 50) rfl) (by decide) ?_
        refine x_icmp_eq (pc := 100) (tgt := 111) cx (dA ddX4_advance (i := 51) rfl) (by decide) (fun c100 => ?_) (fun c100 => ?_)
        · have c100 := ceqT (by omega) (by omega) c100
          have L111 : ∀ z, z ≤ S → q + 1 ≤ z → run B S (kOf (B q)) z = run B S (kOf (B q)) (q + 1) → Wm Z X 1 G (tokV V t (nI (kOf (B q))) (nI q) (nI z)) 0 0 (rQ Z X 0 0 (pV G (tokV V t (nI (adv B S p).1) (nI (adv B S p).2.1) (nI (adv B S p).2.2)))) 111 [(0, some (.ref t))] [] := by
            refine lpU S (fun z hzS ih2 => ?_)
            intro hz1 hz
            refine x_aload_n (pc := 111) cx (dA ddX4_advance (i := 56) rfl) rfl ?_
            refine gX4_24 (pc := 112) (congrArg Value.int tok_g204) cx (dA ddX4_advance (i := 57) rfl) h0 ?_
            refine x_aload_n (pc := 115) cx (dA ddX4_advance (i := 58) rfl) rfl ?_
            refine gX4_15 (pc := 116) (congrArg Value.int hV.tok.1) cx (dA ddX4_advance (i := 59) rfl) h0 ?_
            refine x_icmp_ge (pc := 119) (tgt := 153) cx (dA ddX4_advance (i := 60) rfl) (by decide) (fun c119 => ?_) (fun c119 => ?_)
            · have c119 := cleT (by omega) (by omega) c119
              refine x_return (pc := 153) cx (dA ddX4_advance (i := 76) rfl) (by first | exact Nat.le_of_ble_eq_true rfl | omega) (by first | exact Nat.le_of_ble_eq_true rfl | omega) ?_
              refine ⟨rfl, rfl, ?_⟩
              unfold adv
              rw [es, if_neg (by omega)]
              first
                | (rw [if_pos (by omega), ← hz, run_stop (by omega)])
                | (rw [if_neg (by omega)])
            · have c119 := cleF (by omega) (by omega) c119
              refine x_aload_n (pc := 122) cx (dA ddX4_advance (i := 61) rfl) rfl ?_
              refine x_aload_n (pc := 123) cx (dA ddX4_advance (i := 62) rfl) rfl ?_
              refine gX4_24 (pc := 124) (congrArg Value.int tok_g204) cx (dA ddX4_advance (i := 63) rfl) h0 ?_
              refine x_V1 (pc := 127) mX4_99 h0 ((c_X4_byteAt hT hV.tok (by omega))) cx (dA ddX4_advance (i := 64) rfl) (kI ?_)
              have kz := kOf_le (B z)
              refine x_S1 (pc := 130) mX4_103 (c_X4_kindOf (b256 z)) cx (dA ddX4_advance (i := 65) rfl) (kI ?_)
              refine x_aload_n (pc := 133) cx (dA ddX4_advance (i := 66) rfl) rfl ?_
              refine gX4_37 (pc := 134) (congrArg Value.int tok_g202) cx (dA ddX4_advance (i := 67) rfl) h0 ?_
              refine x_icmp_ne (pc := 137) (tgt := 153) cx (dA ddX4_advance (i := 68) rfl) (by decide) (fun c137 => ?_) (fun c137 => ?_)
              · have c137 := ceqF (by omega) (by omega) c137
                refine x_return (pc := 153) cx (dA ddX4_advance (i := 76) rfl) (by first | exact Nat.le_of_ble_eq_true rfl | omega) (by first | exact Nat.le_of_ble_eq_true rfl | omega) ?_
                refine ⟨rfl, rfl, ?_⟩
                unfold adv
                rw [es, if_neg (by omega)]
                first
                  | (rw [if_pos (by omega), ← hz, run_stop (by omega)])
                  | (rw [if_neg (by omega)])
              · have c137 := ceqT (by omega) (by omega) c137
                refine x_aload_n (pc := 140) cx (dA ddX4_advance (i := 69) rfl) rfl ?_
                refine x_dup (pc := 141) cx rfl (dA ddX4_advance (i := 70) rfl) ?_
                refine gX4_24 (pc := 142) (congrArg Value.int tok_g204) cx (dA ddX4_advance (i := 71) rfl) h0 ?_
                refine x_iconst (pc := 145) (v := nI 1) cx (dA ddX4_advance (i := 72) rfl) (by decide) ?_
                refine x_iadd (pc := 146) cx (dA ddX4_advance (i := 73) rfl) ?_
                refine pX4_24 (pc := 147)  cx (dA ddX4_advance (i := 74) rfl) h0 ?_
                rw [nI_add, tok_204]
                refine x_goto (pc := 150) (tgt := 111) cx (dA ddX4_advance (i := 75) rfl) (by decide) ?_
                exact x_enter (ih2 (by omega) (by omega) (by rw [← run_go ⟨by omega, c137⟩]; exact hz)) ⟨.inr rfl, trivial⟩
          exact x_enter (L111 (q + 1) (by omega) (by omega) rfl) ⟨.inr rfl, trivial⟩
        · have c100 := ceqF (by omega) (by omega) c100
          refine x_aload_n (pc := 103) cx (dA ddX4_advance (i := 52) rfl) rfl ?_
          refine gX4_37 (pc := 104) (congrArg Value.int tok_g202) cx (dA ddX4_advance (i := 53) rfl) h0 ?_
          refine x_iconst (pc := 107) (v := nI 2) cx (dA ddX4_advance (i := 54) rfl) (by decide) ?_
          refine x_icmp_ne (pc := 108) (tgt := 153) cx (dA ddX4_advance (i := 55) rfl) (by decide) (fun c108 => ?_) (fun c108 => ?_)
          · have c108 := ceqF (by omega) (by omega) c108
            refine x_return (pc := 153) cx (dA ddX4_advance (i := 76) rfl) (by first | exact Nat.le_of_ble_eq_true rfl | omega) (by first | exact Nat.le_of_ble_eq_true rfl | omega) ?_
            refine ⟨rfl, rfl, ?_⟩
            unfold adv
            rw [es, if_neg (by omega)]
            first
              | (rw [if_pos (by omega), ← hz, run_stop (by omega)])
              | (rw [if_neg (by omega)])
          · have c108 := ceqT (by omega) (by omega) c108
            have L111 : ∀ z, z ≤ S → q + 1 ≤ z → run B S (kOf (B q)) z = run B S (kOf (B q)) (q + 1) → Wm Z X 1 G (tokV V t (nI (kOf (B q))) (nI q) (nI z)) 0 0 (rQ Z X 0 0 (pV G (tokV V t (nI (adv B S p).1) (nI (adv B S p).2.1) (nI (adv B S p).2.2)))) 111 [(0, some (.ref t))] [] := by
              refine lpU S (fun z hzS ih2 => ?_)
              intro hz1 hz
              refine x_aload_n (pc := 111) cx (dA ddX4_advance (i := 56) rfl) rfl ?_
              refine gX4_24 (pc := 112) (congrArg Value.int tok_g204) cx (dA ddX4_advance (i := 57) rfl) h0 ?_
              refine x_aload_n (pc := 115) cx (dA ddX4_advance (i := 58) rfl) rfl ?_
              refine gX4_15 (pc := 116) (congrArg Value.int hV.tok.1) cx (dA ddX4_advance (i := 59) rfl) h0 ?_
              refine x_icmp_ge (pc := 119) (tgt := 153) cx (dA ddX4_advance (i := 60) rfl) (by decide) (fun c119 => ?_) (fun c119 => ?_)
              · have c119 := cleT (by omega) (by omega) c119
                refine x_return (pc := 153) cx (dA ddX4_advance (i := 76) rfl) (by first | exact Nat.le_of_ble_eq_true rfl | omega) (by first | exact Nat.le_of_ble_eq_true rfl | omega) ?_
                refine ⟨rfl, rfl, ?_⟩
                unfold adv
                rw [es, if_neg (by omega)]
                first
                  | (rw [if_pos (by omega), ← hz, run_stop (by omega)])
                  | (rw [if_neg (by omega)])
              · have c119 := cleF (by omega) (by omega) c119
                refine x_aload_n (pc := 122) cx (dA ddX4_advance (i := 61) rfl) rfl ?_
                refine x_aload_n (pc := 123) cx (dA ddX4_advance (i := 62) rfl) rfl ?_
                refine gX4_24 (pc := 124) (congrArg Value.int tok_g204) cx (dA ddX4_advance (i := 63) rfl) h0 ?_
                refine x_V1 (pc := 127) mX4_99 h0 ((c_X4_byteAt hT hV.tok (by omega))) cx (dA ddX4_advance (i := 64) rfl) (kI ?_)
                have kz := kOf_le (B z)
                refine x_S1 (pc := 130) mX4_103 (c_X4_kindOf (b256 z)) cx (dA ddX4_advance (i := 65) rfl) (kI ?_)
                refine x_aload_n (pc := 133) cx (dA ddX4_advance (i := 66) rfl) rfl ?_
                refine gX4_37 (pc := 134) (congrArg Value.int tok_g202) cx (dA ddX4_advance (i := 67) rfl) h0 ?_
                refine x_icmp_ne (pc := 137) (tgt := 153) cx (dA ddX4_advance (i := 68) rfl) (by decide) (fun c137 => ?_) (fun c137 => ?_)
                · have c137 := ceqF (by omega) (by omega) c137
                  refine x_return (pc := 153) cx (dA ddX4_advance (i := 76) rfl) (by first | exact Nat.le_of_ble_eq_true rfl | omega) (by first | exact Nat.le_of_ble_eq_true rfl | omega) ?_
                  refine ⟨rfl, rfl, ?_⟩
                  unfold adv
                  rw [es, if_neg (by omega)]
                  first
                    | (rw [if_pos (by omega), ← hz, run_stop (by omega)])
                    | (rw [if_neg (by omega)])
                · have c137 := ceqT (by omega) (by omega) c137
                  refine x_aload_n (pc := 140) cx (dA ddX4_advance (i := 69) rfl) rfl ?_
                  refine x_dup (pc := 141) cx rfl (dA ddX4_advance (i := 70) rfl) ?_
                  refine gX4_24 (pc := 142) (congrArg Value.int tok_g204) cx (dA ddX4_advance (i := 71) rfl) h0 ?_
                  refine x_iconst (pc := 145) (v := nI 1) cx (dA ddX4_advance (i := 72) rfl) (by decide) ?_
                  refine x_iadd (pc := 146) cx (dA ddX4_advance (i := 73) rfl) ?_
                  refine pX4_24 (pc := 147)  cx (dA ddX4_advance (i := 74) rfl) h0 ?_
                  rw [nI_add, tok_204]
                  refine x_goto (pc := 150) (tgt := 111) cx (dA ddX4_advance (i := 75) rfl) (by decide) ?_
                  exact x_enter (ih2 (by omega) (by omega) (by rw [← run_go ⟨by omega, c137⟩]; exact hz)) ⟨.inr rfl, trivial⟩
            exact x_enter (L111 (q + 1) (by omega) (by omega) rfl) ⟨.inr rfl, trivial⟩
      · have c61 := cltF (by omega) (by omega) c61
        refine x_aload_n (pc := 64) cx (dA ddX4_advance (i := 31) rfl) rfl ?_
        refine x_iconst (pc := 65) (v := nI 0) cx (dA ddX4_advance (i := 32) rfl) (by decide) ?_
        refine pX4_37 (pc := 66)  cx (dA ddX4_advance (i := 33) rfl) h0 ?_
        refine x_return (pc := 69) cx (dA ddX4_advance (i := 34) rfl) (by first | exact Nat.le_of_ble_eq_true rfl | omega) (by first | exact Nat.le_of_ble_eq_true rfl | omega) ?_
        refine ⟨rfl, rfl, ?_⟩
        rw [tok_202]
        have es : skip B S p = q := by rw [← hq, skip_stop (by omega)]
        unfold adv
        rw [es, if_pos (by omega)]
    · have c16 := cleF (by omega) (by omega) c16
      refine x_aload_n (pc := 19) cx (dA ddX4_advance (i := 9) rfl) rfl ?_
      refine x_aload_n (pc := 20) cx (dA ddX4_advance (i := 10) rfl) rfl ?_
      refine gX4_34 (pc := 21) (congrArg Value.int tok_g203) cx (dA ddX4_advance (i := 11) rfl) h0 ?_
      refine x_V1 (pc := 24) mX4_99 h0 ((c_X4_byteAt hT hV.tok (by omega))) cx (dA ddX4_advance (i := 12) rfl) (kI ?_)
      refine x_bipush (pc := 27) (v := nI 32) cx (dA ddX4_advance (i := 13) rfl) (by decide) ?_
      refine x_icmp_ne (pc := 29) (tgt := 45) cx (dA ddX4_advance (i := 14) rfl) (by decide) (fun c29 => ?_) (fun c29 => ?_)
      · have c29 : ¬ B q = 32 := fun e => c29 ((sb_eq (b256 q) (by decide)).mpr e)
        refine x_aload_n (pc := 45) cx (dA ddX4_advance (i := 22) rfl) rfl ?_
        refine x_aload_n (pc := 46) cx (dA ddX4_advance (i := 23) rfl) rfl ?_
        refine gX4_34 (pc := 47) (congrArg Value.int tok_g203) cx (dA ddX4_advance (i := 24) rfl) h0 ?_
        refine pX4_24 (pc := 50)  cx (dA ddX4_advance (i := 25) rfl) h0 ?_
        rw [tok_204]
        refine x_aload_n (pc := 53) cx (dA ddX4_advance (i := 26) rfl) rfl ?_
        refine gX4_34 (pc := 54) (congrArg Value.int tok_g203) cx (dA ddX4_advance (i := 27) rfl) h0 ?_
        refine x_aload_n (pc := 57) cx (dA ddX4_advance (i := 28) rfl) rfl ?_
        refine gX4_15 (pc := 58) (congrArg Value.int hV.tok.1) cx (dA ddX4_advance (i := 29) rfl) h0 ?_
        refine x_icmp_lt (pc := 61) (tgt := 70) cx (dA ddX4_advance (i := 30) rfl) (by decide) (fun c61 => ?_) (fun c61 => ?_)
        · have c61 := cltT (by omega) (by omega) c61
          refine x_aload_n (pc := 70) cx (dA ddX4_advance (i := 35) rfl) rfl ?_
          refine x_aload_n (pc := 71) cx (dA ddX4_advance (i := 36) rfl) rfl ?_
          refine x_aload_n (pc := 72) cx (dA ddX4_advance (i := 37) rfl) rfl ?_
          refine gX4_34 (pc := 73) (congrArg Value.int tok_g203) cx (dA ddX4_advance (i := 38) rfl) h0 ?_
          refine x_V1 (pc := 76) mX4_99 h0 ((c_X4_byteAt hT hV.tok (by omega))) cx (dA ddX4_advance (i := 39) rfl) (kI ?_)
          refine x_S1 (pc := 79) mX4_103 (c_X4_kindOf (b256 q)) cx (dA ddX4_advance (i := 40) rfl) (kI ?_)
          refine pX4_37 (pc := 82)  cx (dA ddX4_advance (i := 41) rfl) h0 ?_
          rw [tok_202]
          refine x_aload_n (pc := 85) cx (dA ddX4_advance (i := 42) rfl) rfl ?_
          refine x_dup (pc := 86) cx rfl (dA ddX4_advance (i := 43) rfl) ?_
          refine gX4_24 (pc := 87) (congrArg Value.int tok_g204) cx (dA ddX4_advance (i := 44) rfl) h0 ?_
          refine x_iconst (pc := 90) (v := nI 1) cx (dA ddX4_advance (i := 45) rfl) (by decide) ?_
          refine x_iadd (pc := 91) cx (dA ddX4_advance (i := 46) rfl) ?_
          refine pX4_24 (pc := 92)  cx (dA ddX4_advance (i := 47) rfl) h0 ?_
          rw [nI_add, tok_204]
          have kq := kOf_le (B q)
          have es : skip B S p = q := by rw [← hq, skip_stop (by omega)]
          refine x_aload_n (pc := 95) cx (dA ddX4_advance (i := 48) rfl) rfl ?_
          refine gX4_37 (pc := 96) (congrArg Value.int tok_g202) cx (dA ddX4_advance (i := 49) rfl) h0 ?_
          refine x_iconst (pc := 99) (v := nI 1) cx (dA ddX4_advance (i := 50) rfl) (by decide) ?_
          refine x_icmp_eq (pc := 100) (tgt := 111) cx (dA ddX4_advance (i := 51) rfl) (by decide) (fun c100 => ?_) (fun c100 => ?_)
          · have c100 := ceqT (by omega) (by omega) c100
            have L111 : ∀ z, z ≤ S → q + 1 ≤ z → run B S (kOf (B q)) z = run B S (kOf (B q)) (q + 1) → Wm Z X 1 G (tokV V t (nI (kOf (B q))) (nI q) (nI z)) 0 0 (rQ Z X 0 0 (pV G (tokV V t (nI (adv B S p).1) (nI (adv B S p).2.1) (nI (adv B S p).2.2)))) 111 [(0, some (.ref t))] [] := by
              refine lpU S (fun z hzS ih2 => ?_)
              intro hz1 hz
              refine x_aload_n (pc := 111) cx (dA ddX4_advance (i := 56) rfl) rfl ?_
              refine gX4_24 (pc := 112) (congrArg Value.int tok_g204) cx (dA ddX4_advance (i := 57) rfl) h0 ?_
              refine x_aload_n (pc := 115) cx (dA ddX4_advance (i := 58) rfl) rfl ?_
              refine gX4_15 (pc := 116) (congrArg Value.int hV.tok.1) cx (dA ddX4_advance (i := 59) rfl) h0 ?_
              refine x_icmp_ge (pc := 119) (tgt := 153) cx (dA ddX4_advance (i := 60) rfl) (by decide) (fun c119 => ?_) (fun c119 => ?_)
              · have c119 := cleT (by omega) (by omega) c119
                refine x_return (pc := 153) cx (dA ddX4_advance (i := 76) rfl) (by first | exact Nat.le_of_ble_eq_true rfl | omega) (by first | exact Nat.le_of_ble_eq_true rfl | omega) ?_
                refine ⟨rfl, rfl, ?_⟩
                unfold adv
                rw [es, if_neg (by omega)]
                first
                  | (rw [if_pos (by omega), ← hz, run_stop (by omega)])
                  | (rw [if_neg (by omega)])
              · have c119 := cleF (by omega) (by omega) c119
                refine x_aload_n (pc := 122) cx (dA ddX4_advance (i := 61) rfl) rfl ?_
                refine x_aload_n (pc := 123) cx (dA ddX4_advance (i := 62) rfl) rfl ?_
                refine gX4_24 (pc := 124) (congrArg Value.int tok_g204) cx (dA ddX4_advance (i := 63) rfl) h0 ?_
                refine x_V1 (pc := 127) mX4_99 h0 ((c_X4_byteAt hT hV.tok (by omega))) cx (dA ddX4_advance (i := 64) rfl) (kI ?_)
                have kz := kOf_le (B z)
                refine x_S1 (pc := 130) mX4_103 (c_X4_kindOf (b256 z)) cx (dA ddX4_advance (i := 65) rfl) (kI ?_)
                refine x_aload_n (pc := 133) cx (dA ddX4_advance (i := 66) rfl) rfl ?_
                refine gX4_37 (pc := 134) (congrArg Value.int tok_g202) cx (dA ddX4_advance (i := 67) rfl) h0 ?_
                refine x_icmp_ne (pc := 137) (tgt := 153) cx (dA ddX4_advance (i := 68) rfl) (by decide) (fun c137 => ?_) (fun c137 => ?_)
                · have c137 := ceqF (by omega) (by omega) c137
                  refine x_return (pc := 153) cx (dA ddX4_advance (i := 76) rfl) (by first | exact Nat.le_of_ble_eq_true rfl | omega) (by first | exact Nat.le_of_ble_eq_true rfl | omega) ?_
                  refine ⟨rfl, rfl, ?_⟩
                  unfold adv
                  rw [es, if_neg (by omega)]
                  first
                    | (rw [if_pos (by omega), ← hz, run_stop (by omega)])
                    | (rw [if_neg (by omega)])
                · have c137 := ceqT (by omega) (by omega) c137
                  refine x_aload_n (pc := 140) cx (dA ddX4_advance (i := 69) rfl) rfl ?_
                  refine x_dup (pc := 141) cx rfl (dA ddX4_advance (i := 70) rfl) ?_
                  refine gX4_24 (pc := 142) (congrArg Value.int tok_g204) cx (dA ddX4_advance (i := 71) rfl) h0 ?_
                  refine x_iconst (pc := 145) (v := nI 1) cx (dA ddX4_advance (i := 72) rfl) (by decide) ?_
                  refine x_iadd (pc := 146) cx (dA ddX4_advance (i := 73) rfl) ?_
                  refine pX4_24 (pc := 147)  cx (dA ddX4_advance (i := 74) rfl) h0 ?_
                  rw [nI_add, tok_204]
                  refine x_goto (pc := 150) (tgt := 111) cx (dA ddX4_advance (i := 75) rfl) (by decide) ?_
                  exact x_enter (ih2 (by omega) (by omega) (by rw [← run_go ⟨by omega, c137⟩]; exact hz)) ⟨.inr rfl, trivial⟩
            exact x_enter (L111 (q + 1) (by omega) (by omega) rfl) ⟨.inr rfl, trivial⟩
          · have c100 := ceqF (by omega) (by omega) c100
            refine x_aload_n (pc := 103) cx (dA ddX4_advance (i := 52) rfl) rfl ?_
            refine gX4_37 (pc := 104) (congrArg Value.int tok_g202) cx (dA ddX4_advance (i := 53) rfl) h0 ?_
            refine x_iconst (pc := 107) (v := nI 2) cx (dA ddX4_advance (i := 54) rfl) (by decide) ?_
            refine x_icmp_ne (pc := 108) (tgt := 153) cx (dA ddX4_advance (i := 55) rfl) (by decide) (fun c108 => ?_) (fun c108 => ?_)
            · have c108 := ceqF (by omega) (by omega) c108
              refine x_return (pc := 153) cx (dA ddX4_advance (i := 76) rfl) (by first | exact Nat.le_of_ble_eq_true rfl | omega) (by first | exact Nat.le_of_ble_eq_true rfl | omega) ?_
              refine ⟨rfl, rfl, ?_⟩
              unfold adv
              rw [es, if_neg (by omega)]
              first
                | (rw [if_pos (by omega), ← hz, run_stop (by omega)])
                | (rw [if_neg (by omega)])
            · have c108 := ceqT (by omega) (by omega) c108
              have L111 : ∀ z, z ≤ S → q + 1 ≤ z → run B S (kOf (B q)) z = run B S (kOf (B q)) (q + 1) → Wm Z X 1 G (tokV V t (nI (kOf (B q))) (nI q) (nI z)) 0 0 (rQ Z X 0 0 (pV G (tokV V t (nI (adv B S p).1) (nI (adv B S p).2.1) (nI (adv B S p).2.2)))) 111 [(0, some (.ref t))] [] := by
                refine lpU S (fun z hzS ih2 => ?_)
                intro hz1 hz
                refine x_aload_n (pc := 111) cx (dA ddX4_advance (i := 56) rfl) rfl ?_
                refine gX4_24 (pc := 112) (congrArg Value.int tok_g204) cx (dA ddX4_advance (i := 57) rfl) h0 ?_
                refine x_aload_n (pc := 115) cx (dA ddX4_advance (i := 58) rfl) rfl ?_
                refine gX4_15 (pc := 116) (congrArg Value.int hV.tok.1) cx (dA ddX4_advance (i := 59) rfl) h0 ?_
                refine x_icmp_ge (pc := 119) (tgt := 153) cx (dA ddX4_advance (i := 60) rfl) (by decide) (fun c119 => ?_) (fun c119 => ?_)
                · have c119 := cleT (by omega) (by omega) c119
                  refine x_return (pc := 153) cx (dA ddX4_advance (i := 76) rfl) (by first | exact Nat.le_of_ble_eq_true rfl | omega) (by first | exact Nat.le_of_ble_eq_true rfl | omega) ?_
                  refine ⟨rfl, rfl, ?_⟩
                  unfold adv
                  rw [es, if_neg (by omega)]
                  first
                    | (rw [if_pos (by omega), ← hz, run_stop (by omega)])
                    | (rw [if_neg (by omega)])
                · have c119 := cleF (by omega) (by omega) c119
                  refine x_aload_n (pc := 122) cx (dA ddX4_advance (i := 61) rfl) rfl ?_
                  refine x_aload_n (pc := 123) cx (dA ddX4_advance (i := 62) rfl) rfl ?_
                  refine gX4_24 (pc := 124) (congrArg Value.int tok_g204) cx (dA ddX4_advance (i := 63) rfl) h0 ?_
                  refine x_V1 (pc := 127) mX4_99 h0 ((c_X4_byteAt hT hV.tok (by omega))) cx (dA ddX4_advance (i := 64) rfl) (kI ?_)
                  have kz := kOf_le (B z)
                  refine x_S1 (pc := 130) mX4_103 (c_X4_kindOf (b256 z)) cx (dA ddX4_advance (i := 65) rfl) (kI ?_)
                  refine x_aload_n (pc := 133) cx (dA ddX4_advance (i := 66) rfl) rfl ?_
                  refine gX4_37 (pc := 134) (congrArg Value.int tok_g202) cx (dA ddX4_advance (i := 67) rfl) h0 ?_
                  refine x_icmp_ne (pc := 137) (tgt := 153) cx (dA ddX4_advance (i := 68) rfl) (by decide) (fun c137 => ?_) (fun c137 => ?_)
                  · have c137 := ceqF (by omega) (by omega) c137
                    refine x_return (pc := 153) cx (dA ddX4_advance (i := 76) rfl) (by first | exact Nat.le_of_ble_eq_true rfl | omega) (by first | exact Nat.le_of_ble_eq_true rfl | omega) ?_
                    refine ⟨rfl, rfl, ?_⟩
                    unfold adv
                    rw [es, if_neg (by omega)]
                    first
                      | (rw [if_pos (by omega), ← hz, run_stop (by omega)])
                      | (rw [if_neg (by omega)])
                  · have c137 := ceqT (by omega) (by omega) c137
                    refine x_aload_n (pc := 140) cx (dA ddX4_advance (i := 69) rfl) rfl ?_
                    refine x_dup (pc := 141) cx rfl (dA ddX4_advance (i := 70) rfl) ?_
                    refine gX4_24 (pc := 142) (congrArg Value.int tok_g204) cx (dA ddX4_advance (i := 71) rfl) h0 ?_
                    refine x_iconst (pc := 145) (v := nI 1) cx (dA ddX4_advance (i := 72) rfl) (by decide) ?_
                    refine x_iadd (pc := 146) cx (dA ddX4_advance (i := 73) rfl) ?_
                    refine pX4_24 (pc := 147)  cx (dA ddX4_advance (i := 74) rfl) h0 ?_
                    rw [nI_add, tok_204]
                    refine x_goto (pc := 150) (tgt := 111) cx (dA ddX4_advance (i := 75) rfl) (by decide) ?_
                    exact x_enter (ih2 (by omega) (by omega) (by rw [← run_go ⟨by omega, c137⟩]; exact hz)) ⟨.inr rfl, trivial⟩
              exact x_enter (L111 (q + 1) (by omega) (by omega) rfl) ⟨.inr rfl, trivial⟩
        · have c61 := cltF (by omega) (by omega) c61
          refine x_aload_n (pc := 64) cx (dA ddX4_advance (i := 31) rfl) rfl ?_
          refine x_iconst (pc := 65) (v := nI 0) cx (dA ddX4_advance (i := 32) rfl) (by decide) ?_
          refine pX4_37 (pc := 66)  cx (dA ddX4_advance (i := 33) rfl) h0 ?_
          refine x_return (pc := 69) cx (dA ddX4_advance (i := 34) rfl) (by first | exact Nat.le_of_ble_eq_true rfl | omega) (by first | exact Nat.le_of_ble_eq_true rfl | omega) ?_
          refine ⟨rfl, rfl, ?_⟩
          rw [tok_202]
          have es : skip B S p = q := by rw [← hq, skip_stop (by omega)]
          unfold adv
          rw [es, if_pos (by omega)]
      · have c29 : B q = 32 := (sb_eq (b256 q) (by decide)).mp c29
        refine x_aload_n (pc := 32) cx (dA ddX4_advance (i := 15) rfl) rfl ?_
        refine x_dup (pc := 33) cx rfl (dA ddX4_advance (i := 16) rfl) ?_
        refine gX4_34 (pc := 34) (congrArg Value.int tok_g203) cx (dA ddX4_advance (i := 17) rfl) h0 ?_
        refine x_iconst (pc := 37) (v := nI 1) cx (dA ddX4_advance (i := 18) rfl) (by decide) ?_
        refine x_iadd (pc := 38) cx (dA ddX4_advance (i := 19) rfl) ?_
        refine pX4_34 (pc := 39)  cx (dA ddX4_advance (i := 20) rfl) h0 ?_
        rw [nI_add, tok_203]
        refine x_goto (pc := 42) (tgt := 8) cx (dA ddX4_advance (i := 21) rfl) (by decide) ?_
        exact x_enter (ih (by omega) (by rw [← skip_go ⟨by omega, c29⟩]; exact hq)) ⟨.inr rfl, trivial⟩
  rw [e0]
  exact x_enter (L8 p hp rfl) ⟨.inr rfl, trivial⟩
theorem c_X4_isWord {l : Launch} {Z : zP} {G : zG} {V : zV} {t : Nat} (hT : TapeAt Z G t) {B : Nat → Nat} {S : Nat} (hV : TapeV V t B S) {τ : TK} (k2 : V.1 202 t = nI τ.1) (k3 : V.1 203 t = nI τ.2.1) (k4 : V.1 204 t = nI τ.2.2) {p : Nat} (hk : tkOK B S p τ) {i : Nat} (hi : i < 12) : CT l Z yX4_isWord cX4_isWord 3 (some .boolean) 4 0 0 [.ref t, .ref (Z.2.2.2.2.1 i)] G V (pI (b2i (isWd B τ i = true)) G V) := by
  refine CT.of (by decide +kernel) (Nat.le_of_ble_eq_true rfl) (fun X hX cx => ?_)
  subst hX
  show Wm Z X 3 G V 0 0 _ 0 [(0, some (.ref t)), (1, some (.ref (Z.2.2.2.2.1 i)))] []
  have h0 := hT.1
  have hA := hT.2.2
  have vS := hV.1
  have vB := hV.2.1
  have hS := hV.2.2.1
  have b256 := hV.2.2.2
  obtain ⟨q1, q2, q3, q4, q5, q6, q7⟩ := hk
  have sl := sW_len i
  refine x_aload_n (pc := 0) cx (dA ddX4_isWord (i := 0) rfl) rfl ?_
  refine gX4_37 (pc := 1) (congrArg Value.int k2) cx (dA ddX4_isWord (i := 1) rfl) h0 ?_
  refine x_iconst (pc := 4) (v := nI 1) cx (dA ddX4_isWord (i := 2) rfl) (by decide) ?_
  refine x_icmp_ne (pc := 5) (tgt := 24) cx (dA ddX4_isWord (i := 3) rfl) (by decide) (fun c5 => ?_) (fun c5 => ?_)
  · have c5 := ceqF (by omega) (by omega) c5
    refine x_iconst (pc := 24) (v := nI 0) cx (dA ddX4_isWord (i := 12) rfl) (by decide) ?_
    refine x_zreturn (pc := 25) cx (dA ddX4_isWord (i := 13) rfl) (by first | exact Nat.le_of_ble_eq_true rfl | omega) (by first | exact Nat.le_of_ble_eq_true rfl | omega) rfl ?_
    refine rI (b2i_f (fun h => ?_)).symm
    have h := isWd_iff.mp h
    first | exact c5 h.1 | exact c21 h.2.1
  · have c5 := ceqT (by omega) (by omega) c5
    refine x_aload_n (pc := 8) cx (dA ddX4_isWord (i := 4) rfl) rfl ?_
    refine gX4_24 (pc := 9) (congrArg Value.int k4) cx (dA ddX4_isWord (i := 5) rfl) h0 ?_
    refine x_aload_n (pc := 12) cx (dA ddX4_isWord (i := 6) rfl) rfl ?_
    refine gX4_34 (pc := 13) (congrArg Value.int k3) cx (dA ddX4_isWord (i := 7) rfl) h0 ?_
    refine x_isub (pc := 16) cx (dA ddX4_isWord (i := 8) rfl) ?_
    refine x_aload_n (pc := 17) cx (dA ddX4_isWord (i := 9) rfl) rfl ?_
    rw [pk_sub q2]
    refine x_T0 (pc := 18) hi rfl mX4_106 ym_J0_length_8abf5 yv_J0_length_8abf5 (c_J0_length_8abf5 hi) cx (dA ddX4_isWord (i := 10) rfl) (kI ?_)
    refine x_icmp_eq (pc := 21) (tgt := 26) cx (dA ddX4_isWord (i := 11) rfl) (by decide) (fun c21 => ?_) (fun c21 => ?_)
    · have c21 := ceqT (by omega) (by omega) c21
      refine x_iconst (pc := 26) (v := nI 0) cx (dA ddX4_isWord (i := 14) rfl) (by decide) ?_
      refine x_istore_n (pc := 27) cx (dA ddX4_isWord (i := 15) rfl) (by decide) rfl ?_
      have L28 : ∀ j, j ≤ (sW i).length → (∀ z, z < j → B (τ.2.1 + z) = (sW i).getD z 0) → Wm Z X 3 G V 0 0 (rQ Z X 0 0 (pI (b2i (isWd B τ i = true)) G V)) 28 [(0, some (.ref t)), (1, some (.ref (Z.2.2.2.2.1 i))), (2, some (.int (nI j)))] [] := by
        refine lpU (sW i).length (fun j hj ih => ?_)
        intro hw
        refine x_iload_n (pc := 28) cx (dA ddX4_isWord (i := 16) rfl) rfl ?_
        refine x_aload_n (pc := 29) cx (dA ddX4_isWord (i := 17) rfl) rfl ?_
        refine x_T0 (pc := 30) hi rfl mX4_106 ym_J0_length_8abf5 yv_J0_length_8abf5 (c_J0_length_8abf5 hi) cx (dA ddX4_isWord (i := 18) rfl) (kI ?_)
        refine x_icmp_ge (pc := 33) (tgt := 62) cx (dA ddX4_isWord (i := 19) rfl) (by decide) (fun c33 => ?_) (fun c33 => ?_)
        · have c33 := cleT (by omega) (by omega) c33
          refine x_iconst (pc := 62) (v := nI 1) cx (dA ddX4_isWord (i := 34) rfl) (by decide) ?_
          refine x_zreturn (pc := 63) cx (dA ddX4_isWord (i := 35) rfl) (by first | exact Nat.le_of_ble_eq_true rfl | omega) (by first | exact Nat.le_of_ble_eq_true rfl | omega) rfl ?_
          exact rI (b2i_t (isWd_iff.mpr ⟨c5, by omega, fun z hz => hw z (by omega)⟩)).symm
        · have c33 := cleF (by omega) (by omega) c33
          refine x_aload_n (pc := 36) cx (dA ddX4_isWord (i := 20) rfl) rfl ?_
          refine x_aload_n (pc := 37) cx (dA ddX4_isWord (i := 21) rfl) rfl ?_
          refine gX4_34 (pc := 38) (congrArg Value.int k3) cx (dA ddX4_isWord (i := 22) rfl) h0 ?_
          refine x_iload_n (pc := 41) cx (dA ddX4_isWord (i := 23) rfl) rfl ?_
          refine x_iadd (pc := 42) cx (dA ddX4_isWord (i := 24) rfl) ?_
          rw [nI_add]
          refine x_V1 (pc := 43) mX4_99 h0 (c_X4_byteAt hT hV (by omega)) cx (dA ddX4_isWord (i := 25) rfl) (kI ?_)
          refine x_aload_n (pc := 46) cx (dA ddX4_isWord (i := 26) rfl) rfl ?_
          refine x_iload_n (pc := 47) cx (dA ddX4_isWord (i := 27) rfl) rfl ?_
          refine x_T1 (pc := 48) hi rfl mX4_111 ym_J0_charAt_5068e yv_J0_charAt_5068e (c_J0_charAt_5068e hi (by omega)) cx (dA ddX4_isWord (i := 28) rfl) (kI ?_)
          refine x_icmp_eq (pc := 51) (tgt := 56) cx (dA ddX4_isWord (i := 29) rfl) (by decide) (fun c51 => ?_) (fun c51 => ?_)
          · have c51 := (sb_eq (b256 _) (sW_lt i j)).mp c51
            refine x_iinc (pc := 56) cx (dA ddX4_isWord (i := 32) rfl) rfl (iinc1 _) (by decide) rfl ?_
            refine x_goto (pc := 59) (tgt := 28) cx (dA ddX4_isWord (i := 33) rfl) (by decide) ?_
            exact x_enter (ih (by omega) (lt_s hw c51)) ⟨.inr rfl, .inr rfl, .inr rfl, trivial⟩
          · have c51 : ¬ B (τ.2.1 + j) = (sW i).getD j 0 := fun e => c51 ((sb_eq (b256 _) (sW_lt i j)).mpr e)
            refine x_iconst (pc := 54) (v := nI 0) cx (dA ddX4_isWord (i := 30) rfl) (by decide) ?_
            refine x_zreturn (pc := 55) cx (dA ddX4_isWord (i := 31) rfl) (by first | exact Nat.le_of_ble_eq_true rfl | omega) (by first | exact Nat.le_of_ble_eq_true rfl | omega) rfl ?_
            exact rI (b2i_f (fun h => c51 ((isWd_iff.mp h).2.2 j (by omega)))).symm
      exact x_enter (L28 0 (Nat.zero_le _) lt_0) ⟨.inr rfl, .inr rfl, .inr rfl, trivial⟩
    · have c21 := ceqF (by omega) (by omega) c21
      refine x_iconst (pc := 24) (v := nI 0) cx (dA ddX4_isWord (i := 12) rfl) (by decide) ?_
      refine x_zreturn (pc := 25) cx (dA ddX4_isWord (i := 13) rfl) (by first | exact Nat.le_of_ble_eq_true rfl | omega) (by first | exact Nat.le_of_ble_eq_true rfl | omega) rfl ?_
      refine rI (b2i_f (fun h => ?_)).symm
      have h := isWd_iff.mp h
      first | exact c5 h.1 | exact c21 h.2.1
theorem c_X4_numberHere {l : Launch} {Z : zP} {G : zG} {V : zV} {t : Nat} (hT : TapeAt Z G t) {B : Nat → Nat} {S : Nat} (hV : TapeV V t B S) {τ : TK} (k2 : V.1 202 t = nI τ.1) (k3 : V.1 203 t = nI τ.2.1) (k4 : V.1 204 t = nI τ.2.2) {p : Nat} (hk : tkOK B S p τ) : CT l Z yX4_numberHere cX4_numberHere 3 (some .int) 1 0 0 [.ref t] G V (pI (nhV (numH B τ)) G V) := by
  refine CT.of (by decide +kernel) (Nat.le_of_ble_eq_true rfl) (fun X hX cx => ?_)
  subst hX
  show Wm Z X 3 G V 0 0 _ 0 [(0, some (.ref t))] []
  have h0 := hT.1
  have hA := hT.2.2
  have vS := hV.1
  have vB := hV.2.1
  have hS := hV.2.2.1
  have b256 := hV.2.2.2
  obtain ⟨q1, q2, q3, q4, q5, q6, q7⟩ := hk
  refine x_aload_n (pc := 0) cx (dA ddX4_numberHere (i := 0) rfl) rfl ?_
  refine gX4_37 (pc := 1) (congrArg Value.int k2) cx (dA ddX4_numberHere (i := 1) rfl) h0 ?_
  refine x_iconst (pc := 4) (v := nI 2) cx (dA ddX4_numberHere (i := 2) rfl) (by decide) ?_
  refine x_icmp_ne (pc := 5) (tgt := 21) cx (dA ddX4_numberHere (i := 3) rfl) (by decide) (fun c5 => ?_) (fun c5 => ?_)
  · have c5 := ceqF (by omega) (by omega) c5
    refine x_iconst (pc := 21) (v := -1) cx (dA ddX4_numberHere (i := 11) rfl) (by decide) ?_
    refine x_ireturn (pc := 22) cx (dA ddX4_numberHere (i := 12) rfl) (by first | exact Nat.le_of_ble_eq_true rfl | omega) (by first | exact Nat.le_of_ble_eq_true rfl | omega) ?_
    refine rI ?_
    unfold numH
    rw [if_neg (by omega)]
    rfl
  · have c5 := ceqT (by omega) (by omega) c5
    refine x_aload_n (pc := 8) cx (dA ddX4_numberHere (i := 4) rfl) rfl ?_
    refine gX4_24 (pc := 9) (congrArg Value.int k4) cx (dA ddX4_numberHere (i := 5) rfl) h0 ?_
    refine x_aload_n (pc := 12) cx (dA ddX4_numberHere (i := 6) rfl) rfl ?_
    refine gX4_34 (pc := 13) (congrArg Value.int k3) cx (dA ddX4_numberHere (i := 7) rfl) h0 ?_
    refine x_isub (pc := 16) cx (dA ddX4_numberHere (i := 8) rfl) ?_
    rw [pk_sub q2]
    refine x_iconst (pc := 17) (v := nI 2) cx (dA ddX4_numberHere (i := 9) rfl) (by decide) ?_
    refine x_icmp_le (pc := 18) (tgt := 23) cx (dA ddX4_numberHere (i := 10) rfl) (by decide) (fun c18 => ?_) (fun c18 => ?_)
    · have c18 := cleT (by omega) (by omega) c18
      refine x_iconst (pc := 23) (v := nI 0) cx (dA ddX4_numberHere (i := 13) rfl) (by decide) ?_
      refine x_istore_n (pc := 24) cx (dA ddX4_numberHere (i := 14) rfl) (by decide) rfl ?_
      refine x_aload_n (pc := 25) cx (dA ddX4_numberHere (i := 15) rfl) rfl ?_
      refine gX4_34 (pc := 26) (congrArg Value.int k3) cx (dA ddX4_numberHere (i := 16) rfl) h0 ?_
      refine x_istore_n (pc := 29) cx (dA ddX4_numberHere (i := 17) rfl) (by decide) rfl ?_
      have L30 : ∀ z, z ≤ τ.2.2 → τ.2.1 ≤ z → Wm Z X 3 G V 0 0 (rQ Z X 0 0 (pI (nhV (numH B τ)) G V)) 30 [(0, some (.ref t)), (1, some (.int (nI (numD B τ.2.1 (z - τ.2.1))))), (2, some (.int (nI z)))] [] := by
        refine lpU τ.2.2 (fun z hz ih => ?_)
        intro hz2
        refine x_iload_n (pc := 30) cx (dA ddX4_numberHere (i := 18) rfl) rfl ?_
        refine x_aload_n (pc := 31) cx (dA ddX4_numberHere (i := 19) rfl) rfl ?_
        refine gX4_24 (pc := 32) (congrArg Value.int k4) cx (dA ddX4_numberHere (i := 20) rfl) h0 ?_
        refine x_icmp_ge (pc := 35) (tgt := 58) cx (dA ddX4_numberHere (i := 21) rfl) (by decide) (fun c35 => ?_) (fun c35 => ?_)
        · have c35 := cleT (by omega) (by omega) c35
          refine x_iload_n (pc := 58) cx (dA ddX4_numberHere (i := 34) rfl) rfl ?_
          refine x_ireturn (pc := 59) cx (dA ddX4_numberHere (i := 35) rfl) (by first | exact Nat.le_of_ble_eq_true rfl | omega) (by first | exact Nat.le_of_ble_eq_true rfl | omega) ?_
          refine rI ?_
          unfold numH
          rw [if_pos ⟨c5, c18⟩, show z = τ.2.2 by omega]
          rfl
        · have c35 := cleF (by omega) (by omega) c35
          have kd := kOf_dig (q7 (Or.inr c5) z (by omega) (by omega) |>.trans c5)
          have nd := numD_lt (B := B) (f := τ.2.1) (n := z - τ.2.1) (by omega) (fun j h1 h2 => (q7 (Or.inr c5) j (by omega) (by omega)).trans c5)
          refine x_bipush (pc := 38) (v := nI 10) cx (dA ddX4_numberHere (i := 22) rfl) (by decide) ?_
          refine x_iload_n (pc := 40) cx (dA ddX4_numberHere (i := 23) rfl) rfl ?_
          refine x_imul (pc := 41) cx (dA ddX4_numberHere (i := 24) rfl) ?_
          refine x_aload_n (pc := 42) cx (dA ddX4_numberHere (i := 25) rfl) rfl ?_
          refine x_iload_n (pc := 43) cx (dA ddX4_numberHere (i := 26) rfl) rfl ?_
          refine x_V1 (pc := 44) mX4_99 h0 (c_X4_byteAt hT hV (by omega)) cx (dA ddX4_numberHere (i := 27) rfl) (kI ?_)
          refine x_iadd (pc := 47) cx (dA ddX4_numberHere (i := 28) rfl) ?_
          refine x_bipush (pc := 48) (v := nI 48) cx (dA ddX4_numberHere (i := 29) rfl) (by decide) ?_
          refine x_isub (pc := 50) cx (dA ddX4_numberHere (i := 30) rfl) ?_
          rw [(sb_eq (b256 z) (c := B z) (by omega)).mpr rfl, nI_cmul, nI_add, pk_sub (by omega), show 10 * numD B τ.2.1 (z - τ.2.1) + B z - 48 = numD B τ.2.1 (z + 1 - τ.2.1) by
            rw [show z + 1 - τ.2.1 = (z - τ.2.1) + 1 by omega]
            show _ = 10 * numD B τ.2.1 (z - τ.2.1) + (B (τ.2.1 + (z - τ.2.1)) - 48)
            rw [show τ.2.1 + (z - τ.2.1) = z by omega]
            omega]
          refine x_istore_n (pc := 51) cx (dA ddX4_numberHere (i := 31) rfl) (by decide) rfl ?_
          refine x_iinc (pc := 52) cx (dA ddX4_numberHere (i := 32) rfl) rfl (iinc1 _) (by decide) rfl ?_
          refine x_goto (pc := 55) (tgt := 30) cx (dA ddX4_numberHere (i := 33) rfl) (by decide) ?_
          exact x_enter (ih (by omega) (by omega)) ⟨.inr rfl, .inr rfl, .inr rfl, trivial⟩
      have L := L30 τ.2.1 q2 (Nat.le_refl _)
      rw [Nat.sub_self] at L
      exact x_enter L ⟨.inr rfl, .inr rfl, .inr rfl, trivial⟩
    · have c18 := cleF (by omega) (by omega) c18
      refine x_iconst (pc := 21) (v := -1) cx (dA ddX4_numberHere (i := 11) rfl) (by decide) ?_
      refine x_ireturn (pc := 22) cx (dA ddX4_numberHere (i := 12) rfl) (by first | exact Nat.le_of_ble_eq_true rfl | omega) (by first | exact Nat.le_of_ble_eq_true rfl | omega) ?_
      refine rI ?_
      unfold numH
      rw [if_neg (by omega)]
      rfl
