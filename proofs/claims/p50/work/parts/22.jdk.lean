def qJ0_charAt_5068e : List (Nat × Instr × Nat) := [(0, .aload_n 0, 1), (1, .invokevirtual 492, 3), (4, .ifCond .eq 12, 3), (7, .aload_n 0, 1), (8, .getfield 9, 3), (11, .iload_n 1, 1), (12, .invokestatic 495, 3), (15, .ireturn, 1), (16, .aload_n 0, 1), (17, .getfield 9, 3), (20, .iload_n 1, 1), (21, .invokestatic 498, 3), (24, .ireturn, 1)]
theorem ddJ0_charAt_5068e : dAll cJ0_charAt_5068e qJ0_charAt_5068e = true := by decide +kernel
def qJ0_checkIndex_df160 : List (Nat × Instr × Nat) := [(0, .iload_n 0, 1), (1, .iload_n 1, 1), (2, .getstatic 1053, 3), (5, .invokestatic 1059, 3), (8, .pop, 1), (9, .return_, 1)]
theorem ddJ0_checkIndex_df160 : dAll cJ0_checkIndex_df160 qJ0_checkIndex_df160 = true := by decide +kernel
def qJ0_coder_7d493 : List (Nat × Instr × Nat) := [(0, .getstatic 38, 3), (3, .ifCond .eq 10, 3), (6, .aload_n 0, 1), (7, .getfield 15, 3), (10, .goto 4, 3), (13, .iconst 1, 1), (14, .ireturn, 1)]
theorem ddJ0_coder_7d493 : dAll cJ0_coder_7d493 qJ0_coder_7d493 = true := by decide +kernel
def qJ0_isLatin1_aae02 : List (Nat × Instr × Nat) := [(0, .getstatic 38, 3), (3, .ifCond .eq 14, 3), (6, .aload_n 0, 1), (7, .getfield 15, 3), (10, .ifCond .ne 7, 3), (13, .iconst 1, 1), (14, .goto 4, 3), (17, .iconst 0, 1), (18, .ireturn, 1)]
theorem ddJ0_isLatin1_aae02 : dAll cJ0_isLatin1_aae02 qJ0_isLatin1_aae02 = true := by decide +kernel
def qJ0_length_8abf5 : List (Nat × Instr × Nat) := [(0, .aload_n 0, 1), (1, .getfield 9, 3), (4, .arraylength, 1), (5, .aload_n 0, 1), (6, .invokevirtual 335, 3), (9, .ishr, 1), (10, .ireturn, 1)]
theorem ddJ0_length_8abf5 : dAll cJ0_length_8abf5 qJ0_length_8abf5 = true := by decide +kernel
def qJ1_charAt_3b067 : List (Nat × Instr × Nat) := [(0, .iload_n 1, 1), (1, .aload_n 0, 1), (2, .arraylength, 1), (3, .invokestatic 9, 3), (6, .aload_n 0, 1), (7, .iload_n 1, 1), (8, .baload, 1), (9, .sipush 255, 3), (12, .iand, 1), (13, .i2c, 1), (14, .ireturn, 1)]
theorem ddJ1_charAt_3b067 : dAll cJ1_charAt_3b067 qJ1_charAt_3b067 = true := by decide +kernel
def qJ3_checkIndex_8e157 : List (Nat × Instr × Nat) := [(0, .iload_n 0, 1), (1, .ifCond .lt 8, 3), (4, .iload_n 0, 1), (5, .iload_n 1, 1), (6, .if_icmp .lt 10, 3), (9, .aload_n 2, 1), (10, .iload_n 0, 1), (11, .iload_n 1, 1), (12, .invokestatic 95, 3), (15, .athrow, 1), (16, .iload_n 0, 1), (17, .ireturn, 1)]
theorem ddJ3_checkIndex_8e157 : dAll cJ3_checkIndex_8e157 qJ3_checkIndex_8e157 = true := by decide +kernel
theorem zs_compact : Cond.fieldLink RJ0 38 "java/lang/String" "COMPACT_STRINGS" "Z" ∈ WA := wa (tt2 (j := 106) rfl) rfl
theorem zs_format : Cond.fieldLink RJ0 1053 "jdk/internal/util/Preconditions" "SIOOBE_FORMATTER" "Ljava/util/function/BiFunction;" ∈ WA := wa (tt2 (j := 122) rfl) rfl
theorem zs_value : Cond.fieldLink RJ0 9 "java/lang/String" "value" "[B" ∈ WA := wa (tt4 (j := 209) rfl) rfl
theorem zs_coder : Cond.fieldLink RJ0 15 "java/lang/String" "coder" "B" ∈ WA := wa (tt4 (j := 210) rfl) rfl
theorem sW_all : ∀ i, i < 12 → (sW i).length ≤ 10 ∧ ∀ b ∈ sW i, b < 128 := by decide +kernel
theorem sW_big (i : Nat) : sW i = sW (min i 11) := by
  rcases Nat.lt_or_ge i 12 with h | h
  · rw [Nat.min_eq_left (by omega)]
  · rw [Nat.min_eq_right (by omega)]
    obtain ⟨u, rfl⟩ : ∃ u, i = u + 12 := ⟨i - 12, by omega⟩
    rfl
theorem sW_len (i : Nat) : (sW i).length ≤ 10 := by
  rw [sW_big]
  exact (sW_all _ (by omega)).1
theorem sW_lt (i j : Nat) : (sW i).getD j 0 < 128 := by
  rw [List.getD_eq_getElem?_getD]
  cases h : (sW i)[j]? with
  | none => decide
  | some b =>
    have := (sW_all (min i 11) (by omega)).2 b (by rw [← sW_big]; exact List.mem_of_getElem? h)
    exact this
theorem ch_all : ∀ b : Fin 128, (((nI b.val &&& nI 255).toUInt32 % 65536).toInt32 = nI b.val) ∧ narrow .char (.int (nI b.val)) = .int (nI b.val) := by decide +kernel
theorem sW_ch (i j : Nat) : ((nI ((sW i).getD j 0) &&& nI 255).toUInt32 % 65536).toInt32 = nI ((sW i).getD j 0) := (ch_all ⟨_, sW_lt i j⟩).1
theorem zc_nar (b : Nat) (h : b < 128) : narrow .char (.int (nI b)) = .int (nI b) := (ch_all ⟨b, h⟩).2
section XTC
variable {Z : zP} {X : xP} {nL : Nat} {G : zG} {V : zV} {k n : Nat} {Q : State → Prop} {pc : Nat} {lw : List (Nat × Option Value)} {st : List Value} {own nm : String} {cc : ByteArray} {ret : Option FieldType} {D mc ms : Nat}
variable {idx dy ny c1 s1 i : Nat} {y : MethodName} {cy : ByteArray} {ry : Option FieldType} {rest : List Value} {Post : Option Value → zG → zV → Prop}
theorem x_T0 (hi : i < 12) (hy : y.cls = "java/lang/String") (w : cW own idx y cy ny ry 0) (w2 : Cond.instanceMethod y ∈ WA) (w3 : Cond.selects y.cls y y ∈ WA) (hC : CT X.2.1 Z y cy ny ry dy c1 s1 [.ref (Z.2.2.2.2.1 i)] G V Post) (cx : Cx Z X own nm cc nL ret D mc ms) (d : decode cc pc = .ok (.invokevirtual idx, 3)) (kk : ∀ (r : Option Value) (G' : zG) (V' : zV), Post r G' V' → Wm Z X nL G' V' (k + c1) (n + s1) Q (pc + 3) lw (r.toList ++ rest)) (hd : dy + 1 ≤ D := by decide) (hk : k + c1 ≤ mc := by first | exact Nat.le_of_ble_eq_true rfl | omega) (hn : n + s1 ≤ ms := by first | exact Nat.le_of_ble_eq_true rfl | omega) (hr : (rest.map fun v => v.category).sum ≤ 8 := by exact Nat.le_of_ble_eq_true rfl) : Wm Z X nL G V k n Q pc lw (.ref (Z.2.2.2.2.1 i) :: rest) := x_callT (av := []) hi hy w w2 w3 hC cx d hd hk hn hr kk
theorem x_T1 {v1 : Value} (hi : i < 12) (hy : y.cls = "java/lang/String") (w : cW own idx y cy ny ry 1) (w2 : Cond.instanceMethod y ∈ WA) (w3 : Cond.selects y.cls y y ∈ WA) (hC : CT X.2.1 Z y cy ny ry dy c1 s1 [.ref (Z.2.2.2.2.1 i), v1] G V Post) (cx : Cx Z X own nm cc nL ret D mc ms) (d : decode cc pc = .ok (.invokevirtual idx, 3)) (kk : ∀ (r : Option Value) (G' : zG) (V' : zV), Post r G' V' → Wm Z X nL G' V' (k + c1) (n + s1) Q (pc + 3) lw (r.toList ++ rest)) (hd : dy + 1 ≤ D := by decide) (hk : k + c1 ≤ mc := by first | exact Nat.le_of_ble_eq_true rfl | omega) (hn : n + s1 ≤ ms := by first | exact Nat.le_of_ble_eq_true rfl | omega) (hr : (rest.map fun v => v.category).sum ≤ 8 := by exact Nat.le_of_ble_eq_true rfl) : Wm Z X nL G V k n Q pc lw (v1 :: .ref (Z.2.2.2.2.1 i) :: rest) := x_callT (av := [v1]) hi hy w w2 w3 hC cx d hd hk hn hr kk
end XTC
theorem c_J0_coder_7d493 {l : Launch} {Z : zP} {G : zG} {V : zV} {i : Nat} (hi : i < 12) : CT l Z yJ0_coder_7d493 cJ0_coder_7d493 1 (some .byte) 0 0 0 [.ref (Z.2.2.2.2.1 i)] G V (pI (nI 0) G V) := by
  refine CT.of (by decide +kernel) (Nat.le_of_ble_eq_true rfl) (fun X hX cx => ?_)
  subst hX
  show Wm Z X 1 G V 0 0 _ 0 [(0, some (.ref (Z.2.2.2.2.1 i)))] []
  refine x_getsC (pc := 0) zs_compact cx (dA ddJ0_coder_7d493 (i := 0) rfl) ?_
  refine x_if_eq (pc := 3) (tgt := 13) cx (dA ddJ0_coder_7d493 (i := 1) rfl) (by decide) (fun c3 => absurd c3 (by decide)) (fun c3 => ?_)
  refine x_aload_n (pc := 6) cx (dA ddJ0_coder_7d493 (i := 2) rfl) rfl ?_
  refine x_getCoder (pc := 7) hi zs_coder cx (dA ddJ0_coder_7d493 (i := 3) rfl) ?_
  refine x_goto (pc := 10) (tgt := 14) cx (dA ddJ0_coder_7d493 (i := 4) rfl) (by decide) ?_
  refine x_creturn (pc := 14) cx (dA ddJ0_coder_7d493 (i := 6) rfl) (by first | exact Nat.le_of_ble_eq_true rfl | omega) (by first | exact Nat.le_of_ble_eq_true rfl | omega) rfl ?_
  exact rI rfl
theorem c_J0_isLatin1_aae02 {l : Launch} {Z : zP} {G : zG} {V : zV} {i : Nat} (hi : i < 12) : CT l Z yJ0_isLatin1_aae02 cJ0_isLatin1_aae02 1 (some .boolean) 0 0 0 [.ref (Z.2.2.2.2.1 i)] G V (pI (nI 1) G V) := by
  refine CT.of (by decide +kernel) (Nat.le_of_ble_eq_true rfl) (fun X hX cx => ?_)
  subst hX
  show Wm Z X 1 G V 0 0 _ 0 [(0, some (.ref (Z.2.2.2.2.1 i)))] []
  refine x_getsC (pc := 0) zs_compact cx (dA ddJ0_isLatin1_aae02 (i := 0) rfl) ?_
  refine x_if_eq (pc := 3) (tgt := 17) cx (dA ddJ0_isLatin1_aae02 (i := 1) rfl) (by decide) (fun c3 => absurd c3 (by decide)) (fun c3 => ?_)
  refine x_aload_n (pc := 6) cx (dA ddJ0_isLatin1_aae02 (i := 2) rfl) rfl ?_
  refine x_getCoder (pc := 7) hi zs_coder cx (dA ddJ0_isLatin1_aae02 (i := 3) rfl) ?_
  refine x_if_ne (pc := 10) (tgt := 17) cx (dA ddJ0_isLatin1_aae02 (i := 4) rfl) (by decide) (fun c10 => absurd (by decide) c10) (fun c10 => ?_)
  refine x_iconst (pc := 13) (v := nI 1) cx (dA ddJ0_isLatin1_aae02 (i := 5) rfl) (by decide) ?_
  refine x_goto (pc := 14) (tgt := 18) cx (dA ddJ0_isLatin1_aae02 (i := 6) rfl) (by decide) ?_
  refine x_zreturn (pc := 18) cx (dA ddJ0_isLatin1_aae02 (i := 8) rfl) (by first | exact Nat.le_of_ble_eq_true rfl | omega) (by first | exact Nat.le_of_ble_eq_true rfl | omega) rfl ?_
  exact rI rfl
theorem c_J0_length_8abf5 {l : Launch} {Z : zP} {G : zG} {V : zV} {i : Nat} (hi : i < 12) : CT l Z yJ0_length_8abf5 cJ0_length_8abf5 1 (some .int) 1 0 0 [.ref (Z.2.2.2.2.1 i)] G V (pI (nI (sW i).length) G V) := by
  refine CT.of (by decide +kernel) (Nat.le_of_ble_eq_true rfl) (fun X hX cx => ?_)
  subst hX
  show Wm Z X 1 G V 0 0 _ 0 [(0, some (.ref (Z.2.2.2.2.1 i)))] []
  refine x_aload_n (pc := 0) cx (dA ddJ0_length_8abf5 (i := 0) rfl) rfl ?_
  refine x_getValue (pc := 1) hi zs_value cx (dA ddJ0_length_8abf5 (i := 1) rfl) ?_
  refine x_alenS (pc := 4) hi cx (dA ddJ0_length_8abf5 (i := 2) rfl) ?_
  refine x_aload_n (pc := 5) cx (dA ddJ0_length_8abf5 (i := 3) rfl) rfl ?_
  refine x_T0 (pc := 6) hi rfl mJ0_335 ym_J0_coder_7d493 yv_J0_coder_7d493 (c_J0_coder_7d493 hi) cx (dA ddJ0_length_8abf5 (i := 4) rfl) (kI ?_)
  refine x_ishr (pc := 9) cx (dA ddJ0_length_8abf5 (i := 5) rfl) ?_
  refine x_ireturn (pc := 10) cx (dA ddJ0_length_8abf5 (i := 6) rfl) (by first | exact Nat.le_of_ble_eq_true rfl | omega) (by first | exact Nat.le_of_ble_eq_true rfl | omega) ?_
  refine rI ?_
  have := sW_len i
  exact (pk_shrN (n := (sW i).length) (by omega) (nI 0 &&& 31) 0 (by decide)).trans (by rw [Nat.pow_zero, Nat.div_one])
theorem c_J3_checkIndex_8e157 {l : Launch} {Z : zP} {G : zG} {V : zV} {a b : Nat} {o : Option Nat} (h : a < b) (hb : b < 2 ^ 31) : CT l Z yJ3_checkIndex_8e157 cJ3_checkIndex_8e157 3 (some .int) 0 0 0 [.int (nI a), .int (nI b), va_rf o] G V (pI (nI a) G V) := by
  refine CT.of (by decide +kernel) (by cases o <;> exact Nat.le_of_ble_eq_true rfl) (fun X hX cx => ?_)
  subst hX
  show Wm Z X 3 G V 0 0 _ 0 [(0, some (.int (nI a))), (1, some (.int (nI b))), (2, some (va_rf o))] []
  refine x_iload_n (pc := 0) cx (dA ddJ3_checkIndex_8e157 (i := 0) rfl) rfl ?_
  refine x_if_lt (pc := 1) (tgt := 9) cx (dA ddJ3_checkIndex_8e157 (i := 1) rfl) (by decide) (fun c1 => absurd c1 (nI_pos (by omega))) (fun c1 => ?_)
  refine x_iload_n (pc := 4) cx (dA ddJ3_checkIndex_8e157 (i := 2) rfl) rfl ?_
  refine x_iload_n (pc := 5) cx (dA ddJ3_checkIndex_8e157 (i := 3) rfl) rfl ?_
  refine x_icmp_lt (pc := 6) (tgt := 16) cx (dA ddJ3_checkIndex_8e157 (i := 4) rfl) (by decide) (fun c6 => ?_) (fun c6 => absurd (nI_lt h hb) c6)
  refine x_iload_n (pc := 16) cx (dA ddJ3_checkIndex_8e157 (i := 10) rfl) rfl ?_
  refine x_ireturn (pc := 17) cx (dA ddJ3_checkIndex_8e157 (i := 11) rfl) (by first | exact Nat.le_of_ble_eq_true rfl | omega) (by first | exact Nat.le_of_ble_eq_true rfl | omega) ?_
  exact rI rfl
theorem c_J0_checkIndex_df160 {l : Launch} {Z : zP} {G : zG} {V : zV} {a b : Nat} (h : a < b) (hb : b < 2 ^ 31) : CT l Z yJ0_checkIndex_df160 cJ0_checkIndex_df160 2 none 1 0 0 [.int (nI a), .int (nI b)] G V (pV G V) := by
  refine CT.of (by decide +kernel) (Nat.le_of_ble_eq_true rfl) (fun X hX cx => ?_)
  subst hX
  show Wm Z X 2 G V 0 0 _ 0 [(0, some (.int (nI a))), (1, some (.int (nI b)))] []
  refine x_iload_n (pc := 0) cx (dA ddJ0_checkIndex_df160 (i := 0) rfl) rfl ?_
  refine x_iload_n (pc := 1) cx (dA ddJ0_checkIndex_df160 (i := 1) rfl) rfl ?_
  refine x_getsF (pc := 2) zs_format cx (dA ddJ0_checkIndex_df160 (i := 2) rfl) (fun o => ?_)
  refine x_S3 (pc := 5) mJ0_1059 (c_J3_checkIndex_8e157 (o := o) h hb) cx (dA ddJ0_checkIndex_df160 (i := 3) rfl) (kI ?_) (by decide) (Nat.le_of_ble_eq_true rfl) (Nat.le_of_ble_eq_true rfl) (Nat.le_of_ble_eq_true rfl)
  refine x_pop (pc := 8) cx rfl (dA ddJ0_checkIndex_df160 (i := 4) rfl) ?_
  refine x_return (pc := 9) cx (dA ddJ0_checkIndex_df160 (i := 5) rfl) (by first | exact Nat.le_of_ble_eq_true rfl | omega) (by first | exact Nat.le_of_ble_eq_true rfl | omega) ?_
  exact ⟨rfl, rfl, rfl⟩
theorem c_J1_charAt_3b067 {l : Launch} {Z : zP} {G : zG} {V : zV} {i j : Nat} (hi : i < 12) (hj : j < (sW i).length) : CT l Z yJ1_charAt_3b067 cJ1_charAt_3b067 2 (some .char) 2 0 0 [.ref (Z.2.2.2.2.2 i), .int (nI j)] G V (pI (nI ((sW i).getD j 0)) G V) := by
  refine CT.of (by decide +kernel) (Nat.le_of_ble_eq_true rfl) (fun X hX cx => ?_)
  subst hX
  show Wm Z X 2 G V 0 0 _ 0 [(0, some (.ref (Z.2.2.2.2.2 i))), (1, some (.int (nI j)))] []
  have hlen := sW_len i
  refine x_iload_n (pc := 0) cx (dA ddJ1_charAt_3b067 (i := 0) rfl) rfl ?_
  refine x_aload_n (pc := 1) cx (dA ddJ1_charAt_3b067 (i := 1) rfl) rfl ?_
  refine x_alenS (pc := 2) hi cx (dA ddJ1_charAt_3b067 (i := 2) rfl) ?_
  refine x_S2 (pc := 3) mJ1_9 (c_J0_checkIndex_df160 hj (by omega)) cx (dA ddJ1_charAt_3b067 (i := 3) rfl) (kV ?_)
  refine x_aload_n (pc := 6) cx (dA ddJ1_charAt_3b067 (i := 4) rfl) rfl ?_
  refine x_iload_n (pc := 7) cx (dA ddJ1_charAt_3b067 (i := 5) rfl) rfl ?_
  refine x_baloadS (pc := 8) hi hj (by omega) cx (dA ddJ1_charAt_3b067 (i := 6) rfl) ?_
  refine x_sipush (pc := 9) (v := nI 255) cx (dA ddJ1_charAt_3b067 (i := 7) rfl) (by decide) ?_
  refine x_iand (pc := 12) cx (dA ddJ1_charAt_3b067 (i := 8) rfl) ?_
  refine x_i2c (pc := 13) cx (dA ddJ1_charAt_3b067 (i := 9) rfl) ?_
  refine x_creturn (pc := 14) cx (dA ddJ1_charAt_3b067 (i := 10) rfl) (by first | exact Nat.le_of_ble_eq_true rfl | omega) (by first | exact Nat.le_of_ble_eq_true rfl | omega) (by rw [sW_ch i j]; exact zc_nar _ (sW_lt i j)) ?_
  refine rI ?_
  exact sW_ch i j
theorem c_J0_charAt_5068e {l : Launch} {Z : zP} {G : zG} {V : zV} {i j : Nat} (hi : i < 12) (hj : j < (sW i).length) : CT l Z yJ0_charAt_5068e cJ0_charAt_5068e 2 (some .char) 3 0 0 [.ref (Z.2.2.2.2.1 i), .int (nI j)] G V (pI (nI ((sW i).getD j 0)) G V) := by
  refine CT.of (by decide +kernel) (Nat.le_of_ble_eq_true rfl) (fun X hX cx => ?_)
  subst hX
  show Wm Z X 2 G V 0 0 _ 0 [(0, some (.ref (Z.2.2.2.2.1 i))), (1, some (.int (nI j)))] []
  refine x_aload_n (pc := 0) cx (dA ddJ0_charAt_5068e (i := 0) rfl) rfl ?_
  refine x_T0 (pc := 1) hi rfl mJ0_492 ym_J0_isLatin1_aae02 yv_J0_isLatin1_aae02 (c_J0_isLatin1_aae02 hi) cx (dA ddJ0_charAt_5068e (i := 1) rfl) (kI ?_)
  refine x_if_eq (pc := 4) (tgt := 16) cx (dA ddJ0_charAt_5068e (i := 2) rfl) (by decide) (fun c4 => absurd c4 (by decide)) (fun c4 => ?_)
  refine x_aload_n (pc := 7) cx (dA ddJ0_charAt_5068e (i := 3) rfl) rfl ?_
  refine x_getValue (pc := 8) hi zs_value cx (dA ddJ0_charAt_5068e (i := 4) rfl) ?_
  refine x_iload_n (pc := 11) cx (dA ddJ0_charAt_5068e (i := 5) rfl) rfl ?_
  refine x_S2 (pc := 12) mJ0_495 (c_J1_charAt_3b067 hi hj) cx (dA ddJ0_charAt_5068e (i := 6) rfl) (kI ?_)
  refine x_creturn (pc := 15) cx (dA ddJ0_charAt_5068e (i := 7) rfl) (by first | exact Nat.le_of_ble_eq_true rfl | omega) (by first | exact Nat.le_of_ble_eq_true rfl | omega) (zc_nar _ (sW_lt i j)) ?_
  exact rI rfl
