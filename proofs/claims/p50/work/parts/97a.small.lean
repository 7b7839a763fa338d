/-! THE LAW'S SMALL METHODS -/
theorem st_n {N : Nat → Nat} (h1 : 1 ≤ N 4) (h3 : N 4 ≤ 3) : nI (5 ^ N 4) = if N 4 = 1 then nI 5 else if N 4 = 2 then nI 25 else nI 125 := by
  rcases (show N 4 = 1 ∨ N 4 = 2 ∨ N 4 = 3 by omega) with e | e | e <;> rw [e] <;> rfl
theorem c_L_cell {l : Launch} {Z : zP} {G : zG} {V : zV} {i : Int32} : CT l Z yL_cell cL_cell 2 (some .int) 0 0 0 [.ref (scB Z), .int i] G V (pY G V) := by
  refine CT.of (by decide +kernel) (Nat.le_of_ble_eq_true rfl) (fun X hX cx => ?_)
  subst hX
  show Wm Z X 2 G V 0 0 _ 0 [(0, some (.ref (scB Z))), (1, some (.int i))] []
  have hL := cx.amb.2.2.2.2.2
  refine x_aload_n (pc := 0) cx (dA ddL_cell (i := 0) rfl) rfl ?_
  refine x_slen (pc := 1) cx (dA ddL_cell (i := 1) rfl) ?_
  refine x_if_ne (pc := 2) (tgt := 12) cx (dA ddL_cell (i := 2) rfl) (by decide) (fun c2 => ?_) (fun c2 => ?_)
  · have hL0 : 0 < scL Z := Nat.pos_of_ne_zero fun e => c2 (by rw [e]; rfl)
    refine x_aload_n (pc := 12) cx (dA ddL_cell (i := 7) rfl) rfl ?_
    refine x_iload_n (pc := 13) cx (dA ddL_cell (i := 8) rfl) rfl ?_
    refine x_ldc (pc := 14) cx kcL_23 (dA ddL_cell (i := 9) rfl) ?_
    refine x_iand (pc := 16) cx (dA ddL_cell (i := 10) rfl) ?_
    refine x_aload_n (pc := 17) cx (dA ddL_cell (i := 11) rfl) rfl ?_
    refine x_slen (pc := 18) cx (dA ddL_cell (i := 12) rfl) ?_
    refine x_irem (pc := 19) cx c2 (dA ddL_cell (i := 13) rfl) ?_
    obtain ⟨j, hj, ej⟩ := pk_andE i (m := nI 65535) 16 (by decide)
    rw [ej, rem32 (by omega) hL0 (by omega)]
    refine x_sld (pc := 20) (j := j % scL Z) (Nat.mod_lt _ hL0) cx (dA ddL_cell (i := 14) rfl) ?_
    refine x_ireturn (pc := 21) cx (dA ddL_cell (i := 15) rfl) (by first | exact Nat.le_of_ble_eq_true rfl | omega) (by first | exact Nat.le_of_ble_eq_true rfl | omega) ?_
    exact ⟨⟨_, rfl⟩, rfl, rfl⟩
  · refine x_bipush (pc := 5) (v := nI 29) cx (dA ddL_cell (i := 3) rfl) (by decide) ?_
    refine x_iload_n (pc := 7) cx (dA ddL_cell (i := 4) rfl) rfl ?_
    refine x_imul (pc := 8) cx (dA ddL_cell (i := 5) rfl) ?_
    refine x_goto (pc := 9) (tgt := 21) cx (dA ddL_cell (i := 6) rfl) (by decide) ?_
    refine x_ireturn (pc := 21) cx (dA ddL_cell (i := 15) rfl) (by first | exact Nat.le_of_ble_eq_true rfl | omega) (by first | exact Nat.le_of_ble_eq_true rfl | omega) ?_
    exact ⟨⟨_, rfl⟩, rfl, rfl⟩
theorem c_L_tell {l : Launch} {Z : zP} {G : zG} {V : zV} {x : Nat} {col : Nat → Nat} {S : SX} (hRC : RC Z G V x col S) {n i : Nat} (hi : i < 12) (hF : lwF n S) : CT l Z yL_tell cL_tell 3 none 9 0 0 [.ref x, .ref (Z.2.2.2.2.1 i)] G V (pS Z x (pN (lwF n))) := by
  refine CT.of (by decide +kernel) (Nat.le_of_ble_eq_true rfl) (fun X hX cx => ?_)
  subst hX
  show Wm Z X 3 G V 0 0 _ 0 [(0, some (.ref x)), (1, some (.ref (Z.2.2.2.2.1 i)))] []
  have hlen := sW_len i
  refine x_iconst (pc := 0) (v := nI 0) cx (dA ddL_tell (i := 0) rfl) (by decide) ?_
  refine x_istore_n (pc := 1) cx (dA ddL_tell (i := 1) rfl) (by decide) rfl ?_
  have L2 : ∀ j, j ≤ (sW i).length → ∀ G V col S, RC Z G V x col S → lwF n S → Wm Z X 3 G V 0 0 (rQ Z X 0 0 (pS Z x (pN (lwF n)))) 2 [(0, some (.ref x)), (1, some (.ref (Z.2.2.2.2.1 i))), (2, some (.int (nI j)))] [] := by
    refine lpU (sW i).length (fun j hj ih => ?_)
    intro G V col S hRC hF
    refine x_iload_n (pc := 2) cx (dA ddL_tell (i := 2) rfl) rfl ?_
    refine x_aload_n (pc := 3) cx (dA ddL_tell (i := 3) rfl) rfl ?_
    refine x_T0 (pc := 4) hi rfl mL_7 ym_J0_length_8abf5 yv_J0_length_8abf5 (c_J0_length_8abf5 hi) cx (dA ddL_tell (i := 4) rfl) (kI ?_)
    refine x_icmp_ge (pc := 7) (tgt := 27) cx (dA ddL_tell (i := 5) rfl) (by decide) (fun c7 => ?_) (fun c7 => ?_)
    · have c7 := cleT (by omega) (by omega) c7
      refine x_return (pc := 27) cx (dA ddL_tell (i := 15) rfl) (by first | exact Nat.le_of_ble_eq_true rfl | omega) (by first | exact Nat.le_of_ble_eq_true rfl | omega) ?_
      exact ⟨_, _, hRC, rfl, hF⟩
    · have c7 := cleF (by omega) (by omega) c7
      refine x_aload_n (pc := 10) cx (dA ddL_tell (i := 6) rfl) rfl ?_
      refine x_aload_n (pc := 11) cx (dA ddL_tell (i := 7) rfl) rfl ?_
      refine x_iload_n (pc := 12) cx (dA ddL_tell (i := 8) rfl) rfl ?_
      refine x_T1 (pc := 13) hi rfl mL_13 ym_J0_charAt_5068e yv_J0_charAt_5068e (c_J0_charAt_5068e hi c7) cx (dA ddL_tell (i := 9) rfl) (kI ?_)
      refine x_iconst (pc := 16) (v := nI 1) cx (dA ddL_tell (i := 10) rfl) (by decide) ?_
      refine x_V2 (pc := 17) mL_17 hRC.1.1 (c_X7_feed hRC) cx (dA ddL_tell (i := 11) rfl) (kCf (lwF_feed hF) fun _ G V col S hRC hF => ?_)
      refine x_pop (pc := 20) cx rfl (dA ddL_tell (i := 12) rfl) ?_
      refine x_iinc (pc := 21) cx (dA ddL_tell (i := 13) rfl) rfl (iinc1 _) (by decide) rfl ?_
      refine x_goto (pc := 24) (tgt := 2) cx (dA ddL_tell (i := 14) rfl) (by decide) ?_
      exact x_enter (ih (by omega) _ _ _ _ hRC hF) ⟨.inr rfl, .inr rfl, .inr rfl, trivial⟩
  exact x_enter (L2 0 (Nat.zero_le _) _ _ _ _ hRC hF) ⟨.inr rfl, .inr rfl, .inr rfl, trivial⟩
theorem c_L_number {l : Launch} {Z : zP} {G : zG} {V : zV} {x : Nat} {col : Nat → Nat} {S : SX} (hRC : RC Z G V x col S) {n : Nat} {v : Int32} (hF : lwF n S) : CT l Z yL_number cL_number 3 none 9 0 0 [.ref x, .int v] G V (pS Z x (pN (lwF n))) := by
  refine CT.of (by decide +kernel) (Nat.le_of_ble_eq_true rfl) (fun X hX cx => ?_)
  subst hX
  show Wm Z X 3 G V 0 0 _ 0 [(0, some (.ref x)), (1, some (.int v))] []
  refine x_bipush (pc := 0) (v := nI 100) cx (dA ddL_number (i := 0) rfl) (by decide) ?_
  refine x_istore_n (pc := 2) cx (dA ddL_number (i := 1) rfl) (by decide) rfl ?_
  have L3 : ∀ m, m ≤ 100 → ∀ G V col S, RC Z G V x col S → lwF n S → Wm Z X 3 G V 0 0 (rQ Z X 0 0 (pS Z x (pN (lwF n)))) 3 [(0, some (.ref x)), (1, some (.int v)), (2, some (.int (nI m)))] [] := by
    intro m
    refine Nat.strongRecOn m (fun m ih => ?_)
    intro hm G V col S hRC hF
    refine x_iload_n (pc := 3) cx (dA ddL_number (i := 2) rfl) rfl ?_
    refine x_if_le (pc := 4) (tgt := 40) cx (dA ddL_number (i := 3) rfl) (by decide) (fun c4 => ?_) (fun c4 => ?_)
    · have c4 := cleT (b := 0) (by omega) (by omega) c4
      refine x_return (pc := 40) cx (dA ddL_number (i := 26) rfl) (by first | exact Nat.le_of_ble_eq_true rfl | omega) (by first | exact Nat.le_of_ble_eq_true rfl | omega) ?_
      exact ⟨_, _, hRC, rfl, hF⟩
    · have c4 := cleF (b := 0) (by omega) (by omega) c4
      refine x_iload_n (pc := 7) cx (dA ddL_number (i := 4) rfl) rfl ?_
      refine x_iload_n (pc := 8) cx (dA ddL_number (i := 5) rfl) rfl ?_
      refine x_icmp_ge (pc := 9) (tgt := 17) cx (dA ddL_number (i := 6) rfl) (by decide) (fun c9 => ?_) (fun c9 => ?_)
      · refine x_aload_n (pc := 17) cx (dA ddL_number (i := 10) rfl) rfl ?_
        refine x_bipush (pc := 18) (v := nI 48) cx (dA ddL_number (i := 11) rfl) (by decide) ?_
        refine x_iload_n (pc := 20) cx (dA ddL_number (i := 12) rfl) rfl ?_
        refine x_iload_n (pc := 21) cx (dA ddL_number (i := 13) rfl) rfl ?_
        refine x_idiv (pc := 22) cx (nI_ne0 (by omega) (by omega)) (dA ddL_number (i := 14) rfl) ?_
        refine x_bipush (pc := 23) (v := nI 10) cx (dA ddL_number (i := 15) rfl) (by decide) ?_
        refine x_irem (pc := 25) cx (by decide) (dA ddL_number (i := 16) rfl) ?_
        refine x_iadd (pc := 26) cx (dA ddL_number (i := 17) rfl) ?_
        refine x_iconst (pc := 27) (v := nI 1) cx (dA ddL_number (i := 18) rfl) (by decide) ?_
        refine x_V2 (pc := 28) mL_17 hRC.1.1 (c_X7_feed hRC) cx (dA ddL_number (i := 19) rfl) (kCf (lwF_feed hF) fun _ G V col S hRC hF => ?_)
        refine x_pop (pc := 31) cx rfl (dA ddL_number (i := 20) rfl) ?_
        refine x_iload_n (pc := 32) cx (dA ddL_number (i := 21) rfl) rfl ?_
        refine x_bipush (pc := 33) (v := nI 10) cx (dA ddL_number (i := 22) rfl) (by decide) ?_
        refine x_idiv (pc := 35) cx (by decide) (dA ddL_number (i := 23) rfl) ?_
        rw [div32 (by omega) (by omega) (by omega)]
        refine x_istore_n (pc := 36) cx (dA ddL_number (i := 24) rfl) (by decide) rfl ?_
        refine x_goto (pc := 37) (tgt := 3) cx (dA ddL_number (i := 25) rfl) (by decide) ?_
        exact x_enter (ih (m / 10) (by omega) (by omega) _ _ _ _ hRC hF) ⟨.inr rfl, .inr rfl, .inr rfl, trivial⟩
      · refine x_iload_n (pc := 12) cx (dA ddL_number (i := 7) rfl) rfl ?_
        refine x_iconst (pc := 13) (v := nI 1) cx (dA ddL_number (i := 8) rfl) (by decide) ?_
        refine x_icmp_ne (pc := 14) (tgt := 32) cx (dA ddL_number (i := 9) rfl) (by decide) (fun c14 => ?_) (fun c14 => ?_)
        · refine x_iload_n (pc := 32) cx (dA ddL_number (i := 21) rfl) rfl ?_
          refine x_bipush (pc := 33) (v := nI 10) cx (dA ddL_number (i := 22) rfl) (by decide) ?_
          refine x_idiv (pc := 35) cx (by decide) (dA ddL_number (i := 23) rfl) ?_
          rw [div32 (by omega) (by omega) (by omega)]
          refine x_istore_n (pc := 36) cx (dA ddL_number (i := 24) rfl) (by decide) rfl ?_
          refine x_goto (pc := 37) (tgt := 3) cx (dA ddL_number (i := 25) rfl) (by decide) ?_
          exact x_enter (ih (m / 10) (by omega) (by omega) _ _ _ _ hRC hF) ⟨.inr rfl, .inr rfl, .inr rfl, trivial⟩
        · refine x_aload_n (pc := 17) cx (dA ddL_number (i := 10) rfl) rfl ?_
          refine x_bipush (pc := 18) (v := nI 48) cx (dA ddL_number (i := 11) rfl) (by decide) ?_
          refine x_iload_n (pc := 20) cx (dA ddL_number (i := 12) rfl) rfl ?_
          refine x_iload_n (pc := 21) cx (dA ddL_number (i := 13) rfl) rfl ?_
          refine x_idiv (pc := 22) cx (nI_ne0 (by omega) (by omega)) (dA ddL_number (i := 14) rfl) ?_
          refine x_bipush (pc := 23) (v := nI 10) cx (dA ddL_number (i := 15) rfl) (by decide) ?_
          refine x_irem (pc := 25) cx (by decide) (dA ddL_number (i := 16) rfl) ?_
          refine x_iadd (pc := 26) cx (dA ddL_number (i := 17) rfl) ?_
          refine x_iconst (pc := 27) (v := nI 1) cx (dA ddL_number (i := 18) rfl) (by decide) ?_
          refine x_V2 (pc := 28) mL_17 hRC.1.1 (c_X7_feed hRC) cx (dA ddL_number (i := 19) rfl) (kCf (lwF_feed hF) fun _ G V col S hRC hF => ?_)
          refine x_pop (pc := 31) cx rfl (dA ddL_number (i := 20) rfl) ?_
          refine x_iload_n (pc := 32) cx (dA ddL_number (i := 21) rfl) rfl ?_
          refine x_bipush (pc := 33) (v := nI 10) cx (dA ddL_number (i := 22) rfl) (by decide) ?_
          refine x_idiv (pc := 35) cx (by decide) (dA ddL_number (i := 23) rfl) ?_
          rw [div32 (by omega) (by omega) (by omega)]
          refine x_istore_n (pc := 36) cx (dA ddL_number (i := 24) rfl) (by decide) rfl ?_
          refine x_goto (pc := 37) (tgt := 3) cx (dA ddL_number (i := 25) rfl) (by decide) ?_
          exact x_enter (ih (m / 10) (by omega) (by omega) _ _ _ _ hRC hF) ⟨.inr rfl, .inr rfl, .inr rfl, trivial⟩
  exact x_enter (L3 100 (by omega) _ _ _ _ hRC hF) ⟨.inr rfl, .inr rfl, .inr rfl, trivial⟩
set_option maxHeartbeats 1000000 in
theorem c_L_build {l : Launch} {Z : zP} {G : zG} {V : zV} {x : Nat} {col : Nat → Nat} {S : SX} (hRC : RC Z G V x col S) {n so : Nat} {i dd : Int32} (hn : n < 6) (hF : lwF n S) (hso : so ≤ 2) : CT l Z yL_build cL_build 8 (some .int) 10 0 0 [.ref x, .ref (scB Z), .int i, .int dd, .int (nI so)] G V (pS Z x (pEv lwT)) := by
  refine CT.of (by decide +kernel) (Nat.le_of_ble_eq_true rfl) (fun X hX cx => ?_)
  subst hX
  show Wm Z X 8 G V 0 0 _ 0 [(0, some (.ref x)), (1, some (.ref (scB Z))), (2, some (.int i)), (3, some (.int dd)), (4, some (.int (nI so)))] []
  refine x_aload_n (pc := 0) cx (dA ddL_build (i := 0) rfl) rfl ?_
  refine x_iload_n (pc := 1) cx (dA ddL_build (i := 1) rfl) rfl ?_
  refine x_S2 (pc := 2) mL_24 c_L_cell cx (dA ddL_build (i := 2) rfl) (kY fun w => ?_)
  refine x_istore (pc := 5) cx (dA ddL_build (i := 3) rfl) (by decide) rfl ?_
  refine x_aload_n (pc := 7) cx (dA ddL_build (i := 4) rfl) rfl ?_
  refine x_ldcS (pc := 8) (i := 0) (tx := "days") (by decide +kernel) cx (dA ddL_build (i := 5) rfl) ?_
  refine x_S2 (pc := 10) mL_32 (c_L_tell hRC (i := 0) (by decide) hF) cx (dA ddL_build (i := 6) rfl) (kN fun G V col S hRC hF => ?_)
  refine x_aload_n (pc := 13) cx (dA ddL_build (i := 7) rfl) rfl ?_
  refine x_iload_n (pc := 14) cx (dA ddL_build (i := 8) rfl) rfl ?_
  refine x_S2 (pc := 15) mL_36 (c_L_number hRC hF) cx (dA ddL_build (i := 9) rfl) (kN fun G V col S hRC hF => ?_)
  refine x_aload_n (pc := 18) cx (dA ddL_build (i := 10) rfl) rfl ?_
  refine x_ldcS (pc := 19) (i := 9) (tx := ";box") (by decide +kernel) cx (dA ddL_build (i := 11) rfl) ?_
  refine x_S2 (pc := 21) mL_32 (c_L_tell hRC (i := 9) (by decide) hF) cx (dA ddL_build (i := 12) rfl) (kN fun G V col S hRC hF => ?_)
  refine x_aload_n (pc := 24) cx (dA ddL_build (i := 13) rfl) rfl ?_
  refine x_iload (pc := 25) cx (dA ddL_build (i := 14) rfl) rfl ?_
  refine x_bipush (pc := 27) (v := nI 63) cx (dA ddL_build (i := 15) rfl) (by decide) ?_
  refine x_iand (pc := 29) cx (dA ddL_build (i := 16) rfl) ?_
  refine x_S2 (pc := 30) mL_36 (c_L_number hRC hF) cx (dA ddL_build (i := 17) rfl) (kN fun G V col S hRC hF => ?_)
  refine x_aload_n (pc := 33) cx (dA ddL_build (i := 18) rfl) rfl ?_
  refine x_ldcS (pc := 34) (i := 2) (tx := "room") (by decide +kernel) cx (dA ddL_build (i := 19) rfl) ?_
  refine x_S2 (pc := 36) mL_32 (c_L_tell hRC (i := 2) (by decide) hF) cx (dA ddL_build (i := 20) rfl) (kN fun G V col S hRC hF => ?_)
  refine x_aload_n (pc := 39) cx (dA ddL_build (i := 21) rfl) rfl ?_
  refine x_iconst (pc := 40) (v := nI 1) cx (dA ddL_build (i := 22) rfl) (by decide) ?_
  refine x_iload (pc := 41) cx (dA ddL_build (i := 23) rfl) rfl ?_
  refine x_bipush (pc := 43) (v := nI 6) cx (dA ddL_build (i := 24) rfl) (by decide) ?_
  refine x_ishr (pc := 45) cx (dA ddL_build (i := 25) rfl) ?_
  refine x_bipush (pc := 46) (v := nI 31) cx (dA ddL_build (i := 26) rfl) (by decide) ?_
  refine x_iand (pc := 48) cx (dA ddL_build (i := 27) rfl) ?_
  refine x_iadd (pc := 49) cx (dA ddL_build (i := 28) rfl) ?_
  refine x_S2 (pc := 50) mL_36 (c_L_number hRC hF) cx (dA ddL_build (i := 29) rfl) (kN fun G V col S hRC hF => ?_)
  refine x_aload_n (pc := 53) cx (dA ddL_build (i := 30) rfl) rfl ?_
  refine x_ldcS (pc := 54) (i := 10) (tx := ";full") (by decide +kernel) cx (dA ddL_build (i := 31) rfl) ?_
  refine x_S2 (pc := 56) mL_32 (c_L_tell hRC (i := 10) (by decide) hF) cx (dA ddL_build (i := 32) rfl) (kN fun G V col S hRC hF => ?_)
  refine x_aload_n (pc := 59) cx (dA ddL_build (i := 33) rfl) rfl ?_
  refine x_iload (pc := 60) cx (dA ddL_build (i := 34) rfl) rfl ?_
  refine x_bipush (pc := 62) (v := nI 11) cx (dA ddL_build (i := 35) rfl) (by decide) ?_
  refine x_ishr (pc := 64) cx (dA ddL_build (i := 36) rfl) ?_
  refine x_iconst (pc := 65) (v := nI 3) cx (dA ddL_build (i := 37) rfl) (by decide) ?_
  refine x_iand (pc := 66) cx (dA ddL_build (i := 38) rfl) ?_
  refine x_S2 (pc := 67) mL_36 (c_L_number hRC hF) cx (dA ddL_build (i := 39) rfl) (kN fun G V col S hRC hF => ?_)
  refine x_iconst (pc := 70) (v := nI 0) cx (dA ddL_build (i := 40) rfl) (by decide) ?_
  refine x_istore (pc := 71) cx (dA ddL_build (i := 41) rfl) (by decide) rfl ?_
  have L73 : ∀ j, j ≤ so → ∀ G V col S, RC Z G V x col S → lwF n S → Wm Z X 8 G V 0 0 (rQ Z X 0 0 (pS Z x (pEv lwT))) 73 [(0, some (.ref x)), (1, some (.ref (scB Z))), (2, some (.int i)), (4, some (.int (nI so))), (6, some (.int (nI j)))] [] := by
    refine lpU so (fun j hj ih => ?_)
    intro G V col S hRC hF
    refine x_iload (pc := 73) cx (dA ddL_build (i := 42) rfl) rfl ?_
    refine x_iload (pc := 75) cx (dA ddL_build (i := 43) rfl) rfl ?_
    refine x_icmp_ge (pc := 77) (tgt := 211) cx (dA ddL_build (i := 44) rfl) (by decide) (fun c77 => ?_) (fun c77 => ?_)
    · have c77 := cleT (by omega) (by omega) c77
      refine x_aload_n (pc := 211) cx (dA ddL_build (i := 121) rfl) rfl ?_
      refine x_V0 (pc := 212) mL_56 hRC.1.1 (c_X7_house hRC) cx (dA ddL_build (i := 122) rfl) (kCt (lwT_house hn hF) fun _ G V col S hRC hT => ?_)
      refine x_ireturn (pc := 215) cx (dA ddL_build (i := 123) rfl) (by first | exact Nat.le_of_ble_eq_true rfl | omega) (by first | exact Nat.le_of_ble_eq_true rfl | omega) ?_
      exact ⟨_, _, hRC, ⟨_, rfl⟩, hT⟩
    · have c77 := cleF (by omega) (by omega) c77
      refine x_aload_n (pc := 80) cx (dA ddL_build (i := 45) rfl) rfl ?_
      refine x_iload_n (pc := 81) cx (dA ddL_build (i := 46) rfl) rfl ?_
      refine x_iconst (pc := 82) (v := nI 1) cx (dA ddL_build (i := 47) rfl) (by decide) ?_
      refine x_iadd (pc := 83) cx (dA ddL_build (i := 48) rfl) ?_
      refine x_iload (pc := 84) cx (dA ddL_build (i := 49) rfl) rfl ?_
      refine x_iadd (pc := 86) cx (dA ddL_build (i := 50) rfl) ?_
      refine x_S2 (pc := 87) mL_24 c_L_cell cx (dA ddL_build (i := 51) rfl) (kY fun y => ?_)
      refine x_istore (pc := 90) cx (dA ddL_build (i := 52) rfl) (by decide) rfl ?_
      refine x_aload_n (pc := 92) cx (dA ddL_build (i := 53) rfl) rfl ?_
      refine x_ldcS (pc := 93) (i := 11) (tx := ";sort room") (by decide +kernel) cx (dA ddL_build (i := 54) rfl) ?_
      refine x_S2 (pc := 95) mL_32 (c_L_tell hRC (i := 11) (by decide) hF) cx (dA ddL_build (i := 55) rfl) (kN fun G V col S hRC hF => ?_)
      refine x_aload_n (pc := 98) cx (dA ddL_build (i := 56) rfl) rfl ?_
      refine x_iconst (pc := 99) (v := nI 1) cx (dA ddL_build (i := 57) rfl) (by decide) ?_
      refine x_iload (pc := 100) cx (dA ddL_build (i := 58) rfl) rfl ?_
      refine x_bipush (pc := 102) (v := nI 7) cx (dA ddL_build (i := 59) rfl) (by decide) ?_
      refine x_iand (pc := 104) cx (dA ddL_build (i := 60) rfl) ?_
      refine x_iadd (pc := 105) cx (dA ddL_build (i := 61) rfl) ?_
      refine x_S2 (pc := 106) mL_36 (c_L_number hRC hF) cx (dA ddL_build (i := 62) rfl) (kN fun G V col S hRC hF => ?_)
      refine x_aload_n (pc := 109) cx (dA ddL_build (i := 63) rfl) rfl ?_
      refine x_ldcS (pc := 110) (i := 5) (tx := "comes") (by decide +kernel) cx (dA ddL_build (i := 64) rfl) ?_
      refine x_S2 (pc := 112) mL_32 (c_L_tell hRC (i := 5) (by decide) hF) cx (dA ddL_build (i := 65) rfl) (kN fun G V col S hRC hF => ?_)
      refine x_aload_n (pc := 115) cx (dA ddL_build (i := 66) rfl) rfl ?_
      refine x_iload (pc := 116) cx (dA ddL_build (i := 67) rfl) rfl ?_
      refine x_iconst (pc := 118) (v := nI 3) cx (dA ddL_build (i := 68) rfl) (by decide) ?_
      refine x_ishr (pc := 119) cx (dA ddL_build (i := 69) rfl) ?_
      refine x_bipush (pc := 120) (v := nI 7) cx (dA ddL_build (i := 70) rfl) (by decide) ?_
      refine x_iand (pc := 122) cx (dA ddL_build (i := 71) rfl) ?_
      refine x_iconst (pc := 123) (v := nI 5) cx (dA ddL_build (i := 72) rfl) (by decide) ?_
      refine x_irem (pc := 124) cx (by decide) (dA ddL_build (i := 73) rfl) ?_
      refine x_S2 (pc := 125) mL_36 (c_L_number hRC hF) cx (dA ddL_build (i := 74) rfl) (kN fun G V col S hRC hF => ?_)
      refine x_aload_n (pc := 128) cx (dA ddL_build (i := 75) rfl) rfl ?_
      refine x_ldcS (pc := 129) (i := 6) (tx := "hold") (by decide +kernel) cx (dA ddL_build (i := 76) rfl) ?_
      refine x_S2 (pc := 131) mL_32 (c_L_tell hRC (i := 6) (by decide) hF) cx (dA ddL_build (i := 77) rfl) (kN fun G V col S hRC hF => ?_)
      refine x_aload_n (pc := 134) cx (dA ddL_build (i := 78) rfl) rfl ?_
      refine x_iload (pc := 135) cx (dA ddL_build (i := 79) rfl) rfl ?_
      refine x_bipush (pc := 137) (v := nI 6) cx (dA ddL_build (i := 80) rfl) (by decide) ?_
      refine x_ishr (pc := 139) cx (dA ddL_build (i := 81) rfl) ?_
      refine x_bipush (pc := 140) (v := nI 15) cx (dA ddL_build (i := 82) rfl) (by decide) ?_
      refine x_iand (pc := 142) cx (dA ddL_build (i := 83) rfl) ?_
      refine x_bipush (pc := 143) (v := nI 10) cx (dA ddL_build (i := 84) rfl) (by decide) ?_
      refine x_irem (pc := 145) cx (by decide) (dA ddL_build (i := 85) rfl) ?_
      refine x_S2 (pc := 146) mL_36 (c_L_number hRC hF) cx (dA ddL_build (i := 86) rfl) (kN fun G V col S hRC hF => ?_)
      refine x_iload (pc := 149) cx (dA ddL_build (i := 87) rfl) rfl ?_
      refine x_bipush (pc := 151) (v := nI 10) cx (dA ddL_build (i := 88) rfl) (by decide) ?_
      refine x_ishr (pc := 153) cx (dA ddL_build (i := 89) rfl) ?_
      refine x_iconst (pc := 154) (v := nI 1) cx (dA ddL_build (i := 90) rfl) (by decide) ?_
      refine x_iand (pc := 155) cx (dA ddL_build (i := 91) rfl) ?_
      refine x_if_eq (pc := 156) (tgt := 177) cx (dA ddL_build (i := 92) rfl) (by decide) (fun c156 => ?_) (fun c156 => ?_)
      · refine x_iload (pc := 177) cx (dA ddL_build (i := 103) rfl) rfl ?_
        refine x_bipush (pc := 179) (v := nI 17) cx (dA ddL_build (i := 104) rfl) (by decide) ?_
        refine x_ishr (pc := 181) cx (dA ddL_build (i := 105) rfl) ?_
        refine x_iconst (pc := 182) (v := nI 1) cx (dA ddL_build (i := 106) rfl) (by decide) ?_
        refine x_iand (pc := 183) cx (dA ddL_build (i := 107) rfl) ?_
        refine x_if_eq (pc := 184) (tgt := 205) cx (dA ddL_build (i := 108) rfl) (by decide) (fun c184 => ?_) (fun c184 => ?_)
        · refine x_iinc (pc := 205) cx (dA ddL_build (i := 119) rfl) rfl (iinc1 _) (by decide) rfl ?_
          refine x_goto (pc := 208) (tgt := 73) cx (dA ddL_build (i := 120) rfl) (by decide) ?_
          exact x_enter (ih (by omega) _ _ _ _ hRC hF) ⟨.inr rfl, .inr rfl, .inr rfl, .inr rfl, .inr rfl, trivial⟩
        · refine x_aload_n (pc := 187) cx (dA ddL_build (i := 109) rfl) rfl ?_
          refine x_ldcS (pc := 188) (i := 8) (tx := "left") (by decide +kernel) cx (dA ddL_build (i := 110) rfl) ?_
          refine x_S2 (pc := 190) mL_32 (c_L_tell hRC (i := 8) (by decide) hF) cx (dA ddL_build (i := 111) rfl) (kN fun G V col S hRC hF => ?_)
          refine x_aload_n (pc := 193) cx (dA ddL_build (i := 112) rfl) rfl ?_
          refine x_iload (pc := 194) cx (dA ddL_build (i := 113) rfl) rfl ?_
          refine x_bipush (pc := 196) (v := nI 18) cx (dA ddL_build (i := 114) rfl) (by decide) ?_
          refine x_ishr (pc := 198) cx (dA ddL_build (i := 115) rfl) ?_
          refine x_bipush (pc := 199) (v := nI 63) cx (dA ddL_build (i := 116) rfl) (by decide) ?_
          refine x_iand (pc := 201) cx (dA ddL_build (i := 117) rfl) ?_
          refine x_S2 (pc := 202) mL_36 (c_L_number hRC hF) cx (dA ddL_build (i := 118) rfl) (kN fun G V col S hRC hF => ?_)
          refine x_iinc (pc := 205) cx (dA ddL_build (i := 119) rfl) rfl (iinc1 _) (by decide) rfl ?_
          refine x_goto (pc := 208) (tgt := 73) cx (dA ddL_build (i := 120) rfl) (by decide) ?_
          exact x_enter (ih (by omega) _ _ _ _ hRC hF) ⟨.inr rfl, .inr rfl, .inr rfl, .inr rfl, .inr rfl, trivial⟩
      · refine x_aload_n (pc := 159) cx (dA ddL_build (i := 93) rfl) rfl ?_
        refine x_ldcS (pc := 160) (i := 7) (tx := "refuse") (by decide +kernel) cx (dA ddL_build (i := 94) rfl) ?_
        refine x_S2 (pc := 162) mL_32 (c_L_tell hRC (i := 7) (by decide) hF) cx (dA ddL_build (i := 95) rfl) (kN fun G V col S hRC hF => ?_)
        refine x_aload_n (pc := 165) cx (dA ddL_build (i := 96) rfl) rfl ?_
        refine x_iload (pc := 166) cx (dA ddL_build (i := 97) rfl) rfl ?_
        refine x_bipush (pc := 168) (v := nI 11) cx (dA ddL_build (i := 98) rfl) (by decide) ?_
        refine x_ishr (pc := 170) cx (dA ddL_build (i := 99) rfl) ?_
        refine x_bipush (pc := 171) (v := nI 63) cx (dA ddL_build (i := 100) rfl) (by decide) ?_
        refine x_iand (pc := 173) cx (dA ddL_build (i := 101) rfl) ?_
        refine x_S2 (pc := 174) mL_36 (c_L_number hRC hF) cx (dA ddL_build (i := 102) rfl) (kN fun G V col S hRC hF => ?_)
        refine x_iload (pc := 177) cx (dA ddL_build (i := 103) rfl) rfl ?_
        refine x_bipush (pc := 179) (v := nI 17) cx (dA ddL_build (i := 104) rfl) (by decide) ?_
        refine x_ishr (pc := 181) cx (dA ddL_build (i := 105) rfl) ?_
        refine x_iconst (pc := 182) (v := nI 1) cx (dA ddL_build (i := 106) rfl) (by decide) ?_
        refine x_iand (pc := 183) cx (dA ddL_build (i := 107) rfl) ?_
        refine x_if_eq (pc := 184) (tgt := 205) cx (dA ddL_build (i := 108) rfl) (by decide) (fun c184 => ?_) (fun c184 => ?_)
        · refine x_iinc (pc := 205) cx (dA ddL_build (i := 119) rfl) rfl (iinc1 _) (by decide) rfl ?_
          refine x_goto (pc := 208) (tgt := 73) cx (dA ddL_build (i := 120) rfl) (by decide) ?_
          exact x_enter (ih (by omega) _ _ _ _ hRC hF) ⟨.inr rfl, .inr rfl, .inr rfl, .inr rfl, .inr rfl, trivial⟩
        · refine x_aload_n (pc := 187) cx (dA ddL_build (i := 109) rfl) rfl ?_
          refine x_ldcS (pc := 188) (i := 8) (tx := "left") (by decide +kernel) cx (dA ddL_build (i := 110) rfl) ?_
          refine x_S2 (pc := 190) mL_32 (c_L_tell hRC (i := 8) (by decide) hF) cx (dA ddL_build (i := 111) rfl) (kN fun G V col S hRC hF => ?_)
          refine x_aload_n (pc := 193) cx (dA ddL_build (i := 112) rfl) rfl ?_
          refine x_iload (pc := 194) cx (dA ddL_build (i := 113) rfl) rfl ?_
          refine x_bipush (pc := 196) (v := nI 18) cx (dA ddL_build (i := 114) rfl) (by decide) ?_
          refine x_ishr (pc := 198) cx (dA ddL_build (i := 115) rfl) ?_
          refine x_bipush (pc := 199) (v := nI 63) cx (dA ddL_build (i := 116) rfl) (by decide) ?_
          refine x_iand (pc := 201) cx (dA ddL_build (i := 117) rfl) ?_
          refine x_S2 (pc := 202) mL_36 (c_L_number hRC hF) cx (dA ddL_build (i := 118) rfl) (kN fun G V col S hRC hF => ?_)
          refine x_iinc (pc := 205) cx (dA ddL_build (i := 119) rfl) rfl (iinc1 _) (by decide) rfl ?_
          refine x_goto (pc := 208) (tgt := 73) cx (dA ddL_build (i := 120) rfl) (by decide) ?_
          exact x_enter (ih (by omega) _ _ _ _ hRC hF) ⟨.inr rfl, .inr rfl, .inr rfl, .inr rfl, .inr rfl, trivial⟩
  exact x_enter (L73 0 (Nat.zero_le _) _ _ _ _ hRC hF) ⟨.inr rfl, .inr rfl, .inr rfl, .inr rfl, .inr rfl, trivial⟩
theorem c_L_sum {l : Launch} {Z : zP} {G : zG} {V : zV} {x : Nat} {col : Nat → Nat} {S : SX} (hRC : RC Z G V x col S) {i t : Nat} {N : Nat → Nat} (hS : HS S i N) (ht : t < 125) : CT l Z yL_sum cL_sum 6 (some .int) 9 0 0 [.ref x, .int (nI i), .int (nI t), .int (nI 0)] G V (pS Z x (pK S (.int (nI (sumP N t 0))))) := by
  refine CT.of (by decide +kernel) (Nat.le_of_ble_eq_true rfl) (fun X hX cx => ?_)
  subst hX
  show Wm Z X 6 G V 0 0 _ 0 [(0, some (.ref x)), (1, some (.int (nI i))), (2, some (.int (nI t))), (3, some (.int (nI 0)))] []
  have n4 := hS.2.2.2.1.1.1
  refine x_iconst (pc := 0) (v := nI 0) cx (dA ddL_sum (i := 0) rfl) (by decide) ?_
  refine x_istore (pc := 1) cx (dA ddL_sum (i := 1) rfl) (by decide) rfl ?_
  refine x_iconst (pc := 3) (v := nI 0) cx (dA ddL_sum (i := 2) rfl) (by decide) ?_
  refine x_istore (pc := 4) cx (dA ddL_sum (i := 3) rfl) (by decide) rfl ?_
  have L6 : ∀ k, k ≤ N 4 → ∀ G V col, RC Z G V x col S → Wm Z X 6 G V 0 0 (rQ Z X 0 0 (pS Z x (pK S (.int (nI (sumP N t 0)))))) 6 [(0, some (.ref x)), (1, some (.int (nI i))), (2, some (.int (nI t))), (3, some (.int (nI 0))), (4, some (.int (nI (sumN k (fun j => dig t j * N (5 + 5 * j + 0)))))), (5, some (.int (nI k)))] [] := by
    refine lpU (N 4) (fun k hk ih => ?_)
    intro G V col hRC
    refine x_iload (pc := 6) cx (dA ddL_sum (i := 4) rfl) rfl ?_
    refine x_aload_n (pc := 8) cx (dA ddL_sum (i := 5) rfl) rfl ?_
    refine x_iload_n (pc := 9) cx (dA ddL_sum (i := 6) rfl) rfl ?_
    refine x_iconst (pc := 10) (v := nI 4) cx (dA ddL_sum (i := 7) rfl) (by decide) ?_
    refine x_V2 (pc := 11) mL_59 hRC.1.1 (c_X7_houseOf hRC) cx (dA ddL_sum (i := 8) rfl) (kCe (e_houseOf hS (w := 4) (by decide)) fun G V col hRC => ?_)
    refine x_icmp_ge (pc := 14) (tgt := 44) cx (dA ddL_sum (i := 9) rfl) (by decide) (fun c14 => ?_) (fun c14 => ?_)
    · have c14 := cleT (by omega) (by omega) c14
      refine x_iload (pc := 44) cx (dA ddL_sum (i := 25) rfl) rfl ?_
      refine x_ireturn (pc := 46) cx (dA ddL_sum (i := 26) rfl) (by first | exact Nat.le_of_ble_eq_true rfl | omega) (by first | exact Nat.le_of_ble_eq_true rfl | omega) ?_
      have e : k = N 4 := by omega
      subst e
      exact ⟨_, _, hRC, rfl, rfl⟩
    · have c14 := cleF (by omega) (by omega) c14
      refine x_iload (pc := 17) cx (dA ddL_sum (i := 10) rfl) rfl ?_
      refine x_aload_n (pc := 19) cx (dA ddL_sum (i := 11) rfl) rfl ?_
      refine x_iload_n (pc := 20) cx (dA ddL_sum (i := 12) rfl) rfl ?_
      refine x_iload (pc := 21) cx (dA ddL_sum (i := 13) rfl) rfl ?_
      refine x_V2 (pc := 23) mL_62 hRC.1.1 (c_X7_of hRC) cx (dA ddL_sum (i := 14) rfl) (kCe (e_of ht (by omega)) fun G V col hRC => ?_)
      refine x_aload_n (pc := 26) cx (dA ddL_sum (i := 15) rfl) rfl ?_
      refine x_iload_n (pc := 27) cx (dA ddL_sum (i := 16) rfl) rfl ?_
      refine x_iload (pc := 28) cx (dA ddL_sum (i := 17) rfl) rfl ?_
      refine x_iload_n (pc := 30) cx (dA ddL_sum (i := 18) rfl) rfl ?_
      refine x_V3 (pc := 31) mL_65 hRC.1.1 (c_X7_sortOf hRC) cx (dA ddL_sum (i := 19) rfl) (kCe (e_sortOf hS c14 (w := 0) (by decide)) fun G V col hRC => ?_)
      refine x_imul (pc := 34) cx (dA ddL_sum (i := 20) rfl) ?_
      refine x_iadd (pc := 35) cx (dA ddL_sum (i := 21) rfl) ?_
      rw [nI_cmul, nI_add]
      refine x_istore (pc := 36) cx (dA ddL_sum (i := 22) rfl) (by decide) rfl ?_
      refine x_iinc (pc := 38) cx (dA ddL_sum (i := 23) rfl) rfl (iinc1 _) (by decide) rfl ?_
      refine x_goto (pc := 41) (tgt := 6) cx (dA ddL_sum (i := 24) rfl) (by decide) ?_
      exact x_enter (ih (by omega) _ _ _ hRC) ⟨.inr rfl, .inr rfl, .inr rfl, .inr rfl, .inr rfl, .inr rfl, trivial⟩
  exact x_enter (L6 0 (Nat.zero_le _) _ _ _ hRC) ⟨.inr rfl, .inr rfl, .inr rfl, .inr rfl, .inr rfl, .inr rfl, trivial⟩
theorem c_L_states {l : Launch} {Z : zP} {G : zG} {V : zV} {x : Nat} {col : Nat → Nat} {S : SX} (hRC : RC Z G V x col S) {i : Nat} {N : Nat → Nat} (hS : HS S i N) : CT l Z yL_states cL_states 3 (some .int) 9 0 0 [.ref x, .int (nI i)] G V (pS Z x (pK S (.int (nI (5 ^ N 4))))) := by
  refine CT.of (by decide +kernel) (Nat.le_of_ble_eq_true rfl) (fun X hX cx => ?_)
  subst hX
  show Wm Z X 3 G V 0 0 _ 0 [(0, some (.ref x)), (1, some (.int (nI i)))] []
  have n4 := hS.2.2.2.1.1.1
  refine x_aload_n (pc := 0) cx (dA ddL_states (i := 0) rfl) rfl ?_
  refine x_iload_n (pc := 1) cx (dA ddL_states (i := 1) rfl) rfl ?_
  refine x_iconst (pc := 2) (v := nI 4) cx (dA ddL_states (i := 2) rfl) (by decide) ?_
  refine x_V2 (pc := 3) mL_59 hRC.1.1 (c_X7_houseOf hRC) cx (dA ddL_states (i := 3) rfl) (kCe (e_houseOf hS (w := 4) (by decide)) fun G V col hRC => ?_)
  refine x_istore_n (pc := 6) cx (dA ddL_states (i := 4) rfl) (by decide) rfl ?_
  refine x_iload_n (pc := 7) cx (dA ddL_states (i := 5) rfl) rfl ?_
  refine x_iconst (pc := 8) (v := nI 1) cx (dA ddL_states (i := 6) rfl) (by decide) ?_
  refine x_icmp_ne (pc := 9) (tgt := 16) cx (dA ddL_states (i := 7) rfl) (by decide) (fun c9 => ?_) (fun c9 => ?_)
  · have c9 := ceqF (by omega) (by omega) c9
    refine x_iload_n (pc := 16) cx (dA ddL_states (i := 10) rfl) rfl ?_
    refine x_iconst (pc := 17) (v := nI 2) cx (dA ddL_states (i := 11) rfl) (by decide) ?_
    refine x_icmp_ne (pc := 18) (tgt := 26) cx (dA ddL_states (i := 12) rfl) (by decide) (fun c18 => ?_) (fun c18 => ?_)
    · have c18 := ceqF (by omega) (by omega) c18
      refine x_bipush (pc := 26) (v := nI 125) cx (dA ddL_states (i := 15) rfl) (by decide) ?_
      refine x_ireturn (pc := 28) cx (dA ddL_states (i := 16) rfl) (by first | exact Nat.le_of_ble_eq_true rfl | omega) (by first | exact Nat.le_of_ble_eq_true rfl | omega) ?_
      have e : nI (5 ^ N 4) = _ := st_n hS.2.2.2.2 n4
      refine ⟨_, _, hRC, congrArg (fun z => some (Value.int z)) (Eq.trans ?_ e.symm), rfl⟩
      first | (rw [if_pos c9]) | (rw [if_neg c9, if_pos c18]) | (rw [if_neg c9, if_neg c18])
    · have c18 := ceqT (by omega) (by omega) c18
      refine x_bipush (pc := 21) (v := nI 25) cx (dA ddL_states (i := 13) rfl) (by decide) ?_
      refine x_goto (pc := 23) (tgt := 28) cx (dA ddL_states (i := 14) rfl) (by decide) ?_
      refine x_ireturn (pc := 28) cx (dA ddL_states (i := 16) rfl) (by first | exact Nat.le_of_ble_eq_true rfl | omega) (by first | exact Nat.le_of_ble_eq_true rfl | omega) ?_
      have e : nI (5 ^ N 4) = _ := st_n hS.2.2.2.2 n4
      refine ⟨_, _, hRC, congrArg (fun z => some (Value.int z)) (Eq.trans ?_ e.symm), rfl⟩
      first | (rw [if_pos c9]) | (rw [if_neg c9, if_pos c18]) | (rw [if_neg c9, if_neg c18])
  · have c9 := ceqT (by omega) (by omega) c9
    refine x_iconst (pc := 12) (v := nI 5) cx (dA ddL_states (i := 8) rfl) (by decide) ?_
    refine x_goto (pc := 13) (tgt := 28) cx (dA ddL_states (i := 9) rfl) (by decide) ?_
    refine x_ireturn (pc := 28) cx (dA ddL_states (i := 16) rfl) (by first | exact Nat.le_of_ble_eq_true rfl | omega) (by first | exact Nat.le_of_ble_eq_true rfl | omega) ?_
    have e : nI (5 ^ N 4) = _ := st_n hS.2.2.2.2 n4
    refine ⟨_, _, hRC, congrArg (fun z => some (Value.int z)) (Eq.trans ?_ e.symm), rfl⟩
    first | (rw [if_pos c9]) | (rw [if_neg c9, if_pos c18]) | (rw [if_neg c9, if_neg c18])
theorem c_L_refusals {l : Launch} {Z : zP} {G : zG} {V : zV} {x : Nat} {col : Nat → Nat} {S : SX} (hRC : RC Z G V x col S)  : CT l Z yL_refusals cL_refusals 3 (some .int) 9 0 0 [.ref x] G V (pS Z x (pK S (.int (rfS S 5)))) := by
  refine CT.of (by decide +kernel) (Nat.le_of_ble_eq_true rfl) (fun X hX cx => ?_)
  subst hX
  show Wm Z X 3 G V 0 0 _ 0 [(0, some (.ref x))] []
  refine x_iconst (pc := 0) (v := nI 0) cx (dA ddL_refusals (i := 0) rfl) (by decide) ?_
  refine x_istore_n (pc := 1) cx (dA ddL_refusals (i := 1) rfl) (by decide) rfl ?_
  refine x_bipush (pc := 2) (v := nI 12) cx (dA ddL_refusals (i := 2) rfl) (by decide) ?_
  refine x_istore_n (pc := 4) cx (dA ddL_refusals (i := 3) rfl) (by decide) rfl ?_
  have L5 : ∀ j, j ≤ 5 → ∀ G V col, RC Z G V x col S → Wm Z X 3 G V 0 0 (rQ Z X 0 0 (pS Z x (pK S (.int (rfS S 5))))) 5 [(0, some (.ref x)), (1, some (.int (rfS S j))), (2, some (.int (nI (12 + j))))] [] := by
    refine lpU 5 (fun j hj ih => ?_)
    intro G V col hRC
    refine x_iload_n (pc := 5) cx (dA ddL_refusals (i := 4) rfl) rfl ?_
    refine x_bipush (pc := 6) (v := nI 16) cx (dA ddL_refusals (i := 5) rfl) (by decide) ?_
    refine x_icmp_gt (pc := 8) (tgt := 25) cx (dA ddL_refusals (i := 6) rfl) (by decide) (fun c8 => ?_) (fun c8 => ?_)
    · have c8 := cltT (by omega) (by omega) c8
      refine x_iload_n (pc := 25) cx (dA ddL_refusals (i := 15) rfl) rfl ?_
      refine x_ireturn (pc := 26) cx (dA ddL_refusals (i := 16) rfl) (by first | exact Nat.le_of_ble_eq_true rfl | omega) (by first | exact Nat.le_of_ble_eq_true rfl | omega) ?_
      have e : j = 5 := by omega
      subst e
      exact ⟨_, _, hRC, rfl, rfl⟩
    · have c8 := cltF (by omega) (by omega) c8
      refine x_iload_n (pc := 11) cx (dA ddL_refusals (i := 7) rfl) rfl ?_
      refine x_aload_n (pc := 12) cx (dA ddL_refusals (i := 8) rfl) rfl ?_
      refine x_iload_n (pc := 13) cx (dA ddL_refusals (i := 9) rfl) rfl ?_
      refine x_V1 (pc := 14) mL_69 hRC.1.1 (c_X7_status hRC) cx (dA ddL_refusals (i := 10) rfl) (kCe (e_statusR (by omega)) fun G V col hRC => ?_)
      refine x_iadd (pc := 17) cx (dA ddL_refusals (i := 11) rfl) ?_
      refine x_istore_n (pc := 18) cx (dA ddL_refusals (i := 12) rfl) (by decide) rfl ?_
      refine x_iinc (pc := 19) cx (dA ddL_refusals (i := 13) rfl) rfl (iinc1 _) (by decide) rfl ?_
      refine x_goto (pc := 22) (tgt := 5) cx (dA ddL_refusals (i := 14) rfl) (by decide) ?_
      exact x_enter (ih (by omega) _ _ _ hRC) ⟨.inr rfl, .inr rfl, .inr rfl, trivial⟩
  exact x_enter (L5 0 (Nat.zero_le _) _ _ _ hRC) ⟨.inr rfl, .inr rfl, .inr rfl, trivial⟩
