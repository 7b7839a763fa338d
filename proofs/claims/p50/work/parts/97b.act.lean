/-! AN ACT -/
set_option maxHeartbeats 4000000 in
theorem c_L_act {l : Launch} {Z : zP} {G : zG} {V : zV} {x : Nat} {col : Nat → Nat} {S : SX} (hRC : RC Z G V x col S) {D : Int32 → Int32} {vl : Int32 → Nat} (hDr : ∀ d, drw d = D d) (hvl : ∀ d, dvl d = vl d) (hv4 : ∀ d, vl d < 4) {i : Int32} (hT : lwT S) : CT l Z yL_act cL_act 6 none 11 4 135 [.ref x, .ref (scB Z), .int i] G V (pS Z x (pN lwT)) := by
  refine CT.of (by decide +kernel) (Nat.le_of_ble_eq_true rfl) (fun X hX cx => ?_)
  subst hX
  show Wm Z X 6 G V 0 0 _ 0 [(0, some (.ref x)), (1, some (.ref (scB Z))), (2, some (.int i))] []
  refine x_aload_n (pc := 0) cx (dA ddL_act (i := 0) rfl) rfl ?_
  refine x_iload_n (pc := 1) cx (dA ddL_act (i := 1) rfl) rfl ?_
  refine x_S2 (pc := 2) mL_24 c_L_cell cx (dA ddL_act (i := 2) rfl) (kY fun v => ?_)
  refine x_istore_n (pc := 5) cx (dA ddL_act (i := 3) rfl) (by decide) rfl ?_
  refine x_iload_n (pc := 6) cx (dA ddL_act (i := 4) rfl) rfl ?_
  refine x_iconst (pc := 7) (v := nI 4) cx (dA ddL_act (i := 5) rfl) (by decide) ?_
  refine x_ishr (pc := 8) cx (dA ddL_act (i := 6) rfl) ?_
  refine x_ldc (pc := 9) cx kcL_23 (dA ddL_act (i := 7) rfl) ?_
  refine x_iand (pc := 11) cx (dA ddL_act (i := 8) rfl) ?_
  generalize v >>> (nI 4 &&& 31) &&& nI 65535 = y
  refine x_istore (pc := 12) cx (dA ddL_act (i := 9) rfl) (by decide) rfl ?_
  refine x_iload (pc := 14) cx (dA ddL_act (i := 10) rfl) rfl ?_
  refine x_iconst (pc := 16) (v := nI 1) cx (dA ddL_act (i := 11) rfl) (by decide) ?_
  refine x_iand (pc := 17) cx (dA ddL_act (i := 12) rfl) ?_
  generalize y &&& nI 1 = h
  refine x_istore (pc := 18) cx (dA ddL_act (i := 13) rfl) (by decide) rfl ?_
  refine x_iload_n (pc := 20) cx (dA ddL_act (i := 14) rfl) rfl ?_
  refine x_bipush (pc := 21) (v := nI 15) cx (dA ddL_act (i := 15) rfl) (by decide) ?_
  refine x_iand (pc := 23) cx (dA ddL_act (i := 16) rfl) ?_
  by_cases c24_0 : (v &&& nI 15) = 0
  · refine x_tabIn (pc := 24) (v := 0) (tgt := 100) cx (dA ddL_act (i := 17) rfl) (by rw [c24_0]; decide) (by decide) (by decide) rfl (by decide) ?_
    refine x_aload_n (pc := 100) cx (dA ddL_act (i := 18) rfl) rfl ?_
    refine x_iconst (pc := 101) (v := nI 0) cx (dA ddL_act (i := 19) rfl) (by decide) ?_
    refine x_V1 (pc := 102) mL_69 hRC.1.1 (c_X7_status hRC) cx (dA ddL_act (i := 20) rfl) (kCe e_status0 fun G V col hRC => ?_)
    refine x_bipush (pc := 105) (v := nI 6) cx (dA ddL_act (i := 21) rfl) (by decide) ?_
    have h6 : S.1.1 ≤ 6 := hRC.2.2.2.2.1.2.1
    refine x_icmp_ge (pc := 107) (tgt := 459) cx (dA ddL_act (i := 22) rfl) (by decide) (fun c107 => ?_) (fun c107 => ?_)
    · have c107 := cleT (by omega) (by omega) c107
      refine x_return (pc := 459) cx (dA ddL_act (i := 247) rfl) (by first | exact Nat.le_of_ble_eq_true rfl | omega) (by first | exact Nat.le_of_ble_eq_true rfl | omega) ?_
      exact ⟨_, _, hRC, rfl, hT⟩
    · have c107 := cleF (by omega) (by omega) c107
      refine x_aload_n (pc := 110) cx (dA ddL_act (i := 23) rfl) rfl ?_
      refine x_aload_n (pc := 111) cx (dA ddL_act (i := 24) rfl) rfl ?_
      refine x_iload_n (pc := 112) cx (dA ddL_act (i := 25) rfl) rfl ?_
      refine x_iconst (pc := 113) (v := nI 1) cx (dA ddL_act (i := 26) rfl) (by decide) ?_
      refine x_iadd (pc := 114) cx (dA ddL_act (i := 27) rfl) ?_
      refine x_iconst (pc := 115) (v := nI 1) cx (dA ddL_act (i := 28) rfl) (by decide) ?_
      refine x_iload (pc := 116) cx (dA ddL_act (i := 29) rfl) rfl ?_
      refine x_iconst (pc := 118) (v := nI 1) cx (dA ddL_act (i := 30) rfl) (by decide) ?_
      refine x_iand (pc := 119) cx (dA ddL_act (i := 31) rfl) ?_
      refine x_iadd (pc := 120) cx (dA ddL_act (i := 32) rfl) ?_
      refine x_iconst (pc := 121) (v := nI 1) cx (dA ddL_act (i := 33) rfl) (by decide) ?_
      refine x_iload (pc := 122) cx (dA ddL_act (i := 34) rfl) rfl ?_
      refine x_iconst (pc := 124) (v := nI 1) cx (dA ddL_act (i := 35) rfl) (by decide) ?_
      refine x_ishr (pc := 125) cx (dA ddL_act (i := 36) rfl) ?_
      refine x_iconst (pc := 126) (v := nI 1) cx (dA ddL_act (i := 37) rfl) (by decide) ?_
      refine x_iand (pc := 127) cx (dA ddL_act (i := 38) rfl) ?_
      refine x_iadd (pc := 128) cx (dA ddL_act (i := 39) rfl) ?_
      obtain ⟨js, hjs, ejs⟩ := pk_andE (y >>> (nI 1 &&& 31)) (m := nI 1) 1 (by decide)
      rw [ejs, nI_add]
      refine x_S5 (pc := 129) mL_73 (c_L_build hRC (n := S.1.1) c107 ⟨rfl, hT.2⟩ (by omega)) cx (dA ddL_act (i := 40) rfl) (kEv fun _ G V col S hRC hT => ?_)
      refine x_pop (pc := 132) cx rfl (dA ddL_act (i := 41) rfl) ?_
      refine x_goto (pc := 133) (tgt := 459) cx (dA ddL_act (i := 42) rfl) (by decide) ?_
      refine x_return (pc := 459) cx (dA ddL_act (i := 247) rfl) (by first | exact Nat.le_of_ble_eq_true rfl | omega) (by first | exact Nat.le_of_ble_eq_true rfl | omega) ?_
      exact ⟨_, _, hRC, rfl, hT⟩
  by_cases c24_1 : (v &&& nI 15) = 1
  · refine x_tabIn (pc := 24) (v := 1) (tgt := 100) cx (dA ddL_act (i := 17) rfl) (by rw [c24_1]; decide) (by decide) (by decide) rfl (by decide) ?_
    refine x_aload_n (pc := 100) cx (dA ddL_act (i := 18) rfl) rfl ?_
    refine x_iconst (pc := 101) (v := nI 0) cx (dA ddL_act (i := 19) rfl) (by decide) ?_
    refine x_V1 (pc := 102) mL_69 hRC.1.1 (c_X7_status hRC) cx (dA ddL_act (i := 20) rfl) (kCe e_status0 fun G V col hRC => ?_)
    refine x_bipush (pc := 105) (v := nI 6) cx (dA ddL_act (i := 21) rfl) (by decide) ?_
    have h6 : S.1.1 ≤ 6 := hRC.2.2.2.2.1.2.1
    refine x_icmp_ge (pc := 107) (tgt := 459) cx (dA ddL_act (i := 22) rfl) (by decide) (fun c107 => ?_) (fun c107 => ?_)
    · have c107 := cleT (by omega) (by omega) c107
      refine x_return (pc := 459) cx (dA ddL_act (i := 247) rfl) (by first | exact Nat.le_of_ble_eq_true rfl | omega) (by first | exact Nat.le_of_ble_eq_true rfl | omega) ?_
      exact ⟨_, _, hRC, rfl, hT⟩
    · have c107 := cleF (by omega) (by omega) c107
      refine x_aload_n (pc := 110) cx (dA ddL_act (i := 23) rfl) rfl ?_
      refine x_aload_n (pc := 111) cx (dA ddL_act (i := 24) rfl) rfl ?_
      refine x_iload_n (pc := 112) cx (dA ddL_act (i := 25) rfl) rfl ?_
      refine x_iconst (pc := 113) (v := nI 1) cx (dA ddL_act (i := 26) rfl) (by decide) ?_
      refine x_iadd (pc := 114) cx (dA ddL_act (i := 27) rfl) ?_
      refine x_iconst (pc := 115) (v := nI 1) cx (dA ddL_act (i := 28) rfl) (by decide) ?_
      refine x_iload (pc := 116) cx (dA ddL_act (i := 29) rfl) rfl ?_
      refine x_iconst (pc := 118) (v := nI 1) cx (dA ddL_act (i := 30) rfl) (by decide) ?_
      refine x_iand (pc := 119) cx (dA ddL_act (i := 31) rfl) ?_
      refine x_iadd (pc := 120) cx (dA ddL_act (i := 32) rfl) ?_
      refine x_iconst (pc := 121) (v := nI 1) cx (dA ddL_act (i := 33) rfl) (by decide) ?_
      refine x_iload (pc := 122) cx (dA ddL_act (i := 34) rfl) rfl ?_
      refine x_iconst (pc := 124) (v := nI 1) cx (dA ddL_act (i := 35) rfl) (by decide) ?_
      refine x_ishr (pc := 125) cx (dA ddL_act (i := 36) rfl) ?_
      refine x_iconst (pc := 126) (v := nI 1) cx (dA ddL_act (i := 37) rfl) (by decide) ?_
      refine x_iand (pc := 127) cx (dA ddL_act (i := 38) rfl) ?_
      refine x_iadd (pc := 128) cx (dA ddL_act (i := 39) rfl) ?_
      obtain ⟨js, hjs, ejs⟩ := pk_andE (y >>> (nI 1 &&& 31)) (m := nI 1) 1 (by decide)
      rw [ejs, nI_add]
      refine x_S5 (pc := 129) mL_73 (c_L_build hRC (n := S.1.1) c107 ⟨rfl, hT.2⟩ (by omega)) cx (dA ddL_act (i := 40) rfl) (kEv fun _ G V col S hRC hT => ?_)
      refine x_pop (pc := 132) cx rfl (dA ddL_act (i := 41) rfl) ?_
      refine x_goto (pc := 133) (tgt := 459) cx (dA ddL_act (i := 42) rfl) (by decide) ?_
      refine x_return (pc := 459) cx (dA ddL_act (i := 247) rfl) (by first | exact Nat.le_of_ble_eq_true rfl | omega) (by first | exact Nat.le_of_ble_eq_true rfl | omega) ?_
      exact ⟨_, _, hRC, rfl, hT⟩
  by_cases c24_2 : (v &&& nI 15) = 2
  · refine x_tabIn (pc := 24) (v := 2) (tgt := 136) cx (dA ddL_act (i := 17) rfl) (by rw [c24_2]; decide) (by decide) (by decide) rfl (by decide) ?_
    refine x_aload_n (pc := 136) cx (dA ddL_act (i := 43) rfl) rfl ?_
    refine x_iload (pc := 137) cx (dA ddL_act (i := 44) rfl) rfl ?_
    refine x_iload (pc := 139) cx (dA ddL_act (i := 45) rfl) rfl ?_
    refine x_iconst (pc := 141) (v := nI 1) cx (dA ddL_act (i := 46) rfl) (by decide) ?_
    refine x_ishr (pc := 142) cx (dA ddL_act (i := 47) rfl) ?_
    refine x_iconst (pc := 143) (v := nI 3) cx (dA ddL_act (i := 48) rfl) (by decide) ?_
    refine x_iand (pc := 144) cx (dA ddL_act (i := 49) rfl) ?_
    refine x_iload (pc := 145) cx (dA ddL_act (i := 50) rfl) rfl ?_
    refine x_iconst (pc := 147) (v := nI 3) cx (dA ddL_act (i := 51) rfl) (by decide) ?_
    refine x_ishr (pc := 148) cx (dA ddL_act (i := 52) rfl) ?_
    refine x_bipush (pc := 149) (v := nI 63) cx (dA ddL_act (i := 53) rfl) (by decide) ?_
    refine x_iand (pc := 151) cx (dA ddL_act (i := 54) rfl) ?_
    refine x_V3 (pc := 152) mL_77 hRC.1.1 (c_X7_alter hRC) cx (dA ddL_act (i := 55) rfl) (kCt (lwT_alter hT) fun _ G V col S hRC hT => ?_)
    refine x_pop (pc := 155) cx rfl (dA ddL_act (i := 56) rfl) ?_
    refine x_goto (pc := 156) (tgt := 459) cx (dA ddL_act (i := 57) rfl) (by decide) ?_
    refine x_return (pc := 459) cx (dA ddL_act (i := 247) rfl) (by first | exact Nat.le_of_ble_eq_true rfl | omega) (by first | exact Nat.le_of_ble_eq_true rfl | omega) ?_
    exact ⟨_, _, hRC, rfl, hT⟩
  by_cases c24_3 : (v &&& nI 15) = 3
  · refine x_tabIn (pc := 24) (v := 3) (tgt := 159) cx (dA ddL_act (i := 17) rfl) (by rw [c24_3]; decide) (by decide) (by decide) rfl (by decide) ?_
    refine x_aload_n (pc := 159) cx (dA ddL_act (i := 58) rfl) rfl ?_
    refine x_iload (pc := 160) cx (dA ddL_act (i := 59) rfl) rfl ?_
    refine x_iload (pc := 162) cx (dA ddL_act (i := 60) rfl) rfl ?_
    refine x_iconst (pc := 164) (v := nI 1) cx (dA ddL_act (i := 61) rfl) (by decide) ?_
    refine x_ishr (pc := 165) cx (dA ddL_act (i := 62) rfl) ?_
    refine x_iconst (pc := 166) (v := nI 1) cx (dA ddL_act (i := 63) rfl) (by decide) ?_
    refine x_iand (pc := 167) cx (dA ddL_act (i := 64) rfl) ?_
    refine x_iload (pc := 168) cx (dA ddL_act (i := 65) rfl) rfl ?_
    refine x_iconst (pc := 170) (v := nI 2) cx (dA ddL_act (i := 66) rfl) (by decide) ?_
    refine x_ishr (pc := 171) cx (dA ddL_act (i := 67) rfl) ?_
    refine x_iconst (pc := 172) (v := nI 3) cx (dA ddL_act (i := 68) rfl) (by decide) ?_
    refine x_iand (pc := 173) cx (dA ddL_act (i := 69) rfl) ?_
    refine x_iload (pc := 174) cx (dA ddL_act (i := 70) rfl) rfl ?_
    refine x_iconst (pc := 176) (v := nI 4) cx (dA ddL_act (i := 71) rfl) (by decide) ?_
    refine x_ishr (pc := 177) cx (dA ddL_act (i := 72) rfl) ?_
    refine x_bipush (pc := 178) (v := nI 63) cx (dA ddL_act (i := 73) rfl) (by decide) ?_
    refine x_iand (pc := 180) cx (dA ddL_act (i := 74) rfl) ?_
    refine x_V4 (pc := 181) mL_80 hRC.1.1 (c_X7_change hRC) cx (dA ddL_act (i := 75) rfl) (kCt (lwT_change hT) fun _ G V col S hRC hT => ?_)
    refine x_pop (pc := 184) cx rfl (dA ddL_act (i := 76) rfl) ?_
    refine x_goto (pc := 185) (tgt := 459) cx (dA ddL_act (i := 77) rfl) (by decide) ?_
    refine x_return (pc := 459) cx (dA ddL_act (i := 247) rfl) (by first | exact Nat.le_of_ble_eq_true rfl | omega) (by first | exact Nat.le_of_ble_eq_true rfl | omega) ?_
    exact ⟨_, _, hRC, rfl, hT⟩
  by_cases c24_4 : (v &&& nI 15) = 4
  · refine x_tabIn (pc := 24) (v := 4) (tgt := 188) cx (dA ddL_act (i := 17) rfl) (by rw [c24_4]; decide) (by decide) (by decide) rfl (by decide) ?_
    refine x_aload_n (pc := 188) cx (dA ddL_act (i := 78) rfl) rfl ?_
    refine x_iload (pc := 189) cx (dA ddL_act (i := 79) rfl) rfl ?_
    refine x_bipush (pc := 191) (v := nI 7) cx (dA ddL_act (i := 80) rfl) (by decide) ?_
    refine x_iand (pc := 193) cx (dA ddL_act (i := 81) rfl) ?_
    refine x_iload (pc := 194) cx (dA ddL_act (i := 82) rfl) rfl ?_
    refine x_iconst (pc := 196) (v := nI 3) cx (dA ddL_act (i := 83) rfl) (by decide) ?_
    refine x_ishr (pc := 197) cx (dA ddL_act (i := 84) rfl) ?_
    refine x_bipush (pc := 198) (v := nI 7) cx (dA ddL_act (i := 85) rfl) (by decide) ?_
    refine x_iand (pc := 200) cx (dA ddL_act (i := 86) rfl) ?_
    refine x_bipush (pc := 201) (v := nI 6) cx (dA ddL_act (i := 87) rfl) (by decide) ?_
    refine x_irem (pc := 203) cx (by decide) (dA ddL_act (i := 88) rfl) ?_
    refine x_iload (pc := 204) cx (dA ddL_act (i := 89) rfl) rfl ?_
    refine x_bipush (pc := 206) (v := nI 6) cx (dA ddL_act (i := 90) rfl) (by decide) ?_
    refine x_ishr (pc := 208) cx (dA ddL_act (i := 91) rfl) ?_
    refine x_bipush (pc := 209) (v := nI 31) cx (dA ddL_act (i := 92) rfl) (by decide) ?_
    refine x_iand (pc := 211) cx (dA ddL_act (i := 93) rfl) ?_
    refine x_V3 (pc := 212) mL_84 hRC.1.1 (c_X7_row hRC) cx (dA ddL_act (i := 94) rfl) (kCt (lwT_row hT) fun _ G V col S hRC hT => ?_)
    refine x_pop (pc := 215) cx rfl (dA ddL_act (i := 95) rfl) ?_
    refine x_goto (pc := 216) (tgt := 459) cx (dA ddL_act (i := 96) rfl) (by decide) ?_
    refine x_return (pc := 459) cx (dA ddL_act (i := 247) rfl) (by first | exact Nat.le_of_ble_eq_true rfl | omega) (by first | exact Nat.le_of_ble_eq_true rfl | omega) ?_
    exact ⟨_, _, hRC, rfl, hT⟩
  by_cases c24_5 : (v &&& nI 15) = 5
  · refine x_tabIn (pc := 24) (v := 5) (tgt := 219) cx (dA ddL_act (i := 17) rfl) (by rw [c24_5]; decide) (by decide) (by decide) rfl (by decide) ?_
    refine x_aload_n (pc := 219) cx (dA ddL_act (i := 97) rfl) rfl ?_
    refine x_iload (pc := 220) cx (dA ddL_act (i := 98) rfl) rfl ?_
    refine x_bipush (pc := 222) (v := nI 7) cx (dA ddL_act (i := 99) rfl) (by decide) ?_
    refine x_iand (pc := 224) cx (dA ddL_act (i := 100) rfl) ?_
    refine x_iload (pc := 225) cx (dA ddL_act (i := 101) rfl) rfl ?_
    refine x_iconst (pc := 227) (v := nI 3) cx (dA ddL_act (i := 102) rfl) (by decide) ?_
    refine x_ishr (pc := 228) cx (dA ddL_act (i := 103) rfl) ?_
    refine x_bipush (pc := 229) (v := nI 31) cx (dA ddL_act (i := 104) rfl) (by decide) ?_
    refine x_iand (pc := 231) cx (dA ddL_act (i := 105) rfl) ?_
    refine x_iload (pc := 232) cx (dA ddL_act (i := 106) rfl) rfl ?_
    refine x_bipush (pc := 234) (v := nI 8) cx (dA ddL_act (i := 107) rfl) (by decide) ?_
    refine x_ishr (pc := 236) cx (dA ddL_act (i := 108) rfl) ?_
    refine x_i2l (pc := 237) cx (dA ddL_act (i := 109) rfl) ?_
    refine x_V3 (pc := 238) mL_87 hRC.1.1 (c_X7_set hRC) cx (dA ddL_act (i := 110) rfl) (kCt (lwT_set hT) fun _ G V col S hRC hT => ?_)
    refine x_pop (pc := 241) cx rfl (dA ddL_act (i := 111) rfl) ?_
    refine x_goto (pc := 242) (tgt := 459) cx (dA ddL_act (i := 112) rfl) (by decide) ?_
    refine x_return (pc := 459) cx (dA ddL_act (i := 247) rfl) (by first | exact Nat.le_of_ble_eq_true rfl | omega) (by first | exact Nat.le_of_ble_eq_true rfl | omega) ?_
    exact ⟨_, _, hRC, rfl, hT⟩
  by_cases c24_6 : (v &&& nI 15) = 6
  · refine x_tabIn (pc := 24) (v := 6) (tgt := 245) cx (dA ddL_act (i := 17) rfl) (by rw [c24_6]; decide) (by decide) (by decide) rfl (by decide) ?_
    refine x_aload_n (pc := 245) cx (dA ddL_act (i := 113) rfl) rfl ?_
    refine x_iload (pc := 246) cx (dA ddL_act (i := 114) rfl) rfl ?_
    refine x_bipush (pc := 248) (v := nI 7) cx (dA ddL_act (i := 115) rfl) (by decide) ?_
    refine x_iand (pc := 250) cx (dA ddL_act (i := 116) rfl) ?_
    refine x_iconst (pc := 251) (v := nI 1) cx (dA ddL_act (i := 117) rfl) (by decide) ?_
    refine x_iload (pc := 252) cx (dA ddL_act (i := 118) rfl) rfl ?_
    refine x_iconst (pc := 254) (v := nI 3) cx (dA ddL_act (i := 119) rfl) (by decide) ?_
    refine x_ishr (pc := 255) cx (dA ddL_act (i := 120) rfl) ?_
    refine x_iconst (pc := 256) (v := nI 1) cx (dA ddL_act (i := 121) rfl) (by decide) ?_
    refine x_iand (pc := 257) cx (dA ddL_act (i := 122) rfl) ?_
    refine x_iadd (pc := 258) cx (dA ddL_act (i := 123) rfl) ?_
    refine x_iload (pc := 259) cx (dA ddL_act (i := 124) rfl) rfl ?_
    refine x_iconst (pc := 261) (v := nI 4) cx (dA ddL_act (i := 125) rfl) (by decide) ?_
    refine x_ishr (pc := 262) cx (dA ddL_act (i := 126) rfl) ?_
    refine x_bipush (pc := 263) (v := nI 15) cx (dA ddL_act (i := 127) rfl) (by decide) ?_
    refine x_iand (pc := 265) cx (dA ddL_act (i := 128) rfl) ?_
    refine x_V3 (pc := 266) mL_91 hRC.1.1 (c_X7_rule hRC) cx (dA ddL_act (i := 129) rfl) (kCt (lwT_rule hT) fun _ G V col S hRC hT => ?_)
    refine x_pop (pc := 269) cx rfl (dA ddL_act (i := 130) rfl) ?_
    refine x_goto (pc := 270) (tgt := 459) cx (dA ddL_act (i := 131) rfl) (by decide) ?_
    refine x_return (pc := 459) cx (dA ddL_act (i := 247) rfl) (by first | exact Nat.le_of_ble_eq_true rfl | omega) (by first | exact Nat.le_of_ble_eq_true rfl | omega) ?_
    exact ⟨_, _, hRC, rfl, hT⟩
  by_cases c24_7 : (v &&& nI 15) = 7
  · refine x_tabIn (pc := 24) (v := 7) (tgt := 273) cx (dA ddL_act (i := 17) rfl) (by rw [c24_7]; decide) (by decide) (by decide) rfl (by decide) ?_
    refine x_aload_n (pc := 273) cx (dA ddL_act (i := 132) rfl) rfl ?_
    refine x_iload (pc := 274) cx (dA ddL_act (i := 133) rfl) rfl ?_
    refine x_bipush (pc := 276) (v := nI 7) cx (dA ddL_act (i := 134) rfl) (by decide) ?_
    refine x_iand (pc := 278) cx (dA ddL_act (i := 135) rfl) ?_
    refine x_iconst (pc := 279) (v := nI 3) cx (dA ddL_act (i := 136) rfl) (by decide) ?_
    refine x_iload (pc := 280) cx (dA ddL_act (i := 137) rfl) rfl ?_
    refine x_iconst (pc := 282) (v := nI 3) cx (dA ddL_act (i := 138) rfl) (by decide) ?_
    refine x_ishr (pc := 283) cx (dA ddL_act (i := 139) rfl) ?_
    refine x_iconst (pc := 284) (v := nI 1) cx (dA ddL_act (i := 140) rfl) (by decide) ?_
    refine x_iand (pc := 285) cx (dA ddL_act (i := 141) rfl) ?_
    refine x_iadd (pc := 286) cx (dA ddL_act (i := 142) rfl) ?_
    refine x_iload (pc := 287) cx (dA ddL_act (i := 143) rfl) rfl ?_
    refine x_iconst (pc := 289) (v := nI 4) cx (dA ddL_act (i := 144) rfl) (by decide) ?_
    refine x_ishr (pc := 290) cx (dA ddL_act (i := 145) rfl) ?_
    refine x_sipush (pc := 291) (v := nI 255) cx (dA ddL_act (i := 146) rfl) (by decide) ?_
    refine x_iand (pc := 294) cx (dA ddL_act (i := 147) rfl) ?_
    refine x_V3 (pc := 295) mL_91 hRC.1.1 (c_X7_rule hRC) cx (dA ddL_act (i := 148) rfl) (kCt (lwT_rule hT) fun _ G V col S hRC hT => ?_)
    refine x_pop (pc := 298) cx rfl (dA ddL_act (i := 149) rfl) ?_
    refine x_goto (pc := 299) (tgt := 459) cx (dA ddL_act (i := 150) rfl) (by decide) ?_
    refine x_return (pc := 459) cx (dA ddL_act (i := 247) rfl) (by first | exact Nat.le_of_ble_eq_true rfl | omega) (by first | exact Nat.le_of_ble_eq_true rfl | omega) ?_
    exact ⟨_, _, hRC, rfl, hT⟩
  by_cases c24_8 : (v &&& nI 15) = 8
  · refine x_tabIn (pc := 24) (v := 8) (tgt := 302) cx (dA ddL_act (i := 17) rfl) (by rw [c24_8]; decide) (by decide) (by decide) rfl (by decide) ?_
    refine x_aload_n (pc := 302) cx (dA ddL_act (i := 151) rfl) rfl ?_
    refine x_iload (pc := 303) cx (dA ddL_act (i := 152) rfl) rfl ?_
    refine x_bipush (pc := 305) (v := nI 7) cx (dA ddL_act (i := 153) rfl) (by decide) ?_
    refine x_iand (pc := 307) cx (dA ddL_act (i := 154) rfl) ?_
    refine x_iconst (pc := 308) (v := nI 5) cx (dA ddL_act (i := 155) rfl) (by decide) ?_
    refine x_iload (pc := 309) cx (dA ddL_act (i := 156) rfl) rfl ?_
    refine x_iconst (pc := 311) (v := nI 3) cx (dA ddL_act (i := 157) rfl) (by decide) ?_
    refine x_ishr (pc := 312) cx (dA ddL_act (i := 158) rfl) ?_
    refine x_bipush (pc := 313) (v := nI 7) cx (dA ddL_act (i := 159) rfl) (by decide) ?_
    refine x_iand (pc := 315) cx (dA ddL_act (i := 160) rfl) ?_
    refine x_V3 (pc := 316) mL_91 hRC.1.1 (c_X7_rule hRC) cx (dA ddL_act (i := 161) rfl) (kCt (lwT_rule hT) fun _ G V col S hRC hT => ?_)
    refine x_pop (pc := 319) cx rfl (dA ddL_act (i := 162) rfl) ?_
    refine x_goto (pc := 320) (tgt := 459) cx (dA ddL_act (i := 163) rfl) (by decide) ?_
    refine x_return (pc := 459) cx (dA ddL_act (i := 247) rfl) (by first | exact Nat.le_of_ble_eq_true rfl | omega) (by first | exact Nat.le_of_ble_eq_true rfl | omega) ?_
    exact ⟨_, _, hRC, rfl, hT⟩
  by_cases c24_9 : (v &&& nI 15) = 9
  · refine x_tabIn (pc := 24) (v := 9) (tgt := 323) cx (dA ddL_act (i := 17) rfl) (by rw [c24_9]; decide) (by decide) (by decide) rfl (by decide) ?_
    refine x_aload_n (pc := 323) cx (dA ddL_act (i := 164) rfl) rfl ?_
    refine x_iload (pc := 324) cx (dA ddL_act (i := 165) rfl) rfl ?_
    refine x_bipush (pc := 326) (v := nI 7) cx (dA ddL_act (i := 166) rfl) (by decide) ?_
    refine x_iand (pc := 328) cx (dA ddL_act (i := 167) rfl) ?_
    refine x_iload (pc := 329) cx (dA ddL_act (i := 168) rfl) rfl ?_
    refine x_iconst (pc := 331) (v := nI 3) cx (dA ddL_act (i := 169) rfl) (by decide) ?_
    refine x_ishr (pc := 332) cx (dA ddL_act (i := 170) rfl) ?_
    refine x_bipush (pc := 333) (v := nI 7) cx (dA ddL_act (i := 171) rfl) (by decide) ?_
    refine x_iand (pc := 335) cx (dA ddL_act (i := 172) rfl) ?_
    refine x_iload (pc := 336) cx (dA ddL_act (i := 173) rfl) rfl ?_
    refine x_bipush (pc := 338) (v := nI 6) cx (dA ddL_act (i := 174) rfl) (by decide) ?_
    refine x_ishr (pc := 340) cx (dA ddL_act (i := 175) rfl) ?_
    refine x_bipush (pc := 341) (v := nI 7) cx (dA ddL_act (i := 176) rfl) (by decide) ?_
    refine x_iand (pc := 343) cx (dA ddL_act (i := 177) rfl) ?_
    refine x_iload (pc := 344) cx (dA ddL_act (i := 178) rfl) rfl ?_
    refine x_bipush (pc := 346) (v := nI 9) cx (dA ddL_act (i := 179) rfl) (by decide) ?_
    refine x_ishr (pc := 348) cx (dA ddL_act (i := 180) rfl) ?_
    refine x_bipush (pc := 349) (v := nI 7) cx (dA ddL_act (i := 181) rfl) (by decide) ?_
    refine x_iand (pc := 351) cx (dA ddL_act (i := 182) rfl) ?_
    refine x_iload (pc := 352) cx (dA ddL_act (i := 183) rfl) rfl ?_
    refine x_bipush (pc := 354) (v := nI 12) cx (dA ddL_act (i := 184) rfl) (by decide) ?_
    refine x_ishr (pc := 356) cx (dA ddL_act (i := 185) rfl) ?_
    refine x_bipush (pc := 357) (v := nI 7) cx (dA ddL_act (i := 186) rfl) (by decide) ?_
    refine x_iand (pc := 359) cx (dA ddL_act (i := 187) rfl) ?_
    refine x_V5 (pc := 360) mL_94 hRC.1.1 (c_X7_copy hRC) cx (dA ddL_act (i := 188) rfl) (kCt (lwT_copy hT) fun _ G V col S hRC hT => ?_)
    refine x_pop (pc := 363) cx rfl (dA ddL_act (i := 189) rfl) ?_
    refine x_goto (pc := 364) (tgt := 459) cx (dA ddL_act (i := 190) rfl) (by decide) ?_
    refine x_return (pc := 459) cx (dA ddL_act (i := 247) rfl) (by first | exact Nat.le_of_ble_eq_true rfl | omega) (by first | exact Nat.le_of_ble_eq_true rfl | omega) ?_
    exact ⟨_, _, hRC, rfl, hT⟩
  by_cases c24_10 : (v &&& nI 15) = 10
  · refine x_tabIn (pc := 24) (v := 10) (tgt := 367) cx (dA ddL_act (i := 17) rfl) (by rw [c24_10]; decide) (by decide) (by decide) rfl (by decide) ?_
    refine x_aload_n (pc := 367) cx (dA ddL_act (i := 191) rfl) rfl ?_
    refine x_iload (pc := 368) cx (dA ddL_act (i := 192) rfl) rfl ?_
    refine x_iload (pc := 370) cx (dA ddL_act (i := 193) rfl) rfl ?_
    refine x_iconst (pc := 372) (v := nI 1) cx (dA ddL_act (i := 194) rfl) (by decide) ?_
    refine x_ishr (pc := 373) cx (dA ddL_act (i := 195) rfl) ?_
    refine x_bipush (pc := 374) (v := nI 7) cx (dA ddL_act (i := 196) rfl) (by decide) ?_
    refine x_iand (pc := 376) cx (dA ddL_act (i := 197) rfl) ?_
    refine x_V2 (pc := 377) mL_98 hRC.1.1 (c_X7_begin hRC) cx (dA ddL_act (i := 198) rfl) (kCt (lwT_begin hT) fun _ G V col S hRC hT => ?_)
    refine x_pop (pc := 380) cx rfl (dA ddL_act (i := 199) rfl) ?_
    refine x_goto (pc := 381) (tgt := 459) cx (dA ddL_act (i := 200) rfl) (by decide) ?_
    refine x_return (pc := 459) cx (dA ddL_act (i := 247) rfl) (by first | exact Nat.le_of_ble_eq_true rfl | omega) (by first | exact Nat.le_of_ble_eq_true rfl | omega) ?_
    exact ⟨_, _, hRC, rfl, hT⟩
  by_cases c24_11 : (v &&& nI 15) = 11
  · refine x_tabIn (pc := 24) (v := 11) (tgt := 384) cx (dA ddL_act (i := 17) rfl) (by rw [c24_11]; decide) (by decide) (by decide) rfl (by decide) ?_
    refine x_aload_n (pc := 384) cx (dA ddL_act (i := 201) rfl) rfl ?_
    refine x_iconst (pc := 385) (v := nI 1) cx (dA ddL_act (i := 202) rfl) (by decide) ?_
    refine x_iload (pc := 386) cx (dA ddL_act (i := 203) rfl) rfl ?_
    refine x_iconst (pc := 388) (v := nI 3) cx (dA ddL_act (i := 204) rfl) (by decide) ?_
    refine x_iand (pc := 389) cx (dA ddL_act (i := 205) rfl) ?_
    refine x_iadd (pc := 390) cx (dA ddL_act (i := 206) rfl) ?_
    refine x_V1 (pc := 391) mL_101 hRC.1.1 (c_X7_step hRC hDr hvl hv4) cx (dA ddL_act (i := 207) rfl) (kCt (lwT_step hT) fun _ G V col S hRC hT => ?_)
    refine x_pop (pc := 394) cx rfl (dA ddL_act (i := 208) rfl) ?_
    refine x_goto (pc := 395) (tgt := 459) cx (dA ddL_act (i := 209) rfl) (by decide) ?_
    refine x_return (pc := 459) cx (dA ddL_act (i := 247) rfl) (by first | exact Nat.le_of_ble_eq_true rfl | omega) (by first | exact Nat.le_of_ble_eq_true rfl | omega) ?_
    exact ⟨_, _, hRC, rfl, hT⟩
  by_cases c24_12 : (v &&& nI 15) = 12
  · refine x_tabIn (pc := 24) (v := 12) (tgt := 398) cx (dA ddL_act (i := 17) rfl) (by rw [c24_12]; decide) (by decide) (by decide) rfl (by decide) ?_
    refine x_aload_n (pc := 398) cx (dA ddL_act (i := 210) rfl) rfl ?_
    refine x_iload (pc := 399) cx (dA ddL_act (i := 211) rfl) rfl ?_
    refine x_iload (pc := 401) cx (dA ddL_act (i := 212) rfl) rfl ?_
    refine x_iconst (pc := 403) (v := nI 1) cx (dA ddL_act (i := 213) rfl) (by decide) ?_
    refine x_ishr (pc := 404) cx (dA ddL_act (i := 214) rfl) ?_
    refine x_bipush (pc := 405) (v := nI 7) cx (dA ddL_act (i := 215) rfl) (by decide) ?_
    refine x_iand (pc := 407) cx (dA ddL_act (i := 216) rfl) ?_
    refine x_iconst (pc := 408) (v := nI 1) cx (dA ddL_act (i := 217) rfl) (by decide) ?_
    refine x_iload (pc := 409) cx (dA ddL_act (i := 218) rfl) rfl ?_
    refine x_iconst (pc := 411) (v := nI 4) cx (dA ddL_act (i := 219) rfl) (by decide) ?_
    refine x_ishr (pc := 412) cx (dA ddL_act (i := 220) rfl) ?_
    refine x_iconst (pc := 413) (v := nI 3) cx (dA ddL_act (i := 221) rfl) (by decide) ?_
    refine x_iand (pc := 414) cx (dA ddL_act (i := 222) rfl) ?_
    refine x_iadd (pc := 415) cx (dA ddL_act (i := 223) rfl) ?_
    refine x_V3 (pc := 416) mL_104 hRC.1.1 (c_X7_weeks hRC hDr hvl hv4) cx (dA ddL_act (i := 224) rfl) (kCt (lwT_weeks hT) fun _ G V col S hRC hT => ?_)
    refine x_pop (pc := 419) cx rfl (dA ddL_act (i := 225) rfl) ?_
    refine x_goto (pc := 420) (tgt := 459) cx (dA ddL_act (i := 226) rfl) (by decide) ?_
    refine x_return (pc := 459) cx (dA ddL_act (i := 247) rfl) (by first | exact Nat.le_of_ble_eq_true rfl | omega) (by first | exact Nat.le_of_ble_eq_true rfl | omega) ?_
    exact ⟨_, _, hRC, rfl, hT⟩
  by_cases c24_13 : (v &&& nI 15) = 13
  · refine x_tabIn (pc := 24) (v := 13) (tgt := 423) cx (dA ddL_act (i := 17) rfl) (by rw [c24_13]; decide) (by decide) (by decide) rfl (by decide) ?_
    refine x_aload_n (pc := 423) cx (dA ddL_act (i := 227) rfl) rfl ?_
    refine x_iconst (pc := 424) (v := nI 0) cx (dA ddL_act (i := 228) rfl) (by decide) ?_
    refine x_V1 (pc := 425) mL_69 hRC.1.1 (c_X7_status hRC) cx (dA ddL_act (i := 229) rfl) (kCe e_status0 fun G V col hRC => ?_)
    refine x_iconst (pc := 428) (v := nI 3) cx (dA ddL_act (i := 230) rfl) (by decide) ?_
    have h6 := hRC.2.2.2.2.1.2.1
    refine x_icmp_ge (pc := 429) (tgt := 459) cx (dA ddL_act (i := 231) rfl) (by decide) (fun c429 => ?_) (fun c429 => ?_)
    · have c429 := cleT (by omega) (by omega) c429
      refine x_return (pc := 459) cx (dA ddL_act (i := 247) rfl) (by first | exact Nat.le_of_ble_eq_true rfl | omega) (by first | exact Nat.le_of_ble_eq_true rfl | omega) ?_
      exact ⟨_, _, hRC, rfl, hT⟩
    · have c429 := cleF (by omega) (by omega) c429
      refine x_aload_n (pc := 432) cx (dA ddL_act (i := 232) rfl) rfl ?_
      refine x_iload (pc := 433) cx (dA ddL_act (i := 233) rfl) rfl ?_
      refine x_iconst (pc := 435) (v := nI 1) cx (dA ddL_act (i := 234) rfl) (by decide) ?_
      refine x_iload (pc := 436) cx (dA ddL_act (i := 235) rfl) rfl ?_
      refine x_isub (pc := 438) cx (dA ddL_act (i := 236) rfl) ?_
      refine x_V2 (pc := 439) mL_107 hRC.1.1 (c_X7_join hRC) cx (dA ddL_act (i := 237) rfl) (kCt (lwT_join hT) fun _ G V col S hRC hT => ?_)
      refine x_pop (pc := 442) cx rfl (dA ddL_act (i := 238) rfl) ?_
      refine x_goto (pc := 443) (tgt := 459) cx (dA ddL_act (i := 239) rfl) (by decide) ?_
      refine x_return (pc := 459) cx (dA ddL_act (i := 247) rfl) (by first | exact Nat.le_of_ble_eq_true rfl | omega) (by first | exact Nat.le_of_ble_eq_true rfl | omega) ?_
      exact ⟨_, _, hRC, rfl, hT⟩
  by_cases c24_14 : (v &&& nI 15) = 14
  · refine x_tabIn (pc := 24) (v := 14) (tgt := 446) cx (dA ddL_act (i := 17) rfl) (by rw [c24_14]; decide) (by decide) (by decide) rfl (by decide) ?_
    refine x_aload_n (pc := 446) cx (dA ddL_act (i := 240) rfl) rfl ?_
    refine x_V0 (pc := 447) mL_110 hRC.1.1 (c_X7_image hRC) cx (dA ddL_act (i := 241) rfl) (kCt (lwT_image hT) fun _ G V col S hRC hT => ?_)
    refine x_pop (pc := 450) cx rfl (dA ddL_act (i := 242) rfl) ?_
    refine x_goto (pc := 451) (tgt := 459) cx (dA ddL_act (i := 243) rfl) (by decide) ?_
    refine x_return (pc := 459) cx (dA ddL_act (i := 247) rfl) (by first | exact Nat.le_of_ble_eq_true rfl | omega) (by first | exact Nat.le_of_ble_eq_true rfl | omega) ?_
    exact ⟨_, _, hRC, rfl, hT⟩
  refine x_tabOut (pc := 24) (tgt := 454) cx (dA ddL_act (i := 17) rfl) (by have t0 := lv_neT (a := 0) c24_0 (by decide); have t1 := lv_neT (a := 1) c24_1 (by decide); have t2 := lv_neT (a := 2) c24_2 (by decide); have t3 := lv_neT (a := 3) c24_3 (by decide); have t4 := lv_neT (a := 4) c24_4 (by decide); have t5 := lv_neT (a := 5) c24_5 (by decide); have t6 := lv_neT (a := 6) c24_6 (by decide); have t7 := lv_neT (a := 7) c24_7 (by decide); have t8 := lv_neT (a := 8) c24_8 (by decide); have t9 := lv_neT (a := 9) c24_9 (by decide); have t10 := lv_neT (a := 10) c24_10 (by decide); have t11 := lv_neT (a := 11) c24_11 (by decide); have t12 := lv_neT (a := 12) c24_12 (by decide); have t13 := lv_neT (a := 13) c24_13 (by decide); have t14 := lv_neT (a := 14) c24_14 (by decide); omega) (by decide) ?_
  refine x_aload_n (pc := 454) cx (dA ddL_act (i := 244) rfl) rfl ?_
  refine x_V0 (pc := 455) mL_113 hRC.1.1 (c_X7_back hRC) cx (dA ddL_act (i := 245) rfl) (kCt (lwT_back hT) fun _ G V col S hRC hT => ?_)
  refine x_pop (pc := 458) cx rfl (dA ddL_act (i := 246) rfl) ?_
  refine x_return (pc := 459) cx (dA ddL_act (i := 247) rfl) (by first | exact Nat.le_of_ble_eq_true rfl | omega) (by first | exact Nat.le_of_ble_eq_true rfl | omega) ?_
  exact ⟨_, _, hRC, rfl, hT⟩
