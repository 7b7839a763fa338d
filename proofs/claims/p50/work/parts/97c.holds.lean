/-! WHAT HOLDS OF A HOUSE -/
theorem prC62 {N : Nat → Nat} {l : Nat} (hN : HOK N) (h1 : 1 ≤ l) (hl : l ≤ N 0) : prC N l (N 0 + 1 - l) 0 < 2 ^ 62 := by
  have n0 := hN.2.1
  have b := prC_bd hN h1 (N 0 + 1 - l) 0 (Nat.pow_pos (by decide))
  rw [show l + (N 0 + 1 - l) - 1 = N 0 by omega] at b
  exact bd62 b (scl_lt hN.1.1 (by omega)) (by omega)
theorem scl63 {N : Nat → Nat} (hN : HOK N) : N 0 * sclP N (N 0) < 2 ^ 63 := by
  have n0 := hN.2.1
  have b := Nat.mul_le_mul n0.2 (scl_lt hN.1.1 n0.2)
  omega
set_option maxHeartbeats 4000000 in
theorem c_L_holds {l : Launch} {Z : zP} {G : zG} {V : zV} {x : Nat} {col : Nat → Nat} {S : SX} (hRC : RC Z G V x col S) {i p : Nat} {N : Nat → Nat} (hS : HS S i N) (hI : lwI S) (hp : p < 128) : CT l Z yL_holds cL_holds 12 (some .boolean) 10 0 0 [.ref x, .int (nI i), .int (nI p)] G V (pS Z x (fun r S' => r = some (.int (nI 1)) ∧ lwI S' ∧ S'.1.1 = S.1.1)) := by
  refine CT.of (by decide +kernel) (Nat.le_of_ble_eq_true rfl) (fun X hX cx => ?_)
  subst hX
  show Wm Z X 12 G V 0 0 _ 0 [(0, some (.ref x)), (1, some (.int (nI i))), (2, some (.int (nI p)))] []
  have hN : HOK N := hS.2.2.2.1
  have n4 := hN.1.1
  have n0 := hN.2.1
  have n2 := hN.2.2.1
  have n125 := n125N hN
  have p5 : 0 < 5 ^ N 4 := Nat.pow_pos (by decide)
  refine x_aload_n (pc := 0) cx (dA ddL_holds (i := 0) rfl) rfl ?_
  refine x_iload_n (pc := 1) cx (dA ddL_holds (i := 1) rfl) rfl ?_
  refine x_S2 (pc := 2) mL_116 (c_L_states hRC hS) cx (dA ddL_holds (i := 2) rfl) (kK fun G V col hRC => ?_)
  refine x_istore_n (pc := 5) cx (dA ddL_holds (i := 3) rfl) (by decide) rfl ?_
  refine x_aload_n (pc := 6) cx (dA ddL_holds (i := 4) rfl) rfl ?_
  refine x_iload_n (pc := 7) cx (dA ddL_holds (i := 5) rfl) rfl ?_
  refine x_iconst (pc := 8) (v := nI 0) cx (dA ddL_holds (i := 6) rfl) (by decide) ?_
  refine x_V2 (pc := 9) mL_59 hRC.1.1 (c_X7_houseOf hRC) cx (dA ddL_holds (i := 7) rfl) (kCe (e_houseOf hS (w := 0) (by decide)) fun G V col hRC => ?_)
  refine x_istore (pc := 12) cx (dA ddL_holds (i := 8) rfl) (by decide) rfl ?_
  refine x_iload_n (pc := 14) cx (dA ddL_holds (i := 9) rfl) rfl ?_
  refine x_iload_n (pc := 15) cx (dA ddL_holds (i := 10) rfl) rfl ?_
  refine x_irem (pc := 16) cx (nI_ne0 (by omega) (by omega)) (dA ddL_holds (i := 11) rfl) ?_
  rw [rem32 (by omega) p5 (by omega)]
  obtain ⟨t, ht, et⟩ : ∃ t, t < 5 ^ N 4 ∧ p % 5 ^ N 4 = t := ⟨_, Nat.mod_lt _ p5, rfl⟩
  rw [et]
  refine x_istore (pc := 17) cx (dA ddL_holds (i := 12) rfl) (by decide) rfl ?_
  refine x_iconst (pc := 19) (v := nI 1) cx (dA ddL_holds (i := 13) rfl) (by decide) ?_
  have hFL : LD N t (fillP N t) := fill_LD hN ht
  have lf := hFL.1
  refine x_istore (pc := 20) cx (dA ddL_holds (i := 14) rfl) (by decide) rfl ?_
  have L22 : ∀ j, j ≤ N 0 → ∀ G V col, RC Z G V x col S → Wm Z X 12 G V 0 0 (rQ Z X 0 0 (pS Z x (fun r S' => r = some (.int (nI 1)) ∧ lwI S' ∧ S'.1.1 = S.1.1))) 22 [(0, some (.ref x)), (1, some (.int (nI i))), (4, some (.int (nI (N 0)))), (5, some (.int (nI t))), (6, some (.int (nI (j + 1))))] [] := by
    refine lpU (N 0) (fun j hj ihj => ?_)
    intro G V col hRC
    refine x_iload (pc := 22) cx (dA ddL_holds (i := 15) rfl) rfl ?_
    refine x_iload (pc := 24) cx (dA ddL_holds (i := 16) rfl) rfl ?_
    refine x_icmp_gt (pc := 26) (tgt := 309) cx (dA ddL_holds (i := 17) rfl) (by decide) (fun c26 => ?_) (fun c26 => ?_)
    · have c26 := cltT (by omega) (by omega) c26
      refine x_aload_n (pc := 309) cx (dA ddL_holds (i := 165) rfl) rfl ?_
      refine x_iload_n (pc := 310) cx (dA ddL_holds (i := 166) rfl) rfl ?_
      obtain ⟨bv, S1, eb, hS1, hI1, h11, hB⟩ := e_boyX hS hI
      refine x_V1 (pc := 311) mL_160 hRC.1.1 (c_X7_boy hRC) cx (dA ddL_holds (i := 167) rfl) (kCe eb fun G V col hRC => ?_)
      refine x_istore (pc := 314) cx (dA ddL_holds (i := 168) rfl) (by decide) rfl ?_
      refine x_iconst (pc := 316) (v := nI 0) cx (dA ddL_holds (i := 169) rfl) (by decide) ?_
      refine x_istore (pc := 317) cx (dA ddL_holds (i := 170) rfl) (by decide) rfl ?_
      have L319 : ∀ s, s ≤ 8 → ∀ G V col, RC Z G V x col S1 → Wm Z X 12 G V 0 0 (rQ Z X 0 0 (pS Z x (fun r S' => r = some (.int (nI 1)) ∧ lwI S' ∧ S'.1.1 = S.1.1))) 319 [(0, some (.ref x)), (1, some (.int (nI i))), (4, some (.int (nI (N 0)))), (5, some (.int (nI t))), (6, some (.int bv)), (7, some (.int (nI s)))] [] := by
        refine lpU 8 (fun s hs ihs => ?_)
        intro G V col hRC
        refine x_iload (pc := 319) cx (dA ddL_holds (i := 171) rfl) rfl ?_
        refine x_bipush (pc := 321) (v := nI 8) cx (dA ddL_holds (i := 172) rfl) (by decide) ?_
        refine x_icmp_ge (pc := 323) (tgt := 396) cx (dA ddL_holds (i := 173) rfl) (by decide) (fun c323 => ?_) (fun c323 => ?_)
        · have c323 := cleT (by omega) (by omega) c323
          refine x_aload_n (pc := 396) cx (dA ddL_holds (i := 212) rfl) rfl ?_
          refine x_iload_n (pc := 397) cx (dA ddL_holds (i := 213) rfl) rfl ?_
          refine x_aload_n (pc := 398) cx (dA ddL_holds (i := 214) rfl) rfl ?_
          refine x_iload_n (pc := 399) cx (dA ddL_holds (i := 215) rfl) rfl ?_
          refine x_iload (pc := 400) cx (dA ddL_holds (i := 216) rfl) rfl ?_
          refine x_V2 (pc := 402) mL_141 hRC.1.1 (c_X7_fill hRC) cx (dA ddL_holds (i := 217) rfl) (kCe (e_fill hS1 ht) fun G V col hRC => ?_)
          refine x_iconst (pc := 405) (v := nI 0) cx (dA ddL_holds (i := 218) rfl) (by decide) ?_
          refine x_S4 (pc := 406) mL_127 (c_L_sum hRC hS1 (t := fillP N t) (by omega)) cx (dA ddL_holds (i := 219) rfl) (kK fun G V col hRC => ?_)
          refine x_aload_n (pc := 409) cx (dA ddL_holds (i := 220) rfl) rfl ?_
          refine x_iload_n (pc := 410) cx (dA ddL_holds (i := 221) rfl) rfl ?_
          refine x_iconst (pc := 411) (v := nI 2) cx (dA ddL_holds (i := 222) rfl) (by decide) ?_
          refine x_V2 (pc := 412) mL_59 hRC.1.1 (c_X7_houseOf hRC) cx (dA ddL_holds (i := 223) rfl) (kCe (e_houseOf hS1 (w := 2) (by decide)) fun G V col hRC => ?_)
          refine x_icmp_gt (pc := 415) (tgt := 422) cx (dA ddL_holds (i := 224) rfl) (by decide) (fun c415 => absurd c415 (qI_nlt hFL.2.2 (by omega))) (fun c415 => ?_)
          refine x_iconst (pc := 418) (v := nI 1) cx (dA ddL_holds (i := 225) rfl) (by decide) ?_
          refine x_goto (pc := 419) (tgt := 423) cx (dA ddL_holds (i := 226) rfl) (by decide) ?_
          refine x_zreturn (pc := 423) cx (dA ddL_holds (i := 228) rfl) (by first | exact Nat.le_of_ble_eq_true rfl | omega) (by first | exact Nat.le_of_ble_eq_true rfl | omega) rfl ?_
          exact ⟨_, _, hRC, rfl, hI1, h11⟩
        · have c323 := cleF (by omega) (by omega) c323
          refine x_aload_n (pc := 326) cx (dA ddL_holds (i := 174) rfl) rfl ?_
          refine x_iload (pc := 327) cx (dA ddL_holds (i := 175) rfl) rfl ?_
          rcases sh3 (S1.2.2.2.1 s) with e | ⟨q, e⟩ | ⟨q, e⟩
          · refine x_V1 (pc := 329) mL_144 hRC.1.1 (c_X7_holds hRC) cx (dA ddL_holds (i := 176) rfl) (kCe (e_holds0 c323 e) fun G V col hRC => ?_)
            refine x_bipush (pc := 332) (v := nI 10) cx (dA ddL_holds (i := 177) rfl) (by decide) ?_
            refine x_icmp_lt (pc := 334) (tgt := 390) cx (dA ddL_holds (i := 178) rfl) (by decide) (fun c334 => ?_) (fun c334 => absurd (by decide) c334)
            refine x_iinc (pc := 390) cx (dA ddL_holds (i := 210) rfl) rfl (iinc1 _) (by decide) rfl ?_
            refine x_goto (pc := 393) (tgt := 319) cx (dA ddL_holds (i := 211) rfl) (by decide) ?_
            exact x_enter (ihs (by omega) _ _ _ hRC) ⟨.inr rfl, .inr rfl, .inr rfl, .inr rfl, .inr rfl, .inr rfl, trivial⟩
          · have q5 : q.1 < 5 := by obtain ⟨-, a, -, -, -, q5, -⟩ := hRC.shl c323 e; exact q5
            refine x_V1 (pc := 329) mL_144 hRC.1.1 (c_X7_holds hRC) cx (dA ddL_holds (i := 176) rfl) (kCe (e_holdsL c323 e) fun G V col hRC => ?_)
            refine x_bipush (pc := 332) (v := nI 10) cx (dA ddL_holds (i := 177) rfl) (by decide) ?_
            refine x_icmp_lt (pc := 334) (tgt := 390) cx (dA ddL_holds (i := 178) rfl) (by decide) (fun c334 => ?_) (fun c334 => absurd (nI_lt (by omega) (by omega)) c334)
            refine x_iinc (pc := 390) cx (dA ddL_holds (i := 210) rfl) rfl (iinc1 _) (by decide) rfl ?_
            refine x_goto (pc := 393) (tgt := 319) cx (dA ddL_holds (i := 211) rfl) (by decide) ?_
            exact x_enter (ihs (by omega) _ _ _ hRC) ⟨.inr rfl, .inr rfl, .inr rfl, .inr rfl, .inr rfl, .inr rfl, trivial⟩
          · have q5 : 1 ≤ q.1 ∧ q.1 ≤ 5 := by obtain ⟨-, a, -, hR, -⟩ := hRC.shr c323 e; exact hR.2.2.1
            refine x_V1 (pc := 329) mL_144 hRC.1.1 (c_X7_holds hRC) cx (dA ddL_holds (i := 176) rfl) (kCe (e_holdsR c323 e) fun G V col hRC => ?_)
            refine x_bipush (pc := 332) (v := nI 10) cx (dA ddL_holds (i := 177) rfl) (by decide) ?_
            refine x_icmp_lt (pc := 334) (tgt := 390) cx (dA ddL_holds (i := 178) rfl) (by decide) (fun c334 => absurd c334 (qI_nlt (by omega) (by omega))) (fun c334 => ?_)
            refine x_iload (pc := 337) cx (dA ddL_holds (i := 179) rfl) rfl ?_
            obtain ⟨tb, q2, tb8, ep, ev, hle⟩ := hB s q c323 e
            subst ev
            refine x_if_lt (pc := 339) (tgt := 388) cx (dA ddL_holds (i := 180) rfl) (by decide) (fun c339 => absurd c339 (nI_pos (by omega))) (fun c339 => ?_)
            refine x_aload_n (pc := 342) cx (dA ddL_holds (i := 181) rfl) rfl ?_
            refine x_iload_n (pc := 343) cx (dA ddL_holds (i := 182) rfl) rfl ?_
            refine x_iload (pc := 344) cx (dA ddL_holds (i := 183) rfl) rfl ?_
            refine x_iconst (pc := 346) (v := nI 0) cx (dA ddL_holds (i := 184) rfl) (by decide) ?_
            refine x_iload (pc := 347) cx (dA ddL_holds (i := 185) rfl) rfl ?_
            refine x_V4 (pc := 349) mL_154 hRC.1.1 (c_X7_mean hRC) cx (dA ddL_holds (i := 186) rfl) (kCeJ (e_mean hS1 (l := N 0) (Nat.le_refl _) (t := 0) p5 c323 e) fun G V col hRC => ?_)
            refine x_aload_n (pc := 352) cx (dA ddL_holds (i := 187) rfl) rfl ?_
            refine x_iload_n (pc := 353) cx (dA ddL_holds (i := 188) rfl) rfl ?_
            refine x_iload (pc := 354) cx (dA ddL_holds (i := 189) rfl) rfl ?_
            refine x_iconst (pc := 356) (v := nI 0) cx (dA ddL_holds (i := 190) rfl) (by decide) ?_
            refine x_iload (pc := 357) cx (dA ddL_holds (i := 191) rfl) rfl ?_
            refine x_V4 (pc := 359) mL_154 hRC.1.1 (c_X7_mean hRC) cx (dA ddL_holds (i := 192) rfl) (kCeJ (e_mean hS1 (l := N 0) (Nat.le_refl _) (t := 0) p5 tb8 ep) fun G V col hRC => ?_)
            refine x_lc_lt (pc := 362) (tgt := 388) cx (dA ddL_holds (i := 193) rfl) (dA ddL_holds (i := 194) rfl) (by decide) (fun c362 => absurd c362 (qL_nlt hle (by have := rCs62 (q := q) hN (Nat.le_refl _) p5; omega))) (fun c362 => ?_)
            refine x_aload_n (pc := 366) cx (dA ddL_holds (i := 195) rfl) rfl ?_
            refine x_iload_n (pc := 367) cx (dA ddL_holds (i := 196) rfl) rfl ?_
            refine x_iload (pc := 368) cx (dA ddL_holds (i := 197) rfl) rfl ?_
            refine x_V2 (pc := 370) mL_163 hRC.1.1 (c_X7_boxes hRC) cx (dA ddL_holds (i := 198) rfl) (kCeJ (e_boxes hS1 c323 e) fun G V col hRC => ?_)
            refine x_iload (pc := 373) cx (dA ddL_holds (i := 199) rfl) rfl ?_
            refine x_i2l (pc := 375) cx (dA ddL_holds (i := 200) rfl) ?_
            refine x_aload_n (pc := 376) cx (dA ddL_holds (i := 201) rfl) rfl ?_
            refine x_iload_n (pc := 377) cx (dA ddL_holds (i := 202) rfl) rfl ?_
            refine x_iload (pc := 378) cx (dA ddL_holds (i := 203) rfl) rfl ?_
            refine x_V2 (pc := 380) mL_166 hRC.1.1 (c_X7_scale hRC) cx (dA ddL_holds (i := 204) rfl) (kCeJ (e_scale hS1 (l := N 0) (Nat.le_refl _)) fun G V col hRC => ?_)
            refine x_lmul (pc := 383) cx (dA ddL_holds (i := 205) rfl) ?_
            rw [qI_64 (by omega), qL_mul]
            refine x_lc_le (pc := 384) (tgt := 390) cx (dA ddL_holds (i := 206) rfl) (dA ddL_holds (i := 207) rfl) (by decide) (fun c384 => ?_) (fun c384 => absurd (qL_le (boP_le hN (fun d h1 h6 s hs => ruL_le hN h1 h6 hs) _ (Nat.le_refl _)) (scl63 hN)) c384)
            refine x_iinc (pc := 390) cx (dA ddL_holds (i := 210) rfl) rfl (iinc1 _) (by decide) rfl ?_
            refine x_goto (pc := 393) (tgt := 319) cx (dA ddL_holds (i := 211) rfl) (by decide) ?_
            exact x_enter (ihs (by omega) _ _ _ hRC) ⟨.inr rfl, .inr rfl, .inr rfl, .inr rfl, .inr rfl, .inr rfl, trivial⟩
      exact x_enter (L319 0 (Nat.zero_le _) _ _ _ hRC) ⟨.inr rfl, .inr rfl, .inr rfl, .inr rfl, .inr rfl, .inr rfl, trivial⟩
    · have c26 := cltF (by omega) (by omega) c26
      have hl : j + 1 ≤ N 0 := by omega
      have h1 : 1 ≤ j + 1 := by omega
      have hLD : LD N t (ldP N (j + 1) t) := pick_LD (by omega)
      have lt := hLD.1
      refine x_aload_n (pc := 29) cx (dA ddL_holds (i := 18) rfl) rfl ?_
      refine x_iload_n (pc := 30) cx (dA ddL_holds (i := 19) rfl) rfl ?_
      refine x_iload (pc := 31) cx (dA ddL_holds (i := 20) rfl) rfl ?_
      refine x_iload (pc := 33) cx (dA ddL_holds (i := 21) rfl) rfl ?_
      refine x_V3 (pc := 35) mL_120 hRC.1.1 (c_X7_best hRC) cx (dA ddL_holds (i := 22) rfl) (kCe (e_best hS h1 hl ht) fun G V col hRC => ?_)
      refine x_istore (pc := 38) cx (dA ddL_holds (i := 23) rfl) (by decide) rfl ?_
      refine x_aload_n (pc := 40) cx (dA ddL_holds (i := 24) rfl) rfl ?_
      refine x_iload_n (pc := 41) cx (dA ddL_holds (i := 25) rfl) rfl ?_
      refine x_iload (pc := 42) cx (dA ddL_holds (i := 26) rfl) rfl ?_
      refine x_iload (pc := 44) cx (dA ddL_holds (i := 27) rfl) rfl ?_
      refine x_V3 (pc := 46) mL_123 hRC.1.1 (c_X7_cost hRC) cx (dA ddL_holds (i := 28) rfl) (kCeJ (e_cost hS hl ht) fun G V col hRC => ?_)
      refine x_lstore (pc := 49) cx (dA ddL_holds (i := 29) rfl) (by decide) rfl ?_
      refine x_iload (pc := 51) cx (dA ddL_holds (i := 30) rfl) rfl ?_
      refine x_if_lt (pc := 53) (tgt := 120) cx (dA ddL_holds (i := 31) rfl) (by decide) (fun c53 => absurd c53 (nI_pos (by omega))) (fun c53 => ?_)
      refine x_aload_n (pc := 56) cx (dA ddL_holds (i := 32) rfl) rfl ?_
      refine x_iload_n (pc := 57) cx (dA ddL_holds (i := 33) rfl) rfl ?_
      refine x_iload (pc := 58) cx (dA ddL_holds (i := 34) rfl) rfl ?_
      refine x_iconst (pc := 60) (v := nI 0) cx (dA ddL_holds (i := 35) rfl) (by decide) ?_
      refine x_S4 (pc := 61) mL_127 (c_L_sum hRC hS (t := ldP N (j + 1) t) (by omega)) cx (dA ddL_holds (i := 36) rfl) (kK fun G V col hRC => ?_)
      refine x_aload_n (pc := 64) cx (dA ddL_holds (i := 37) rfl) rfl ?_
      refine x_iload_n (pc := 65) cx (dA ddL_holds (i := 38) rfl) rfl ?_
      refine x_iconst (pc := 66) (v := nI 2) cx (dA ddL_holds (i := 39) rfl) (by decide) ?_
      refine x_V2 (pc := 67) mL_59 hRC.1.1 (c_X7_houseOf hRC) cx (dA ddL_holds (i := 40) rfl) (kCe (e_houseOf hS (w := 2) (by decide)) fun G V col hRC => ?_)
      refine x_icmp_gt (pc := 70) (tgt := 120) cx (dA ddL_holds (i := 41) rfl) (by decide) (fun c70 => absurd c70 (qI_nlt hLD.2.2 (by omega))) (fun c70 => ?_)
      refine x_lload (pc := 73) cx (dA ddL_holds (i := 42) rfl) rfl ?_
      refine x_lconst (pc := 75) (v := lN 0) cx (dA ddL_holds (i := 43) rfl) rfl ?_
      refine x_lc_lt (pc := 76) (tgt := 120) cx (dA ddL_holds (i := 44) rfl) (dA ddL_holds (i := 45) rfl) (by decide) (fun c76 => absurd c76 (qL_nlt (Nat.zero_le _) (by have := cst62 hN hl ht; omega))) (fun c76 => ?_)
      refine x_aload_n (pc := 80) cx (dA ddL_holds (i := 46) rfl) rfl ?_
      refine x_iload_n (pc := 81) cx (dA ddL_holds (i := 47) rfl) rfl ?_
      refine x_iload (pc := 82) cx (dA ddL_holds (i := 48) rfl) rfl ?_
      refine x_iload (pc := 84) cx (dA ddL_holds (i := 49) rfl) rfl ?_
      refine x_V3 (pc := 86) mL_131 hRC.1.1 (c_X7_waits hRC) cx (dA ddL_holds (i := 50) rfl) (kCeJ (e_waits hS h1 hl ht) fun G V col hRC => ?_)
      refine x_lconst (pc := 89) (v := lN 0) cx (dA ddL_holds (i := 51) rfl) rfl ?_
      refine x_lc_lt (pc := 90) (tgt := 120) cx (dA ddL_holds (i := 52) rfl) (dA ddL_holds (i := 53) rfl) (by decide) (fun c90 => absurd c90 (qL_nlt (Nat.zero_le _) (by have := mix62 hN h1 hl ht (u := 0); omega))) (fun c90 => ?_)
      refine x_aload_n (pc := 94) cx (dA ddL_holds (i := 54) rfl) rfl ?_
      refine x_iload_n (pc := 95) cx (dA ddL_holds (i := 55) rfl) rfl ?_
      refine x_iload (pc := 96) cx (dA ddL_holds (i := 56) rfl) rfl ?_
      refine x_iload (pc := 98) cx (dA ddL_holds (i := 57) rfl) rfl ?_
      refine x_V3 (pc := 100) mL_134 hRC.1.1 (c_X7_once hRC) cx (dA ddL_holds (i := 58) rfl) (kCeJ (e_once hS h1 hl ht) fun G V col hRC => ?_)
      refine x_lconst (pc := 103) (v := lN 0) cx (dA ddL_holds (i := 59) rfl) rfl ?_
      refine x_lc_lt (pc := 104) (tgt := 120) cx (dA ddL_holds (i := 60) rfl) (dA ddL_holds (i := 61) rfl) (by decide) (fun c104 => absurd c104 (qL_nlt (Nat.zero_le _) (by have := mix62 hN h1 hl ht (u := fillP N t); omega))) (fun c104 => ?_)
      refine x_aload_n (pc := 108) cx (dA ddL_holds (i := 62) rfl) rfl ?_
      refine x_iload_n (pc := 109) cx (dA ddL_holds (i := 63) rfl) rfl ?_
      refine x_iload (pc := 110) cx (dA ddL_holds (i := 64) rfl) rfl ?_
      refine x_V2 (pc := 112) mL_137 hRC.1.1 (c_X7_promise hRC) cx (dA ddL_holds (i := 65) rfl) (kCeJ (e_promise hS h1 hl) fun G V col hRC => ?_)
      refine x_lconst (pc := 115) (v := lN 0) cx (dA ddL_holds (i := 66) rfl) rfl ?_
      refine x_lc_ge (pc := 116) (tgt := 122) cx (dA ddL_holds (i := 67) rfl) (dA ddL_holds (i := 68) rfl) (by decide) (fun c116 => ?_) (fun c116 => absurd (qL_le (Nat.zero_le _) (by have := prC62 hN h1 hl; omega)) c116)
      refine x_iconst (pc := 122) (v := nI 0) cx (dA ddL_holds (i := 71) rfl) (by decide) ?_
      refine x_istore (pc := 123) cx (dA ddL_holds (i := 72) rfl) (by decide) rfl ?_
      have L125 : ∀ k, k ≤ N 4 → ∀ G V col, RC Z G V x col S → Wm Z X 12 G V 0 0 (rQ Z X 0 0 (pS Z x (fun r S' => r = some (.int (nI 1)) ∧ lwI S' ∧ S'.1.1 = S.1.1))) 125 [(0, some (.ref x)), (1, some (.int (nI i))), (4, some (.int (nI (N 0)))), (5, some (.int (nI t))), (6, some (.int (nI (j + 1)))), (7, some (.int (nI (ldP N (j + 1) t)))), (8, some (.long (lN (cst N (j + 1) t)))), (10, some (.int (nI k)))] [] := by
        refine lpU (N 4) (fun k hk ihk => ?_)
        intro G V col hRC
        refine x_iload (pc := 125) cx (dA ddL_holds (i := 73) rfl) rfl ?_
        refine x_aload_n (pc := 127) cx (dA ddL_holds (i := 74) rfl) rfl ?_
        refine x_iload_n (pc := 128) cx (dA ddL_holds (i := 75) rfl) rfl ?_
        refine x_iconst (pc := 129) (v := nI 4) cx (dA ddL_holds (i := 76) rfl) (by decide) ?_
        refine x_V2 (pc := 130) mL_59 hRC.1.1 (c_X7_houseOf hRC) cx (dA ddL_holds (i := 77) rfl) (kCe (e_houseOf hS (w := 4) (by decide)) fun G V col hRC => ?_)
        refine x_icmp_ge (pc := 133) (tgt := 187) cx (dA ddL_holds (i := 78) rfl) (by decide) (fun c133 => ?_) (fun c133 => ?_)
        · have c133 := cleT (by omega) (by omega) c133
          refine x_iconst (pc := 187) (v := nI 0) cx (dA ddL_holds (i := 104) rfl) (by decide) ?_
          refine x_istore (pc := 188) cx (dA ddL_holds (i := 105) rfl) (by decide) rfl ?_
          have L190 : ∀ s, s ≤ 8 → ∀ G V col, RC Z G V x col S → Wm Z X 12 G V 0 0 (rQ Z X 0 0 (pS Z x (fun r S' => r = some (.int (nI 1)) ∧ lwI S' ∧ S'.1.1 = S.1.1))) 190 [(0, some (.ref x)), (1, some (.int (nI i))), (4, some (.int (nI (N 0)))), (5, some (.int (nI t))), (6, some (.int (nI (j + 1)))), (8, some (.long (lN (cst N (j + 1) t)))), (10, some (.int (nI s)))] [] := by
            refine lpU 8 (fun s hs ihs => ?_)
            intro G V col hRC
            refine x_iload (pc := 190) cx (dA ddL_holds (i := 106) rfl) rfl ?_
            refine x_bipush (pc := 192) (v := nI 8) cx (dA ddL_holds (i := 107) rfl) (by decide) ?_
            refine x_icmp_ge (pc := 194) (tgt := 303) cx (dA ddL_holds (i := 108) rfl) (by decide) (fun c194 => ?_) (fun c194 => ?_)
            · have c194 := cleT (by omega) (by omega) c194
              refine x_iinc (pc := 303) cx (dA ddL_holds (i := 163) rfl) rfl (iinc1 _) (by decide) rfl ?_
              refine x_goto (pc := 306) (tgt := 22) cx (dA ddL_holds (i := 164) rfl) (by decide) ?_
              exact x_enter (ihj (by omega) _ _ _ hRC) ⟨.inr rfl, .inr rfl, .inr rfl, .inr rfl, .inr rfl, trivial⟩
            · have c194 := cleF (by omega) (by omega) c194
              refine x_aload_n (pc := 197) cx (dA ddL_holds (i := 109) rfl) rfl ?_
              refine x_iload (pc := 198) cx (dA ddL_holds (i := 110) rfl) rfl ?_
              rcases sh3 (S.2.2.2.1 s) with e | ⟨q, e⟩ | ⟨q, e⟩
              · refine x_V1 (pc := 200) mL_144 hRC.1.1 (c_X7_holds hRC) cx (dA ddL_holds (i := 111) rfl) (kCe (e_holds0 c194 e) fun G V col hRC => ?_)
                refine x_bipush (pc := 203) (v := nI 10) cx (dA ddL_holds (i := 112) rfl) (by decide) ?_
                refine x_icmp_lt (pc := 205) (tgt := 297) cx (dA ddL_holds (i := 113) rfl) (by decide) (fun c205 => ?_) (fun c205 => absurd (by decide) c205)
                refine x_iinc (pc := 297) cx (dA ddL_holds (i := 161) rfl) rfl (iinc1 _) (by decide) rfl ?_
                refine x_goto (pc := 300) (tgt := 190) cx (dA ddL_holds (i := 162) rfl) (by decide) ?_
                exact x_enter (ihs (by omega) _ _ _ hRC) ⟨.inr rfl, .inr rfl, .inr rfl, .inr rfl, .inr rfl, .inr rfl, .inr rfl, trivial⟩
              · have q5 : q.1 < 5 := by obtain ⟨-, a, -, -, -, q5, -⟩ := hRC.shl c194 e; exact q5
                refine x_V1 (pc := 200) mL_144 hRC.1.1 (c_X7_holds hRC) cx (dA ddL_holds (i := 111) rfl) (kCe (e_holdsL c194 e) fun G V col hRC => ?_)
                refine x_bipush (pc := 203) (v := nI 10) cx (dA ddL_holds (i := 112) rfl) (by decide) ?_
                refine x_icmp_lt (pc := 205) (tgt := 297) cx (dA ddL_holds (i := 113) rfl) (by decide) (fun c205 => ?_) (fun c205 => absurd (nI_lt (by omega) (by omega)) c205)
                refine x_iinc (pc := 297) cx (dA ddL_holds (i := 161) rfl) rfl (iinc1 _) (by decide) rfl ?_
                refine x_goto (pc := 300) (tgt := 190) cx (dA ddL_holds (i := 162) rfl) (by decide) ?_
                exact x_enter (ihs (by omega) _ _ _ hRC) ⟨.inr rfl, .inr rfl, .inr rfl, .inr rfl, .inr rfl, .inr rfl, .inr rfl, trivial⟩
              · have q5 : 1 ≤ q.1 ∧ q.1 ≤ 5 := by obtain ⟨-, a, -, hR, -⟩ := hRC.shr c194 e; exact hR.2.2.1
                refine x_V1 (pc := 200) mL_144 hRC.1.1 (c_X7_holds hRC) cx (dA ddL_holds (i := 111) rfl) (kCe (e_holdsR c194 e) fun G V col hRC => ?_)
                refine x_bipush (pc := 203) (v := nI 10) cx (dA ddL_holds (i := 112) rfl) (by decide) ?_
                refine x_icmp_lt (pc := 205) (tgt := 297) cx (dA ddL_holds (i := 113) rfl) (by decide) (fun c205 => absurd c205 (qI_nlt (by omega) (by omega))) (fun c205 => ?_)
                refine x_aload_n (pc := 208) cx (dA ddL_holds (i := 114) rfl) rfl ?_
                refine x_iload_n (pc := 209) cx (dA ddL_holds (i := 115) rfl) rfl ?_
                refine x_iload (pc := 210) cx (dA ddL_holds (i := 116) rfl) rfl ?_
                refine x_iload (pc := 212) cx (dA ddL_holds (i := 117) rfl) rfl ?_
                refine x_iload (pc := 214) cx (dA ddL_holds (i := 118) rfl) rfl ?_
                refine x_V4 (pc := 216) mL_147 hRC.1.1 (c_X7_load hRC) cx (dA ddL_holds (i := 119) rfl) (kCe (e_load hS h1 hl ht c194 e) fun G V col hRC => ?_)
                refine x_istore (pc := 219) cx (dA ddL_holds (i := 120) rfl) (by decide) rfl ?_
                refine x_aload_n (pc := 221) cx (dA ddL_holds (i := 121) rfl) rfl ?_
                refine x_iload_n (pc := 222) cx (dA ddL_holds (i := 122) rfl) rfl ?_
                refine x_iload (pc := 223) cx (dA ddL_holds (i := 123) rfl) rfl ?_
                refine x_iload (pc := 225) cx (dA ddL_holds (i := 124) rfl) rfl ?_
                refine x_iload (pc := 227) cx (dA ddL_holds (i := 125) rfl) rfl ?_
                refine x_V4 (pc := 229) mL_150 hRC.1.1 (c_X7_lose hRC) cx (dA ddL_holds (i := 126) rfl) (kCeJ (e_lose hS hl ht c194 e) fun G V col hRC => ?_)
                refine x_lconst (pc := 232) (v := lN 0) cx (dA ddL_holds (i := 127) rfl) rfl ?_
                refine x_lc_lt (pc := 233) (tgt := 295) cx (dA ddL_holds (i := 128) rfl) (dA ddL_holds (i := 129) rfl) (by decide) (fun c233 => absurd c233 (qL_nlt (Nat.zero_le _) (by have := rCs62 (q := q) hN hl ht; omega))) (fun c233 => ?_)
                refine x_aload_n (pc := 237) cx (dA ddL_holds (i := 130) rfl) rfl ?_
                refine x_iload_n (pc := 238) cx (dA ddL_holds (i := 131) rfl) rfl ?_
                refine x_iload (pc := 239) cx (dA ddL_holds (i := 132) rfl) rfl ?_
                refine x_iload (pc := 241) cx (dA ddL_holds (i := 133) rfl) rfl ?_
                refine x_iload (pc := 243) cx (dA ddL_holds (i := 134) rfl) rfl ?_
                refine x_V4 (pc := 245) mL_154 hRC.1.1 (c_X7_mean hRC) cx (dA ddL_holds (i := 135) rfl) (kCeJ (e_mean hS hl ht c194 e) fun G V col hRC => ?_)
                refine x_lload (pc := 248) cx (dA ddL_holds (i := 136) rfl) rfl ?_
                refine x_lc_lt (pc := 250) (tgt := 295) cx (dA ddL_holds (i := 137) rfl) (dA ddL_holds (i := 138) rfl) (by decide) (fun c250 => absurd c250 (qL_nlt (rCs_ge hN _ t ht) (by have := rCs62 (q := q) hN hl ht; omega))) (fun c250 => ?_)
                refine x_iload (pc := 254) cx (dA ddL_holds (i := 139) rfl) rfl ?_
                refine x_if_eq (pc := 256) (tgt := 282) cx (dA ddL_holds (i := 140) rfl) (by decide) (fun c256 => ?_) (fun c256 => ?_)
                · refine x_aload_n (pc := 282) cx (dA ddL_holds (i := 152) rfl) rfl ?_
                  refine x_iload_n (pc := 283) cx (dA ddL_holds (i := 153) rfl) rfl ?_
                  refine x_iload (pc := 284) cx (dA ddL_holds (i := 154) rfl) rfl ?_
                  refine x_iload (pc := 286) cx (dA ddL_holds (i := 155) rfl) rfl ?_
                  refine x_V3 (pc := 288) mL_157 hRC.1.1 (c_X7_reach hRC) cx (dA ddL_holds (i := 156) rfl) (kCe (e_reach hS hl c194 e) fun G V col hRC => ?_)
                  refine x_iconst (pc := 291) (v := nI 1) cx (dA ddL_holds (i := 157) rfl) (by decide) ?_
                  refine x_icmp_ge (pc := 292) (tgt := 297) cx (dA ddL_holds (i := 158) rfl) (by decide) (fun c292 => ?_) (fun c292 => absurd (qI_le (reach_pos hN (fun d h1 h6 s hs => ruL_le hN h1 h6 hs) (by omega)) (Nat.lt_of_le_of_lt (ctA_le _) (by omega))) c292)
                  refine x_iinc (pc := 297) cx (dA ddL_holds (i := 161) rfl) rfl (iinc1 _) (by decide) rfl ?_
                  refine x_goto (pc := 300) (tgt := 190) cx (dA ddL_holds (i := 162) rfl) (by decide) ?_
                  exact x_enter (ihs (by omega) _ _ _ hRC) ⟨.inr rfl, .inr rfl, .inr rfl, .inr rfl, .inr rfl, .inr rfl, .inr rfl, trivial⟩
                · refine x_aload_n (pc := 259) cx (dA ddL_holds (i := 141) rfl) rfl ?_
                  refine x_iload (pc := 260) cx (dA ddL_holds (i := 142) rfl) rfl ?_
                  refine x_V1 (pc := 262) mL_144 hRC.1.1 (c_X7_holds hRC) cx (dA ddL_holds (i := 143) rfl) (kCe (e_holdsR c194 e) fun G V col hRC => ?_)
                  refine x_bipush (pc := 265) (v := nI 14) cx (dA ddL_holds (i := 144) rfl) (by decide) ?_
                  refine x_icmp_eq (pc := 267) (tgt := 282) cx (dA ddL_holds (i := 145) rfl) (by decide) (fun c267 => ?_) (fun c267 => ?_)
                  · refine x_aload_n (pc := 282) cx (dA ddL_holds (i := 152) rfl) rfl ?_
                    refine x_iload_n (pc := 283) cx (dA ddL_holds (i := 153) rfl) rfl ?_
                    refine x_iload (pc := 284) cx (dA ddL_holds (i := 154) rfl) rfl ?_
                    refine x_iload (pc := 286) cx (dA ddL_holds (i := 155) rfl) rfl ?_
                    refine x_V3 (pc := 288) mL_157 hRC.1.1 (c_X7_reach hRC) cx (dA ddL_holds (i := 156) rfl) (kCe (e_reach hS hl c194 e) fun G V col hRC => ?_)
                    refine x_iconst (pc := 291) (v := nI 1) cx (dA ddL_holds (i := 157) rfl) (by decide) ?_
                    refine x_icmp_ge (pc := 292) (tgt := 297) cx (dA ddL_holds (i := 158) rfl) (by decide) (fun c292 => ?_) (fun c292 => absurd (qI_le (reach_pos hN (fun d h1 h6 s hs => ruL_le hN h1 h6 hs) (by omega)) (Nat.lt_of_le_of_lt (ctA_le _) (by omega))) c292)
                    refine x_iinc (pc := 297) cx (dA ddL_holds (i := 161) rfl) rfl (iinc1 _) (by decide) rfl ?_
                    refine x_goto (pc := 300) (tgt := 190) cx (dA ddL_holds (i := 162) rfl) (by decide) ?_
                    exact x_enter (ihs (by omega) _ _ _ hRC) ⟨.inr rfl, .inr rfl, .inr rfl, .inr rfl, .inr rfl, .inr rfl, .inr rfl, trivial⟩
                  · have q4 : q.1 ≠ 4 := fun z => c267 (by rw [z])
                    refine x_iload (pc := 270) cx (dA ddL_holds (i := 146) rfl) rfl ?_
                    refine x_aload_n (pc := 272) cx (dA ddL_holds (i := 147) rfl) rfl ?_
                    refine x_iload_n (pc := 273) cx (dA ddL_holds (i := 148) rfl) rfl ?_
                    refine x_iload (pc := 274) cx (dA ddL_holds (i := 149) rfl) rfl ?_
                    refine x_V2 (pc := 276) mL_141 hRC.1.1 (c_X7_fill hRC) cx (dA ddL_holds (i := 150) rfl) (kCe (e_fill hS ht) fun G V col hRC => ?_)
                    refine x_icmp_ne (pc := 279) (tgt := 295) cx (dA ddL_holds (i := 151) rfl) (by decide) (fun c279 => absurd (by rcases ruL_fill (N := N) (b := q.2.1) (m := q.2.2.1) (rf := q.2.2.2) (d := j + 1) (s := t) q4 with z | z; exact absurd (congrArg nI z) c256; exact congrArg nI z) c279) (fun c279 => ?_)
                    refine x_aload_n (pc := 282) cx (dA ddL_holds (i := 152) rfl) rfl ?_
                    refine x_iload_n (pc := 283) cx (dA ddL_holds (i := 153) rfl) rfl ?_
                    refine x_iload (pc := 284) cx (dA ddL_holds (i := 154) rfl) rfl ?_
                    refine x_iload (pc := 286) cx (dA ddL_holds (i := 155) rfl) rfl ?_
                    refine x_V3 (pc := 288) mL_157 hRC.1.1 (c_X7_reach hRC) cx (dA ddL_holds (i := 156) rfl) (kCe (e_reach hS hl c194 e) fun G V col hRC => ?_)
                    refine x_iconst (pc := 291) (v := nI 1) cx (dA ddL_holds (i := 157) rfl) (by decide) ?_
                    refine x_icmp_ge (pc := 292) (tgt := 297) cx (dA ddL_holds (i := 158) rfl) (by decide) (fun c292 => ?_) (fun c292 => absurd (qI_le (reach_pos hN (fun d h1 h6 s hs => ruL_le hN h1 h6 hs) (by omega)) (Nat.lt_of_le_of_lt (ctA_le _) (by omega))) c292)
                    refine x_iinc (pc := 297) cx (dA ddL_holds (i := 161) rfl) rfl (iinc1 _) (by decide) rfl ?_
                    refine x_goto (pc := 300) (tgt := 190) cx (dA ddL_holds (i := 162) rfl) (by decide) ?_
                    exact x_enter (ihs (by omega) _ _ _ hRC) ⟨.inr rfl, .inr rfl, .inr rfl, .inr rfl, .inr rfl, .inr rfl, .inr rfl, trivial⟩
          exact x_enter (L190 0 (Nat.zero_le _) _ _ _ hRC) ⟨.inr rfl, .inr rfl, .inr rfl, .inr rfl, .inr rfl, .inr rfl, .inr rfl, trivial⟩
        · have c133 := cleF (by omega) (by omega) c133
          refine x_aload_n (pc := 136) cx (dA ddL_holds (i := 79) rfl) rfl ?_
          refine x_iload (pc := 137) cx (dA ddL_holds (i := 80) rfl) rfl ?_
          refine x_iload (pc := 139) cx (dA ddL_holds (i := 81) rfl) rfl ?_
          refine x_V2 (pc := 141) mL_62 hRC.1.1 (c_X7_of hRC) cx (dA ddL_holds (i := 82) rfl) (kCe (e_of (t := ldP N (j + 1) t) (by omega) (by omega)) fun G V col hRC => ?_)
          refine x_aload_n (pc := 144) cx (dA ddL_holds (i := 83) rfl) rfl ?_
          refine x_iload (pc := 145) cx (dA ddL_holds (i := 84) rfl) rfl ?_
          refine x_iload (pc := 147) cx (dA ddL_holds (i := 85) rfl) rfl ?_
          refine x_V2 (pc := 149) mL_62 hRC.1.1 (c_X7_of hRC) cx (dA ddL_holds (i := 86) rfl) (kCe (e_of (t := t) (by omega) (by omega)) fun G V col hRC => ?_)
          refine x_icmp_gt (pc := 152) (tgt := 179) cx (dA ddL_holds (i := 87) rfl) (by decide) (fun c152 => absurd c152 (qI_nlt (dle_k hLD.2.1 (by omega)) (by have := dig_lt t k; omega))) (fun c152 => ?_)
          refine x_aload_n (pc := 155) cx (dA ddL_holds (i := 88) rfl) rfl ?_
          refine x_aload_n (pc := 156) cx (dA ddL_holds (i := 89) rfl) rfl ?_
          refine x_iload_n (pc := 157) cx (dA ddL_holds (i := 90) rfl) rfl ?_
          refine x_iload (pc := 158) cx (dA ddL_holds (i := 91) rfl) rfl ?_
          refine x_V2 (pc := 160) mL_141 hRC.1.1 (c_X7_fill hRC) cx (dA ddL_holds (i := 92) rfl) (kCe (e_fill hS ht) fun G V col hRC => ?_)
          refine x_iload (pc := 163) cx (dA ddL_holds (i := 93) rfl) rfl ?_
          refine x_V2 (pc := 165) mL_62 hRC.1.1 (c_X7_of hRC) cx (dA ddL_holds (i := 94) rfl) (kCe (e_of (t := fillP N t) (by omega) (by omega)) fun G V col hRC => ?_)
          refine x_aload_n (pc := 168) cx (dA ddL_holds (i := 95) rfl) rfl ?_
          refine x_iload (pc := 169) cx (dA ddL_holds (i := 96) rfl) rfl ?_
          refine x_iload (pc := 171) cx (dA ddL_holds (i := 97) rfl) rfl ?_
          refine x_V2 (pc := 173) mL_62 hRC.1.1 (c_X7_of hRC) cx (dA ddL_holds (i := 98) rfl) (kCe (e_of (t := t) (by omega) (by omega)) fun G V col hRC => ?_)
          refine x_icmp_le (pc := 176) (tgt := 181) cx (dA ddL_holds (i := 99) rfl) (by decide) (fun c176 => ?_) (fun c176 => absurd (qI_le (dle_k hFL.2.1 (by omega)) (by have := dig_lt t k; omega)) c176)
          refine x_iinc (pc := 181) cx (dA ddL_holds (i := 102) rfl) rfl (iinc1 _) (by decide) rfl ?_
          refine x_goto (pc := 184) (tgt := 125) cx (dA ddL_holds (i := 103) rfl) (by decide) ?_
          exact x_enter (ihk (by omega) _ _ _ hRC) ⟨.inr rfl, .inr rfl, .inr rfl, .inr rfl, .inr rfl, .inr rfl, .inr rfl, .inr rfl, trivial⟩
      exact x_enter (L125 0 (Nat.zero_le _) _ _ _ hRC) ⟨.inr rfl, .inr rfl, .inr rfl, .inr rfl, .inr rfl, .inr rfl, .inr rfl, .inr rfl, trivial⟩
  exact x_enter (L22 0 (Nat.zero_le _) _ _ _ hRC) ⟨.inr rfl, .inr rfl, .inr rfl, .inr rfl, .inr rfl, trivial⟩
