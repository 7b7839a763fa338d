theorem lc_row {Z : zP} {X : xP} {nm : String} {b L : Nat} {xs : Nat → Int32} {Q : State → Prop} {G : zG} {V : zV} {x y j k n : Nat} {D : Int32 → Int32} {vl : Int32 → Nat} (hDr : ∀ d, drw d = D d) (hvl : ∀ d, dvl d = vl d) (hv4 : ∀ d, vl d < 4) (cx : Cx Z X RL nm code 4 ret 12 269366 8294152) (hX : scOK Z X b L xs) (hj : 6 * j + 6 ≤ L) (hk : k + 100 ≤ 269366) (hn : n + 8900 ≤ 8294152) (hI : LI Z G V x y) (K : ∀ G' V', LI Z G' V' x y → Wm Z X 4 G' V' (k + 100) (n + 8900) Q 1950 [(0, some (.ref b)), (1, some (.ref x)), (2, some (.ref y)), (3, some (.int (nI (6 * j))))] []) : Wm Z X 4 G V k n Q 236 [(0, some (.ref b)), (1, some (.ref x)), (2, some (.ref y)), (3, some (.int (nI (6 * j))))] [] := by
  obtain ⟨col, zk, S, hC, hM, hB⟩ := hI
  refine x_aload_n (pc := 236) cx (dA ddL0 (i := 22) rfl) rfl ?_
  refine x_arg (pc := 237) (q := 1) cx hX (dA ddL0 (i := 23) rfl) (dA ddL0 (i := 24) rfl) (dA ddL0 (i := 25) rfl) (dA ddL0 (i := 26) rfl) (dA ddL0 (i := 27) rfl) (by decide) rfl rfl (by omega) ?_
  refine x_arg (pc := 242) (q := 2) cx hX (dA ddL0 (i := 28) rfl) (dA ddL0 (i := 29) rfl) (dA ddL0 (i := 30) rfl) (dA ddL0 (i := 31) rfl) (dA ddL0 (i := 32) rfl) (by decide) rfl rfl (by omega) ?_
  refine x_arg (pc := 247) (q := 3) cx hX (dA ddL0 (i := 33) rfl) (dA ddL0 (i := 34) rfl) (dA ddL0 (i := 35) rfl) (dA ddL0 (i := 36) rfl) (dA ddL0 (i := 37) rfl) (by decide) rfl rfl (by omega) ?_
  refine x_V3 (pc := 252) mL_13 hC.1.1 (c_X7_row hC) cx (dA ddL0 (i := 38) rfl) (kCI hM hB fun G1 V1 col1 hC hM hB => ?_)
  refine x_aload_n (pc := 255) cx (dA ddL0 (i := 39) rfl) rfl ?_
  refine x_arg (pc := 256) (q := 1) cx hX (dA ddL1 (i := 0) rfl) (dA ddL1 (i := 1) rfl) (dA ddL1 (i := 2) rfl) (dA ddL1 (i := 3) rfl) (dA ddL1 (i := 4) rfl) (by decide) rfl rfl (by omega) ?_
  refine x_arg (pc := 261) (q := 2) cx hX (dA ddL1 (i := 5) rfl) (dA ddL1 (i := 6) rfl) (dA ddL1 (i := 7) rfl) (dA ddL1 (i := 8) rfl) (dA ddL1 (i := 9) rfl) (by decide) rfl rfl (by omega) ?_
  refine x_arg (pc := 266) (q := 3) cx hX (dA ddL1 (i := 10) rfl) (dA ddL1 (i := 11) rfl) (dA ddL1 (i := 12) rfl) (dA ddL1 (i := 13) rfl) (dA ddL1 (i := 14) rfl) (by decide) rfl rfl (by omega) ?_
  refine x_V3 (pc := 271) mL_17 hM.1.1 (c_X8_row hM) cx (dA ddL1 (i := 15) rfl) (kMI hC hB fun V2 hC hM => ?_)
  refine x_icmp_eq (pc := 274) (tgt := 1950) cx (dA ddL1 (i := 16) rfl) (by decide) (fun _ => ?_) (fun c => absurd rfl c)
  exact x_widen (by omega) (by omega) (K _ _ ⟨_, _, _, hC, hM, hB⟩)
theorem lc_set {Z : zP} {X : xP} {nm : String} {b L : Nat} {xs : Nat → Int32} {Q : State → Prop} {G : zG} {V : zV} {x y j k n : Nat} {D : Int32 → Int32} {vl : Int32 → Nat} (hDr : ∀ d, drw d = D d) (hvl : ∀ d, dvl d = vl d) (hv4 : ∀ d, vl d < 4) (cx : Cx Z X RL nm code 4 ret 12 269366 8294152) (hX : scOK Z X b L xs) (hj : 6 * j + 6 ≤ L) (hk : k + 100 ≤ 269366) (hn : n + 8900 ≤ 8294152) (hI : LI Z G V x y) (K : ∀ G' V', LI Z G' V' x y → Wm Z X 4 G' V' (k + 100) (n + 8900) Q 1950 [(0, some (.ref b)), (1, some (.ref x)), (2, some (.ref y)), (3, some (.int (nI (6 * j))))] []) : Wm Z X 4 G V k n Q 279 [(0, some (.ref b)), (1, some (.ref x)), (2, some (.ref y)), (3, some (.int (nI (6 * j))))] [] := by
  obtain ⟨col, zk, S, hC, hM, hB⟩ := hI
  refine x_aload_n (pc := 279) cx (dA ddL1 (i := 19) rfl) rfl ?_
  refine x_arg (pc := 280) (q := 1) cx hX (dA ddL1 (i := 20) rfl) (dA ddL1 (i := 21) rfl) (dA ddL1 (i := 22) rfl) (dA ddL1 (i := 23) rfl) (dA ddL1 (i := 24) rfl) (by decide) rfl rfl (by omega) ?_
  refine x_arg (pc := 285) (q := 2) cx hX (dA ddL1 (i := 25) rfl) (dA ddL1 (i := 26) rfl) (dA ddL1 (i := 27) rfl) (dA ddL1 (i := 28) rfl) (dA ddL1 (i := 29) rfl) (by decide) rfl rfl (by omega) ?_
  refine x_arg (pc := 290) (q := 3) cx hX (dA ddL1 (i := 30) rfl) (dA ddL1 (i := 31) rfl) (dA ddL1 (i := 32) rfl) (dA ddL1 (i := 33) rfl) (dA ddL1 (i := 34) rfl) (by decide) rfl rfl (by omega) ?_
  refine x_i2l (pc := 295) cx (dA ddL1 (i := 35) rfl) ?_
  refine x_bipush (v := nI 32) (pc := 296) cx (dA ddL1 (i := 36) rfl) (by decide) ?_
  refine x_lshl (pc := 298) cx (dA ddL1 (i := 37) rfl) ?_
  refine x_arg (pc := 299) (q := 4) cx hX (dA ddL1 (i := 38) rfl) (dA ddL1 (i := 39) rfl) (dA ddL2 (i := 0) rfl) (dA ddL2 (i := 1) rfl) (dA ddL2 (i := 2) rfl) (by decide) rfl rfl (by omega) ?_
  refine x_i2l (pc := 304) cx (dA ddL2 (i := 3) rfl) ?_
  refine x_ldc2 (pc := 305) cx klL_18 (dA ddL2 (i := 4) rfl) ?_
  refine x_land (pc := 308) cx (dA ddL2 (i := 5) rfl) ?_
  refine x_lor (pc := 309) cx (dA ddL2 (i := 6) rfl) ?_
  refine x_V3 (pc := 310) mL_20 hC.1.1 (c_X7_set hC) cx (dA ddL2 (i := 7) rfl) (kCI hM hB fun G1 V1 col1 hC hM hB => ?_)
  refine x_aload_n (pc := 313) cx (dA ddL2 (i := 8) rfl) rfl ?_
  refine x_arg (pc := 314) (q := 1) cx hX (dA ddL2 (i := 9) rfl) (dA ddL2 (i := 10) rfl) (dA ddL2 (i := 11) rfl) (dA ddL2 (i := 12) rfl) (dA ddL2 (i := 13) rfl) (by decide) rfl rfl (by omega) ?_
  refine x_arg (pc := 319) (q := 2) cx hX (dA ddL2 (i := 14) rfl) (dA ddL2 (i := 15) rfl) (dA ddL2 (i := 16) rfl) (dA ddL2 (i := 17) rfl) (dA ddL2 (i := 18) rfl) (by decide) rfl rfl (by omega) ?_
  refine x_arg (pc := 324) (q := 3) cx hX (dA ddL2 (i := 19) rfl) (dA ddL2 (i := 20) rfl) (dA ddL2 (i := 21) rfl) (dA ddL2 (i := 22) rfl) (dA ddL2 (i := 23) rfl) (by decide) rfl rfl (by omega) ?_
  refine x_i2l (pc := 329) cx (dA ddL2 (i := 24) rfl) ?_
  refine x_bipush (v := nI 32) (pc := 330) cx (dA ddL2 (i := 25) rfl) (by decide) ?_
  refine x_lshl (pc := 332) cx (dA ddL2 (i := 26) rfl) ?_
  refine x_arg (pc := 333) (q := 4) cx hX (dA ddL2 (i := 27) rfl) (dA ddL2 (i := 28) rfl) (dA ddL2 (i := 29) rfl) (dA ddL2 (i := 30) rfl) (dA ddL2 (i := 31) rfl) (by decide) rfl rfl (by omega) ?_
  refine x_i2l (pc := 338) cx (dA ddL2 (i := 32) rfl) ?_
  refine x_ldc2 (pc := 339) cx klL_18 (dA ddL2 (i := 33) rfl) ?_
  refine x_land (pc := 342) cx (dA ddL2 (i := 34) rfl) ?_
  refine x_lor (pc := 343) cx (dA ddL2 (i := 35) rfl) ?_
  refine x_V3 (pc := 344) mL_24 hM.1.1 (c_X8_set hM) cx (dA ddL2 (i := 36) rfl) (kMI hC hB fun V2 hC hM => ?_)
  refine x_icmp_eq (pc := 347) (tgt := 1950) cx (dA ddL2 (i := 37) rfl) (by decide) (fun _ => ?_) (fun c => absurd rfl c)
  exact x_widen (by omega) (by omega) (K _ _ ⟨_, _, _, hC, hM, hB⟩)
theorem lc_copy {Z : zP} {X : xP} {nm : String} {b L : Nat} {xs : Nat → Int32} {Q : State → Prop} {G : zG} {V : zV} {x y j k n : Nat} {D : Int32 → Int32} {vl : Int32 → Nat} (hDr : ∀ d, drw d = D d) (hvl : ∀ d, dvl d = vl d) (hv4 : ∀ d, vl d < 4) (cx : Cx Z X RL nm code 4 ret 12 269366 8294152) (hX : scOK Z X b L xs) (hj : 6 * j + 6 ≤ L) (hk : k + 100 ≤ 269366) (hn : n + 8900 ≤ 8294152) (hI : LI Z G V x y) (K : ∀ G' V', LI Z G' V' x y → Wm Z X 4 G' V' (k + 100) (n + 8900) Q 1950 [(0, some (.ref b)), (1, some (.ref x)), (2, some (.ref y)), (3, some (.int (nI (6 * j))))] []) : Wm Z X 4 G V k n Q 352 [(0, some (.ref b)), (1, some (.ref x)), (2, some (.ref y)), (3, some (.int (nI (6 * j))))] [] := by
  obtain ⟨col, zk, S, hC, hM, hB⟩ := hI
  refine x_aload_n (pc := 352) cx (dA ddL3 (i := 0) rfl) rfl ?_
  refine x_arg (pc := 353) (q := 1) cx hX (dA ddL3 (i := 1) rfl) (dA ddL3 (i := 2) rfl) (dA ddL3 (i := 3) rfl) (dA ddL3 (i := 4) rfl) (dA ddL3 (i := 5) rfl) (by decide) rfl rfl (by omega) ?_
  refine x_arg (pc := 358) (q := 2) cx hX (dA ddL3 (i := 6) rfl) (dA ddL3 (i := 7) rfl) (dA ddL3 (i := 8) rfl) (dA ddL3 (i := 9) rfl) (dA ddL3 (i := 10) rfl) (by decide) rfl rfl (by omega) ?_
  refine x_arg (pc := 363) (q := 3) cx hX (dA ddL3 (i := 11) rfl) (dA ddL3 (i := 12) rfl) (dA ddL3 (i := 13) rfl) (dA ddL3 (i := 14) rfl) (dA ddL3 (i := 15) rfl) (by decide) rfl rfl (by omega) ?_
  refine x_arg (pc := 368) (q := 4) cx hX (dA ddL3 (i := 16) rfl) (dA ddL3 (i := 17) rfl) (dA ddL3 (i := 18) rfl) (dA ddL3 (i := 19) rfl) (dA ddL3 (i := 20) rfl) (by decide) rfl rfl (by omega) ?_
  refine x_arg (pc := 373) (q := 5) cx hX (dA ddL3 (i := 21) rfl) (dA ddL3 (i := 22) rfl) (dA ddL3 (i := 23) rfl) (dA ddL3 (i := 24) rfl) (dA ddL3 (i := 25) rfl) (by decide) rfl rfl (by omega) ?_
  refine x_V5 (pc := 378) mL_25 hC.1.1 (c_X7_copy hC) cx (dA ddL3 (i := 26) rfl) (kCI hM hB fun G1 V1 col1 hC hM hB => ?_)
  refine x_aload_n (pc := 381) cx (dA ddL3 (i := 27) rfl) rfl ?_
  refine x_arg (pc := 382) (q := 1) cx hX (dA ddL3 (i := 28) rfl) (dA ddL3 (i := 29) rfl) (dA ddL3 (i := 30) rfl) (dA ddL3 (i := 31) rfl) (dA ddL3 (i := 32) rfl) (by decide) rfl rfl (by omega) ?_
  refine x_arg (pc := 387) (q := 2) cx hX (dA ddL3 (i := 33) rfl) (dA ddL3 (i := 34) rfl) (dA ddL3 (i := 35) rfl) (dA ddL3 (i := 36) rfl) (dA ddL3 (i := 37) rfl) (by decide) rfl rfl (by omega) ?_
  refine x_arg (pc := 392) (q := 3) cx hX (dA ddL3 (i := 38) rfl) (dA ddL3 (i := 39) rfl) (dA ddL4 (i := 0) rfl) (dA ddL4 (i := 1) rfl) (dA ddL4 (i := 2) rfl) (by decide) rfl rfl (by omega) ?_
  refine x_arg (pc := 397) (q := 4) cx hX (dA ddL4 (i := 3) rfl) (dA ddL4 (i := 4) rfl) (dA ddL4 (i := 5) rfl) (dA ddL4 (i := 6) rfl) (dA ddL4 (i := 7) rfl) (by decide) rfl rfl (by omega) ?_
  refine x_arg (pc := 402) (q := 5) cx hX (dA ddL4 (i := 8) rfl) (dA ddL4 (i := 9) rfl) (dA ddL4 (i := 10) rfl) (dA ddL4 (i := 11) rfl) (dA ddL4 (i := 12) rfl) (by decide) rfl rfl (by omega) ?_
  refine x_V5 (pc := 407) mL_29 hM.1.1 (c_X8_copy hM) cx (dA ddL4 (i := 13) rfl) (kMI hC hB fun V2 hC hM => ?_)
  refine x_icmp_eq (pc := 410) (tgt := 1950) cx (dA ddL4 (i := 14) rfl) (by decide) (fun _ => ?_) (fun c => absurd rfl c)
  exact x_widen (by omega) (by omega) (K _ _ ⟨_, _, _, hC, hM, hB⟩)
theorem lc_element {Z : zP} {X : xP} {nm : String} {b L : Nat} {xs : Nat → Int32} {Q : State → Prop} {G : zG} {V : zV} {x y j k n : Nat} {D : Int32 → Int32} {vl : Int32 → Nat} (hDr : ∀ d, drw d = D d) (hvl : ∀ d, dvl d = vl d) (hv4 : ∀ d, vl d < 4) (cx : Cx Z X RL nm code 4 ret 12 269366 8294152) (hX : scOK Z X b L xs) (hj : 6 * j + 6 ≤ L) (hk : k + 100 ≤ 269366) (hn : n + 8900 ≤ 8294152) (hI : LI Z G V x y) (K : ∀ G' V', LI Z G' V' x y → Wm Z X 4 G' V' (k + 100) (n + 8900) Q 1950 [(0, some (.ref b)), (1, some (.ref x)), (2, some (.ref y)), (3, some (.int (nI (6 * j))))] []) : Wm Z X 4 G V k n Q 415 [(0, some (.ref b)), (1, some (.ref x)), (2, some (.ref y)), (3, some (.int (nI (6 * j))))] [] := by
  obtain ⟨col, zk, S, hC, hM, hB⟩ := hI
  refine x_aload_n (pc := 415) cx (dA ddL4 (i := 17) rfl) rfl ?_
  refine x_arg (pc := 416) (q := 1) cx hX (dA ddL4 (i := 18) rfl) (dA ddL4 (i := 19) rfl) (dA ddL4 (i := 20) rfl) (dA ddL4 (i := 21) rfl) (dA ddL4 (i := 22) rfl) (by decide) rfl rfl (by omega) ?_
  refine x_arg (pc := 421) (q := 2) cx hX (dA ddL4 (i := 23) rfl) (dA ddL4 (i := 24) rfl) (dA ddL4 (i := 25) rfl) (dA ddL4 (i := 26) rfl) (dA ddL4 (i := 27) rfl) (by decide) rfl rfl (by omega) ?_
  refine x_V2 (pc := 426) mL_30 hC.1.1 (c_X7_element hC) cx (dA ddL4 (i := 28) rfl) (kCJ hM hB fun G1 V1 col1 hC hM hB => ?_)
  refine x_aload_n (pc := 429) cx (dA ddL4 (i := 29) rfl) rfl ?_
  refine x_arg (pc := 430) (q := 1) cx hX (dA ddL4 (i := 30) rfl) (dA ddL4 (i := 31) rfl) (dA ddL4 (i := 32) rfl) (dA ddL4 (i := 33) rfl) (dA ddL4 (i := 34) rfl) (by decide) rfl rfl (by omega) ?_
  refine x_arg (pc := 435) (q := 2) cx hX (dA ddL4 (i := 35) rfl) (dA ddL4 (i := 36) rfl) (dA ddL4 (i := 37) rfl) (dA ddL4 (i := 38) rfl) (dA ddL4 (i := 39) rfl) (by decide) rfl rfl (by omega) ?_
  refine x_V2 (pc := 440) mL_34 hM.1.1 (c_X8_element hM) cx (dA ddL5 (i := 0) rfl) (kMJ hC hB fun V2 hC hM => ?_)
  refine x_lc_eq (pc := 443) (tgt := 1950) cx (dA ddL5 (i := 1) rfl) (dA ddL5 (i := 2) rfl) (by decide) (fun _ => ?_) (fun c => absurd rfl c)
  exact x_widen (by omega) (by omega) (K _ _ ⟨_, _, _, hC, hM, hB⟩)
theorem lc_holds {Z : zP} {X : xP} {nm : String} {b L : Nat} {xs : Nat → Int32} {Q : State → Prop} {G : zG} {V : zV} {x y j k n : Nat} {D : Int32 → Int32} {vl : Int32 → Nat} (hDr : ∀ d, drw d = D d) (hvl : ∀ d, dvl d = vl d) (hv4 : ∀ d, vl d < 4) (cx : Cx Z X RL nm code 4 ret 12 269366 8294152) (hX : scOK Z X b L xs) (hj : 6 * j + 6 ≤ L) (hk : k + 100 ≤ 269366) (hn : n + 8900 ≤ 8294152) (hI : LI Z G V x y) (K : ∀ G' V', LI Z G' V' x y → Wm Z X 4 G' V' (k + 100) (n + 8900) Q 1950 [(0, some (.ref b)), (1, some (.ref x)), (2, some (.ref y)), (3, some (.int (nI (6 * j))))] []) : Wm Z X 4 G V k n Q 449 [(0, some (.ref b)), (1, some (.ref x)), (2, some (.ref y)), (3, some (.int (nI (6 * j))))] [] := by
  obtain ⟨col, zk, S, hC, hM, hB⟩ := hI
  refine x_aload_n (pc := 449) cx (dA ddL5 (i := 5) rfl) rfl ?_
  refine x_arg (pc := 450) (q := 1) cx hX (dA ddL5 (i := 6) rfl) (dA ddL5 (i := 7) rfl) (dA ddL5 (i := 8) rfl) (dA ddL5 (i := 9) rfl) (dA ddL5 (i := 10) rfl) (by decide) rfl rfl (by omega) ?_
  refine x_V1 (pc := 455) mL_35 hC.1.1 (c_X7_holds hC) cx (dA ddL5 (i := 11) rfl) (kCI hM hB fun G1 V1 col1 hC hM hB => ?_)
  refine x_aload_n (pc := 458) cx (dA ddL5 (i := 12) rfl) rfl ?_
  refine x_arg (pc := 459) (q := 1) cx hX (dA ddL5 (i := 13) rfl) (dA ddL5 (i := 14) rfl) (dA ddL5 (i := 15) rfl) (dA ddL5 (i := 16) rfl) (dA ddL5 (i := 17) rfl) (by decide) rfl rfl (by omega) ?_
  refine x_V1 (pc := 464) mL_39 hM.1.1 (c_X8_holds hM) cx (dA ddL5 (i := 18) rfl) (kMI hC hB fun V2 hC hM => ?_)
  refine x_icmp_eq (pc := 467) (tgt := 1950) cx (dA ddL5 (i := 19) rfl) (by decide) (fun _ => ?_) (fun c => absurd rfl c)
  exact x_widen (by omega) (by omega) (K _ _ ⟨_, _, _, hC, hM, hB⟩)
theorem lc_rule {Z : zP} {X : xP} {nm : String} {b L : Nat} {xs : Nat → Int32} {Q : State → Prop} {G : zG} {V : zV} {x y j k n : Nat} {D : Int32 → Int32} {vl : Int32 → Nat} (hDr : ∀ d, drw d = D d) (hvl : ∀ d, dvl d = vl d) (hv4 : ∀ d, vl d < 4) (cx : Cx Z X RL nm code 4 ret 12 269366 8294152) (hX : scOK Z X b L xs) (hj : 6 * j + 6 ≤ L) (hk : k + 100 ≤ 269366) (hn : n + 8900 ≤ 8294152) (hI : LI Z G V x y) (K : ∀ G' V', LI Z G' V' x y → Wm Z X 4 G' V' (k + 100) (n + 8900) Q 1950 [(0, some (.ref b)), (1, some (.ref x)), (2, some (.ref y)), (3, some (.int (nI (6 * j))))] []) : Wm Z X 4 G V k n Q 472 [(0, some (.ref b)), (1, some (.ref x)), (2, some (.ref y)), (3, some (.int (nI (6 * j))))] [] := by
  obtain ⟨col, zk, S, hC, hM, hB⟩ := hI
  refine x_aload_n (pc := 472) cx (dA ddL5 (i := 22) rfl) rfl ?_
  refine x_arg (pc := 473) (q := 1) cx hX (dA ddL5 (i := 23) rfl) (dA ddL5 (i := 24) rfl) (dA ddL5 (i := 25) rfl) (dA ddL5 (i := 26) rfl) (dA ddL5 (i := 27) rfl) (by decide) rfl rfl (by omega) ?_
  refine x_arg (pc := 478) (q := 2) cx hX (dA ddL5 (i := 28) rfl) (dA ddL5 (i := 29) rfl) (dA ddL5 (i := 30) rfl) (dA ddL5 (i := 31) rfl) (dA ddL5 (i := 32) rfl) (by decide) rfl rfl (by omega) ?_
  refine x_arg (pc := 483) (q := 3) cx hX (dA ddL5 (i := 33) rfl) (dA ddL5 (i := 34) rfl) (dA ddL5 (i := 35) rfl) (dA ddL5 (i := 36) rfl) (dA ddL5 (i := 37) rfl) (by decide) rfl rfl (by omega) ?_
  refine x_V3 (pc := 488) mL_40 hC.1.1 (c_X7_rule hC) cx (dA ddL5 (i := 38) rfl) (kCI hM hB fun G1 V1 col1 hC hM hB => ?_)
  refine x_aload_n (pc := 491) cx (dA ddL5 (i := 39) rfl) rfl ?_
  refine x_arg (pc := 492) (q := 1) cx hX (dA ddL6 (i := 0) rfl) (dA ddL6 (i := 1) rfl) (dA ddL6 (i := 2) rfl) (dA ddL6 (i := 3) rfl) (dA ddL6 (i := 4) rfl) (by decide) rfl rfl (by omega) ?_
  refine x_arg (pc := 497) (q := 2) cx hX (dA ddL6 (i := 5) rfl) (dA ddL6 (i := 6) rfl) (dA ddL6 (i := 7) rfl) (dA ddL6 (i := 8) rfl) (dA ddL6 (i := 9) rfl) (by decide) rfl rfl (by omega) ?_
  refine x_arg (pc := 502) (q := 3) cx hX (dA ddL6 (i := 10) rfl) (dA ddL6 (i := 11) rfl) (dA ddL6 (i := 12) rfl) (dA ddL6 (i := 13) rfl) (dA ddL6 (i := 14) rfl) (by decide) rfl rfl (by omega) ?_
  refine x_V3 (pc := 507) mL_43 hM.1.1 (c_X8_rule hM) cx (dA ddL6 (i := 15) rfl) (kMI hC hB fun V2 hC hM => ?_)
  refine x_icmp_eq (pc := 510) (tgt := 1950) cx (dA ddL6 (i := 16) rfl) (by decide) (fun _ => ?_) (fun c => absurd rfl c)
  exact x_widen (by omega) (by omega) (K _ _ ⟨_, _, _, hC, hM, hB⟩)
theorem lc_says {Z : zP} {X : xP} {nm : String} {b L : Nat} {xs : Nat → Int32} {Q : State → Prop} {G : zG} {V : zV} {x y j k n : Nat} {D : Int32 → Int32} {vl : Int32 → Nat} (hDr : ∀ d, drw d = D d) (hvl : ∀ d, dvl d = vl d) (hv4 : ∀ d, vl d < 4) (cx : Cx Z X RL nm code 4 ret 12 269366 8294152) (hX : scOK Z X b L xs) (hj : 6 * j + 6 ≤ L) (hk : k + 100 ≤ 269366) (hn : n + 8900 ≤ 8294152) (hI : LI Z G V x y) (K : ∀ G' V', LI Z G' V' x y → Wm Z X 4 G' V' (k + 100) (n + 8900) Q 1950 [(0, some (.ref b)), (1, some (.ref x)), (2, some (.ref y)), (3, some (.int (nI (6 * j))))] []) : Wm Z X 4 G V k n Q 515 [(0, some (.ref b)), (1, some (.ref x)), (2, some (.ref y)), (3, some (.int (nI (6 * j))))] [] := by
  obtain ⟨col, zk, S, hC, hM, hB⟩ := hI
  refine x_aload_n (pc := 515) cx (dA ddL6 (i := 19) rfl) rfl ?_
  refine x_arg (pc := 516) (q := 1) cx hX (dA ddL6 (i := 20) rfl) (dA ddL6 (i := 21) rfl) (dA ddL6 (i := 22) rfl) (dA ddL6 (i := 23) rfl) (dA ddL6 (i := 24) rfl) (by decide) rfl rfl (by omega) ?_
  refine x_arg (pc := 521) (q := 2) cx hX (dA ddL6 (i := 25) rfl) (dA ddL6 (i := 26) rfl) (dA ddL6 (i := 27) rfl) (dA ddL6 (i := 28) rfl) (dA ddL6 (i := 29) rfl) (by decide) rfl rfl (by omega) ?_
  refine x_V2 (pc := 526) mL_44 hC.1.1 (c_X7_says hC) cx (dA ddL6 (i := 30) rfl) (kCI hM hB fun G1 V1 col1 hC hM hB => ?_)
  refine x_aload_n (pc := 529) cx (dA ddL6 (i := 31) rfl) rfl ?_
  refine x_arg (pc := 530) (q := 1) cx hX (dA ddL6 (i := 32) rfl) (dA ddL6 (i := 33) rfl) (dA ddL6 (i := 34) rfl) (dA ddL6 (i := 35) rfl) (dA ddL6 (i := 36) rfl) (by decide) rfl rfl (by omega) ?_
  refine x_arg (pc := 535) (q := 2) cx hX (dA ddL6 (i := 37) rfl) (dA ddL6 (i := 38) rfl) (dA ddL6 (i := 39) rfl) (dA ddL7 (i := 0) rfl) (dA ddL7 (i := 1) rfl) (by decide) rfl rfl (by omega) ?_
  refine x_V2 (pc := 540) mL_48 hM.1.1 (c_X8_says hM) cx (dA ddL7 (i := 2) rfl) (kMI hC hB fun V2 hC hM => ?_)
  refine x_icmp_eq (pc := 543) (tgt := 1950) cx (dA ddL7 (i := 3) rfl) (by decide) (fun _ => ?_) (fun c => absurd rfl c)
  exact x_widen (by omega) (by omega) (K _ _ ⟨_, _, _, hC, hM, hB⟩)
theorem lc_feed {Z : zP} {X : xP} {nm : String} {b L : Nat} {xs : Nat → Int32} {Q : State → Prop} {G : zG} {V : zV} {x y j k n : Nat} {D : Int32 → Int32} {vl : Int32 → Nat} (hDr : ∀ d, drw d = D d) (hvl : ∀ d, dvl d = vl d) (hv4 : ∀ d, vl d < 4) (cx : Cx Z X RL nm code 4 ret 12 269366 8294152) (hX : scOK Z X b L xs) (hj : 6 * j + 6 ≤ L) (hk : k + 100 ≤ 269366) (hn : n + 8900 ≤ 8294152) (hI : LI Z G V x y) (K : ∀ G' V', LI Z G' V' x y → Wm Z X 4 G' V' (k + 100) (n + 8900) Q 1950 [(0, some (.ref b)), (1, some (.ref x)), (2, some (.ref y)), (3, some (.int (nI (6 * j))))] []) : Wm Z X 4 G V k n Q 548 [(0, some (.ref b)), (1, some (.ref x)), (2, some (.ref y)), (3, some (.int (nI (6 * j))))] [] := by
  obtain ⟨col, zk, S, hC, hM, hB⟩ := hI
  refine x_aload_n (pc := 548) cx (dA ddL7 (i := 6) rfl) rfl ?_
  refine x_arg (pc := 549) (q := 1) cx hX (dA ddL7 (i := 7) rfl) (dA ddL7 (i := 8) rfl) (dA ddL7 (i := 9) rfl) (dA ddL7 (i := 10) rfl) (dA ddL7 (i := 11) rfl) (by decide) rfl rfl (by omega) ?_
  refine x_arg (pc := 554) (q := 2) cx hX (dA ddL7 (i := 12) rfl) (dA ddL7 (i := 13) rfl) (dA ddL7 (i := 14) rfl) (dA ddL7 (i := 15) rfl) (dA ddL7 (i := 16) rfl) (by decide) rfl rfl (by omega) ?_
  refine x_V2 (pc := 559) mL_49 hC.1.1 (c_X7_feed hC) cx (dA ddL7 (i := 17) rfl) (kCI hM hB fun G1 V1 col1 hC hM hB => ?_)
  refine x_aload_n (pc := 562) cx (dA ddL7 (i := 18) rfl) rfl ?_
  refine x_arg (pc := 563) (q := 1) cx hX (dA ddL7 (i := 19) rfl) (dA ddL7 (i := 20) rfl) (dA ddL7 (i := 21) rfl) (dA ddL7 (i := 22) rfl) (dA ddL7 (i := 23) rfl) (by decide) rfl rfl (by omega) ?_
  refine x_arg (pc := 568) (q := 2) cx hX (dA ddL7 (i := 24) rfl) (dA ddL7 (i := 25) rfl) (dA ddL7 (i := 26) rfl) (dA ddL7 (i := 27) rfl) (dA ddL7 (i := 28) rfl) (by decide) rfl rfl (by omega) ?_
  refine x_V2 (pc := 573) mL_52 hM.1.1 (c_X8_feed hM) cx (dA ddL7 (i := 29) rfl) (kMI hC hB fun V2 hC hM => ?_)
  refine x_icmp_eq (pc := 576) (tgt := 1950) cx (dA ddL7 (i := 30) rfl) (by decide) (fun _ => ?_) (fun c => absurd rfl c)
  exact x_widen (by omega) (by omega) (K _ _ ⟨_, _, _, hC, hM, hB⟩)
theorem lc_wipe {Z : zP} {X : xP} {nm : String} {b L : Nat} {xs : Nat → Int32} {Q : State → Prop} {G : zG} {V : zV} {x y j k n : Nat} {D : Int32 → Int32} {vl : Int32 → Nat} (hDr : ∀ d, drw d = D d) (hvl : ∀ d, dvl d = vl d) (hv4 : ∀ d, vl d < 4) (cx : Cx Z X RL nm code 4 ret 12 269366 8294152) (hX : scOK Z X b L xs) (hj : 6 * j + 6 ≤ L) (hk : k + 100 ≤ 269366) (hn : n + 8900 ≤ 8294152) (hI : LI Z G V x y) (K : ∀ G' V', LI Z G' V' x y → Wm Z X 4 G' V' (k + 100) (n + 8900) Q 1950 [(0, some (.ref b)), (1, some (.ref x)), (2, some (.ref y)), (3, some (.int (nI (6 * j))))] []) : Wm Z X 4 G V k n Q 581 [(0, some (.ref b)), (1, some (.ref x)), (2, some (.ref y)), (3, some (.int (nI (6 * j))))] [] := by
  obtain ⟨col, zk, S, hC, hM, hB⟩ := hI
  refine x_aload_n (pc := 581) cx (dA ddL7 (i := 33) rfl) rfl ?_
  refine x_V0 (pc := 582) mL_53 hC.1.1 (c_X7_wipe hC) cx (dA ddL7 (i := 34) rfl) (kCI hM hB fun G1 V1 col1 hC hM hB => ?_)
  refine x_aload_n (pc := 585) cx (dA ddL7 (i := 35) rfl) rfl ?_
  refine x_V0 (pc := 586) mL_57 hM.1.1 (C_X8_wipe hM) cx (dA ddL7 (i := 36) rfl) (kMI hC hB fun V2 hC hM => ?_)
  refine x_icmp_eq (pc := 589) (tgt := 1950) cx (dA ddL7 (i := 37) rfl) (by decide) (fun _ => ?_) (fun c => absurd rfl c)
  exact x_widen (by omega) (by omega) (K _ _ ⟨_, _, _, hC, hM, hB⟩)
theorem lc_house {Z : zP} {X : xP} {nm : String} {b L : Nat} {xs : Nat → Int32} {Q : State → Prop} {G : zG} {V : zV} {x y j k n : Nat} {D : Int32 → Int32} {vl : Int32 → Nat} (hDr : ∀ d, drw d = D d) (hvl : ∀ d, dvl d = vl d) (hv4 : ∀ d, vl d < 4) (cx : Cx Z X RL nm code 4 ret 12 269366 8294152) (hX : scOK Z X b L xs) (hj : 6 * j + 6 ≤ L) (hk : k + 100 ≤ 269366) (hn : n + 8900 ≤ 8294152) (hI : LI Z G V x y) (K : ∀ G' V', LI Z G' V' x y → Wm Z X 4 G' V' (k + 100) (n + 8900) Q 1950 [(0, some (.ref b)), (1, some (.ref x)), (2, some (.ref y)), (3, some (.int (nI (6 * j))))] []) : Wm Z X 4 G V k n Q 594 [(0, some (.ref b)), (1, some (.ref x)), (2, some (.ref y)), (3, some (.int (nI (6 * j))))] [] := by
  obtain ⟨col, zk, S, hC, hM, hB⟩ := hI
  refine x_aload_n (pc := 594) cx (dA ddL8 (i := 0) rfl) rfl ?_
  refine x_V0 (pc := 595) mL_58 hC.1.1 (c_X7_house hC) cx (dA ddL8 (i := 1) rfl) (kCI hM hB fun G1 V1 col1 hC hM hB => ?_)
  refine x_aload_n (pc := 598) cx (dA ddL8 (i := 2) rfl) rfl ?_
  refine x_V0 (pc := 599) mL_61 hM.1.1 (C_X8_house hM) cx (dA ddL8 (i := 3) rfl) (kMI hC hB fun V2 hC hM => ?_)
  refine x_icmp_eq (pc := 602) (tgt := 1950) cx (dA ddL8 (i := 4) rfl) (by decide) (fun _ => ?_) (fun c => absurd rfl c)
  exact x_widen (by omega) (by omega) (K _ _ ⟨_, _, _, hC, hM, hB⟩)
theorem lc_houseOf {Z : zP} {X : xP} {nm : String} {b L : Nat} {xs : Nat → Int32} {Q : State → Prop} {G : zG} {V : zV} {x y j k n : Nat} {D : Int32 → Int32} {vl : Int32 → Nat} (hDr : ∀ d, drw d = D d) (hvl : ∀ d, dvl d = vl d) (hv4 : ∀ d, vl d < 4) (cx : Cx Z X RL nm code 4 ret 12 269366 8294152) (hX : scOK Z X b L xs) (hj : 6 * j + 6 ≤ L) (hk : k + 100 ≤ 269366) (hn : n + 8900 ≤ 8294152) (hI : LI Z G V x y) (K : ∀ G' V', LI Z G' V' x y → Wm Z X 4 G' V' (k + 100) (n + 8900) Q 1950 [(0, some (.ref b)), (1, some (.ref x)), (2, some (.ref y)), (3, some (.int (nI (6 * j))))] []) : Wm Z X 4 G V k n Q 607 [(0, some (.ref b)), (1, some (.ref x)), (2, some (.ref y)), (3, some (.int (nI (6 * j))))] [] := by
  obtain ⟨col, zk, S, hC, hM, hB⟩ := hI
  refine x_aload_n (pc := 607) cx (dA ddL8 (i := 7) rfl) rfl ?_
  refine x_arg (pc := 608) (q := 1) cx hX (dA ddL8 (i := 8) rfl) (dA ddL8 (i := 9) rfl) (dA ddL8 (i := 10) rfl) (dA ddL8 (i := 11) rfl) (dA ddL8 (i := 12) rfl) (by decide) rfl rfl (by omega) ?_
  refine x_arg (pc := 613) (q := 2) cx hX (dA ddL8 (i := 13) rfl) (dA ddL8 (i := 14) rfl) (dA ddL8 (i := 15) rfl) (dA ddL8 (i := 16) rfl) (dA ddL8 (i := 17) rfl) (by decide) rfl rfl (by omega) ?_
  refine x_V2 (pc := 618) mL_62 hC.1.1 (c_X7_houseOf hC) cx (dA ddL8 (i := 18) rfl) (kCI hM hB fun G1 V1 col1 hC hM hB => ?_)
  refine x_aload_n (pc := 621) cx (dA ddL8 (i := 19) rfl) rfl ?_
  refine x_arg (pc := 622) (q := 1) cx hX (dA ddL8 (i := 20) rfl) (dA ddL8 (i := 21) rfl) (dA ddL8 (i := 22) rfl) (dA ddL8 (i := 23) rfl) (dA ddL8 (i := 24) rfl) (by decide) rfl rfl (by omega) ?_
  refine x_arg (pc := 627) (q := 2) cx hX (dA ddL8 (i := 25) rfl) (dA ddL8 (i := 26) rfl) (dA ddL8 (i := 27) rfl) (dA ddL8 (i := 28) rfl) (dA ddL8 (i := 29) rfl) (by decide) rfl rfl (by omega) ?_
  refine x_V2 (pc := 632) mL_65 hM.1.1 (c_X8_houseOf hM) cx (dA ddL8 (i := 30) rfl) (kMI hC hB fun V2 hC hM => ?_)
  refine x_icmp_eq (pc := 635) (tgt := 1950) cx (dA ddL8 (i := 31) rfl) (by decide) (fun _ => ?_) (fun c => absurd rfl c)
  exact x_widen (by omega) (by omega) (K _ _ ⟨_, _, _, hC, hM, hB⟩)
theorem lc_sortOf {Z : zP} {X : xP} {nm : String} {b L : Nat} {xs : Nat → Int32} {Q : State → Prop} {G : zG} {V : zV} {x y j k n : Nat} {D : Int32 → Int32} {vl : Int32 → Nat} (hDr : ∀ d, drw d = D d) (hvl : ∀ d, dvl d = vl d) (hv4 : ∀ d, vl d < 4) (cx : Cx Z X RL nm code 4 ret 12 269366 8294152) (hX : scOK Z X b L xs) (hj : 6 * j + 6 ≤ L) (hk : k + 100 ≤ 269366) (hn : n + 8900 ≤ 8294152) (hI : LI Z G V x y) (K : ∀ G' V', LI Z G' V' x y → Wm Z X 4 G' V' (k + 100) (n + 8900) Q 1950 [(0, some (.ref b)), (1, some (.ref x)), (2, some (.ref y)), (3, some (.int (nI (6 * j))))] []) : Wm Z X 4 G V k n Q 640 [(0, some (.ref b)), (1, some (.ref x)), (2, some (.ref y)), (3, some (.int (nI (6 * j))))] [] := by
  obtain ⟨col, zk, S, hC, hM, hB⟩ := hI
  refine x_aload_n (pc := 640) cx (dA ddL8 (i := 34) rfl) rfl ?_
  refine x_arg (pc := 641) (q := 1) cx hX (dA ddL8 (i := 35) rfl) (dA ddL8 (i := 36) rfl) (dA ddL8 (i := 37) rfl) (dA ddL8 (i := 38) rfl) (dA ddL8 (i := 39) rfl) (by decide) rfl rfl (by omega) ?_
  refine x_arg (pc := 646) (q := 2) cx hX (dA ddL9 (i := 0) rfl) (dA ddL9 (i := 1) rfl) (dA ddL9 (i := 2) rfl) (dA ddL9 (i := 3) rfl) (dA ddL9 (i := 4) rfl) (by decide) rfl rfl (by omega) ?_
  refine x_arg (pc := 651) (q := 3) cx hX (dA ddL9 (i := 5) rfl) (dA ddL9 (i := 6) rfl) (dA ddL9 (i := 7) rfl) (dA ddL9 (i := 8) rfl) (dA ddL9 (i := 9) rfl) (by decide) rfl rfl (by omega) ?_
  refine x_V3 (pc := 656) mL_66 hC.1.1 (c_X7_sortOf hC) cx (dA ddL9 (i := 10) rfl) (kCI hM hB fun G1 V1 col1 hC hM hB => ?_)
  refine x_aload_n (pc := 659) cx (dA ddL9 (i := 11) rfl) rfl ?_
  refine x_arg (pc := 660) (q := 1) cx hX (dA ddL9 (i := 12) rfl) (dA ddL9 (i := 13) rfl) (dA ddL9 (i := 14) rfl) (dA ddL9 (i := 15) rfl) (dA ddL9 (i := 16) rfl) (by decide) rfl rfl (by omega) ?_
  refine x_arg (pc := 665) (q := 2) cx hX (dA ddL9 (i := 17) rfl) (dA ddL9 (i := 18) rfl) (dA ddL9 (i := 19) rfl) (dA ddL9 (i := 20) rfl) (dA ddL9 (i := 21) rfl) (by decide) rfl rfl (by omega) ?_
  refine x_arg (pc := 670) (q := 3) cx hX (dA ddL9 (i := 22) rfl) (dA ddL9 (i := 23) rfl) (dA ddL9 (i := 24) rfl) (dA ddL9 (i := 25) rfl) (dA ddL9 (i := 26) rfl) (by decide) rfl rfl (by omega) ?_
  refine x_V3 (pc := 675) mL_69 hM.1.1 (c_X8_sortOf hM) cx (dA ddL9 (i := 27) rfl) (kMI hC hB fun V2 hC hM => ?_)
  refine x_icmp_eq (pc := 678) (tgt := 1950) cx (dA ddL9 (i := 28) rfl) (by decide) (fun _ => ?_) (fun c => absurd rfl c)
  exact x_widen (by omega) (by omega) (K _ _ ⟨_, _, _, hC, hM, hB⟩)
theorem lc_alter {Z : zP} {X : xP} {nm : String} {b L : Nat} {xs : Nat → Int32} {Q : State → Prop} {G : zG} {V : zV} {x y j k n : Nat} {D : Int32 → Int32} {vl : Int32 → Nat} (hDr : ∀ d, drw d = D d) (hvl : ∀ d, dvl d = vl d) (hv4 : ∀ d, vl d < 4) (cx : Cx Z X RL nm code 4 ret 12 269366 8294152) (hX : scOK Z X b L xs) (hj : 6 * j + 6 ≤ L) (hk : k + 100 ≤ 269366) (hn : n + 8900 ≤ 8294152) (hI : LI Z G V x y) (K : ∀ G' V', LI Z G' V' x y → Wm Z X 4 G' V' (k + 100) (n + 8900) Q 1950 [(0, some (.ref b)), (1, some (.ref x)), (2, some (.ref y)), (3, some (.int (nI (6 * j))))] []) : Wm Z X 4 G V k n Q 683 [(0, some (.ref b)), (1, some (.ref x)), (2, some (.ref y)), (3, some (.int (nI (6 * j))))] [] := by
  obtain ⟨col, zk, S, hC, hM, hB⟩ := hI
  refine x_aload_n (pc := 683) cx (dA ddL9 (i := 31) rfl) rfl ?_
  refine x_arg (pc := 684) (q := 1) cx hX (dA ddL9 (i := 32) rfl) (dA ddL9 (i := 33) rfl) (dA ddL9 (i := 34) rfl) (dA ddL9 (i := 35) rfl) (dA ddL9 (i := 36) rfl) (by decide) rfl rfl (by omega) ?_
  refine x_arg (pc := 689) (q := 2) cx hX (dA ddL9 (i := 37) rfl) (dA ddL9 (i := 38) rfl) (dA ddL9 (i := 39) rfl) (dA ddL10 (i := 0) rfl) (dA ddL10 (i := 1) rfl) (by decide) rfl rfl (by omega) ?_
  refine x_arg (pc := 694) (q := 3) cx hX (dA ddL10 (i := 2) rfl) (dA ddL10 (i := 3) rfl) (dA ddL10 (i := 4) rfl) (dA ddL10 (i := 5) rfl) (dA ddL10 (i := 6) rfl) (by decide) rfl rfl (by omega) ?_
  refine x_V3 (pc := 699) mL_70 hC.1.1 (c_X7_alter hC) cx (dA ddL10 (i := 7) rfl) (kCI hM hB fun G1 V1 col1 hC hM hB => ?_)
  refine x_aload_n (pc := 702) cx (dA ddL10 (i := 8) rfl) rfl ?_
  refine x_arg (pc := 703) (q := 1) cx hX (dA ddL10 (i := 9) rfl) (dA ddL10 (i := 10) rfl) (dA ddL10 (i := 11) rfl) (dA ddL10 (i := 12) rfl) (dA ddL10 (i := 13) rfl) (by decide) rfl rfl (by omega) ?_
  refine x_arg (pc := 708) (q := 2) cx hX (dA ddL10 (i := 14) rfl) (dA ddL10 (i := 15) rfl) (dA ddL10 (i := 16) rfl) (dA ddL10 (i := 17) rfl) (dA ddL10 (i := 18) rfl) (by decide) rfl rfl (by omega) ?_
  refine x_arg (pc := 713) (q := 3) cx hX (dA ddL10 (i := 19) rfl) (dA ddL10 (i := 20) rfl) (dA ddL10 (i := 21) rfl) (dA ddL10 (i := 22) rfl) (dA ddL10 (i := 23) rfl) (by decide) rfl rfl (by omega) ?_
  refine x_V3 (pc := 718) mL_73 hM.1.1 (c_X8_alter hM) cx (dA ddL10 (i := 24) rfl) (kMI hC hB fun V2 hC hM => ?_)
  refine x_icmp_eq (pc := 721) (tgt := 1950) cx (dA ddL10 (i := 25) rfl) (by decide) (fun _ => ?_) (fun c => absurd rfl c)
  exact x_widen (by omega) (by omega) (K _ _ ⟨_, _, _, hC, hM, hB⟩)
theorem lc_change {Z : zP} {X : xP} {nm : String} {b L : Nat} {xs : Nat → Int32} {Q : State → Prop} {G : zG} {V : zV} {x y j k n : Nat} {D : Int32 → Int32} {vl : Int32 → Nat} (hDr : ∀ d, drw d = D d) (hvl : ∀ d, dvl d = vl d) (hv4 : ∀ d, vl d < 4) (cx : Cx Z X RL nm code 4 ret 12 269366 8294152) (hX : scOK Z X b L xs) (hj : 6 * j + 6 ≤ L) (hk : k + 100 ≤ 269366) (hn : n + 8900 ≤ 8294152) (hI : LI Z G V x y) (K : ∀ G' V', LI Z G' V' x y → Wm Z X 4 G' V' (k + 100) (n + 8900) Q 1950 [(0, some (.ref b)), (1, some (.ref x)), (2, some (.ref y)), (3, some (.int (nI (6 * j))))] []) : Wm Z X 4 G V k n Q 726 [(0, some (.ref b)), (1, some (.ref x)), (2, some (.ref y)), (3, some (.int (nI (6 * j))))] [] := by
  obtain ⟨col, zk, S, hC, hM, hB⟩ := hI
  refine x_aload_n (pc := 726) cx (dA ddL10 (i := 28) rfl) rfl ?_
  refine x_arg (pc := 727) (q := 1) cx hX (dA ddL10 (i := 29) rfl) (dA ddL10 (i := 30) rfl) (dA ddL10 (i := 31) rfl) (dA ddL10 (i := 32) rfl) (dA ddL10 (i := 33) rfl) (by decide) rfl rfl (by omega) ?_
  refine x_arg (pc := 732) (q := 2) cx hX (dA ddL10 (i := 34) rfl) (dA ddL10 (i := 35) rfl) (dA ddL10 (i := 36) rfl) (dA ddL10 (i := 37) rfl) (dA ddL10 (i := 38) rfl) (by decide) rfl rfl (by omega) ?_
  refine x_arg (pc := 737) (q := 3) cx hX (dA ddL10 (i := 39) rfl) (dA ddL11 (i := 0) rfl) (dA ddL11 (i := 1) rfl) (dA ddL11 (i := 2) rfl) (dA ddL11 (i := 3) rfl) (by decide) rfl rfl (by omega) ?_
  refine x_arg (pc := 742) (q := 4) cx hX (dA ddL11 (i := 4) rfl) (dA ddL11 (i := 5) rfl) (dA ddL11 (i := 6) rfl) (dA ddL11 (i := 7) rfl) (dA ddL11 (i := 8) rfl) (by decide) rfl rfl (by omega) ?_
  refine x_V4 (pc := 747) mL_74 hC.1.1 (c_X7_change hC) cx (dA ddL11 (i := 9) rfl) (kCI hM hB fun G1 V1 col1 hC hM hB => ?_)
  refine x_aload_n (pc := 750) cx (dA ddL11 (i := 10) rfl) rfl ?_
  refine x_arg (pc := 751) (q := 1) cx hX (dA ddL11 (i := 11) rfl) (dA ddL11 (i := 12) rfl) (dA ddL11 (i := 13) rfl) (dA ddL11 (i := 14) rfl) (dA ddL11 (i := 15) rfl) (by decide) rfl rfl (by omega) ?_
  refine x_arg (pc := 756) (q := 2) cx hX (dA ddL11 (i := 16) rfl) (dA ddL11 (i := 17) rfl) (dA ddL11 (i := 18) rfl) (dA ddL11 (i := 19) rfl) (dA ddL11 (i := 20) rfl) (by decide) rfl rfl (by omega) ?_
  refine x_arg (pc := 761) (q := 3) cx hX (dA ddL11 (i := 21) rfl) (dA ddL11 (i := 22) rfl) (dA ddL11 (i := 23) rfl) (dA ddL11 (i := 24) rfl) (dA ddL11 (i := 25) rfl) (by decide) rfl rfl (by omega) ?_
  refine x_arg (pc := 766) (q := 4) cx hX (dA ddL11 (i := 26) rfl) (dA ddL11 (i := 27) rfl) (dA ddL11 (i := 28) rfl) (dA ddL11 (i := 29) rfl) (dA ddL11 (i := 30) rfl) (by decide) rfl rfl (by omega) ?_
  refine x_V4 (pc := 771) mL_78 hM.1.1 (c_X8_change hM) cx (dA ddL11 (i := 31) rfl) (kMI hC hB fun V2 hC hM => ?_)
  refine x_icmp_eq (pc := 774) (tgt := 1950) cx (dA ddL11 (i := 32) rfl) (by decide) (fun _ => ?_) (fun c => absurd rfl c)
  exact x_widen (by omega) (by omega) (K _ _ ⟨_, _, _, hC, hM, hB⟩)
theorem lc_of {Z : zP} {X : xP} {nm : String} {b L : Nat} {xs : Nat → Int32} {Q : State → Prop} {G : zG} {V : zV} {x y j k n : Nat} {D : Int32 → Int32} {vl : Int32 → Nat} (hDr : ∀ d, drw d = D d) (hvl : ∀ d, dvl d = vl d) (hv4 : ∀ d, vl d < 4) (cx : Cx Z X RL nm code 4 ret 12 269366 8294152) (hX : scOK Z X b L xs) (hj : 6 * j + 6 ≤ L) (hk : k + 100 ≤ 269366) (hn : n + 8900 ≤ 8294152) (hI : LI Z G V x y) (K : ∀ G' V', LI Z G' V' x y → Wm Z X 4 G' V' (k + 100) (n + 8900) Q 1950 [(0, some (.ref b)), (1, some (.ref x)), (2, some (.ref y)), (3, some (.int (nI (6 * j))))] []) : Wm Z X 4 G V k n Q 779 [(0, some (.ref b)), (1, some (.ref x)), (2, some (.ref y)), (3, some (.int (nI (6 * j))))] [] := by
  obtain ⟨col, zk, S, hC, hM, hB⟩ := hI
  refine x_aload_n (pc := 779) cx (dA ddL11 (i := 35) rfl) rfl ?_
  refine x_arg (pc := 780) (q := 1) cx hX (dA ddL11 (i := 36) rfl) (dA ddL11 (i := 37) rfl) (dA ddL11 (i := 38) rfl) (dA ddL11 (i := 39) rfl) (dA ddL12 (i := 0) rfl) (by decide) rfl rfl (by omega) ?_
  refine x_arg (pc := 785) (q := 2) cx hX (dA ddL12 (i := 1) rfl) (dA ddL12 (i := 2) rfl) (dA ddL12 (i := 3) rfl) (dA ddL12 (i := 4) rfl) (dA ddL12 (i := 5) rfl) (by decide) rfl rfl (by omega) ?_
  refine x_V2 (pc := 790) mL_79 hC.1.1 (c_X7_of hC) cx (dA ddL12 (i := 6) rfl) (kCI hM hB fun G1 V1 col1 hC hM hB => ?_)
  refine x_aload_n (pc := 793) cx (dA ddL12 (i := 7) rfl) rfl ?_
  refine x_arg (pc := 794) (q := 1) cx hX (dA ddL12 (i := 8) rfl) (dA ddL12 (i := 9) rfl) (dA ddL12 (i := 10) rfl) (dA ddL12 (i := 11) rfl) (dA ddL12 (i := 12) rfl) (by decide) rfl rfl (by omega) ?_
  refine x_arg (pc := 799) (q := 2) cx hX (dA ddL12 (i := 13) rfl) (dA ddL12 (i := 14) rfl) (dA ddL12 (i := 15) rfl) (dA ddL12 (i := 16) rfl) (dA ddL12 (i := 17) rfl) (by decide) rfl rfl (by omega) ?_
  refine x_V2 (pc := 804) mL_82 hM.1.1 (c_X8_of hM) cx (dA ddL12 (i := 18) rfl) (kMI hC hB fun V2 hC hM => ?_)
  refine x_icmp_eq (pc := 807) (tgt := 1950) cx (dA ddL12 (i := 19) rfl) (by decide) (fun _ => ?_) (fun c => absurd rfl c)
  exact x_widen (by omega) (by omega) (K _ _ ⟨_, _, _, hC, hM, hB⟩)
theorem lc_space {Z : zP} {X : xP} {nm : String} {b L : Nat} {xs : Nat → Int32} {Q : State → Prop} {G : zG} {V : zV} {x y j k n : Nat} {D : Int32 → Int32} {vl : Int32 → Nat} (hDr : ∀ d, drw d = D d) (hvl : ∀ d, dvl d = vl d) (hv4 : ∀ d, vl d < 4) (cx : Cx Z X RL nm code 4 ret 12 269366 8294152) (hX : scOK Z X b L xs) (hj : 6 * j + 6 ≤ L) (hk : k + 100 ≤ 269366) (hn : n + 8900 ≤ 8294152) (hI : LI Z G V x y) (K : ∀ G' V', LI Z G' V' x y → Wm Z X 4 G' V' (k + 100) (n + 8900) Q 1950 [(0, some (.ref b)), (1, some (.ref x)), (2, some (.ref y)), (3, some (.int (nI (6 * j))))] []) : Wm Z X 4 G V k n Q 812 [(0, some (.ref b)), (1, some (.ref x)), (2, some (.ref y)), (3, some (.int (nI (6 * j))))] [] := by
  obtain ⟨col, zk, S, hC, hM, hB⟩ := hI
  refine x_aload_n (pc := 812) cx (dA ddL12 (i := 22) rfl) rfl ?_
  refine x_arg (pc := 813) (q := 1) cx hX (dA ddL12 (i := 23) rfl) (dA ddL12 (i := 24) rfl) (dA ddL12 (i := 25) rfl) (dA ddL12 (i := 26) rfl) (dA ddL12 (i := 27) rfl) (by decide) rfl rfl (by omega) ?_
  refine x_arg (pc := 818) (q := 2) cx hX (dA ddL12 (i := 28) rfl) (dA ddL12 (i := 29) rfl) (dA ddL12 (i := 30) rfl) (dA ddL12 (i := 31) rfl) (dA ddL12 (i := 32) rfl) (by decide) rfl rfl (by omega) ?_
  refine x_V2 (pc := 823) mL_83 hC.1.1 (c_X7_space hC) cx (dA ddL12 (i := 33) rfl) (kCI hM hB fun G1 V1 col1 hC hM hB => ?_)
  refine x_aload_n (pc := 826) cx (dA ddL12 (i := 34) rfl) rfl ?_
  refine x_arg (pc := 827) (q := 1) cx hX (dA ddL12 (i := 35) rfl) (dA ddL12 (i := 36) rfl) (dA ddL12 (i := 37) rfl) (dA ddL12 (i := 38) rfl) (dA ddL12 (i := 39) rfl) (by decide) rfl rfl (by omega) ?_
  refine x_arg (pc := 832) (q := 2) cx hX (dA ddL13 (i := 0) rfl) (dA ddL13 (i := 1) rfl) (dA ddL13 (i := 2) rfl) (dA ddL13 (i := 3) rfl) (dA ddL13 (i := 4) rfl) (by decide) rfl rfl (by omega) ?_
  refine x_V2 (pc := 837) mL_86 hM.1.1 (c_X8_space hM) cx (dA ddL13 (i := 5) rfl) (kMI hC hB fun V2 hC hM => ?_)
  refine x_icmp_eq (pc := 840) (tgt := 1950) cx (dA ddL13 (i := 6) rfl) (by decide) (fun _ => ?_) (fun c => absurd rfl c)
  exact x_widen (by omega) (by omega) (K _ _ ⟨_, _, _, hC, hM, hB⟩)
theorem lc_scale {Z : zP} {X : xP} {nm : String} {b L : Nat} {xs : Nat → Int32} {Q : State → Prop} {G : zG} {V : zV} {x y j k n : Nat} {D : Int32 → Int32} {vl : Int32 → Nat} (hDr : ∀ d, drw d = D d) (hvl : ∀ d, dvl d = vl d) (hv4 : ∀ d, vl d < 4) (cx : Cx Z X RL nm code 4 ret 12 269366 8294152) (hX : scOK Z X b L xs) (hj : 6 * j + 6 ≤ L) (hk : k + 100 ≤ 269366) (hn : n + 8900 ≤ 8294152) (hI : LI Z G V x y) (K : ∀ G' V', LI Z G' V' x y → Wm Z X 4 G' V' (k + 100) (n + 8900) Q 1950 [(0, some (.ref b)), (1, some (.ref x)), (2, some (.ref y)), (3, some (.int (nI (6 * j))))] []) : Wm Z X 4 G V k n Q 845 [(0, some (.ref b)), (1, some (.ref x)), (2, some (.ref y)), (3, some (.int (nI (6 * j))))] [] := by
  obtain ⟨col, zk, S, hC, hM, hB⟩ := hI
  refine x_aload_n (pc := 845) cx (dA ddL13 (i := 9) rfl) rfl ?_
  refine x_arg (pc := 846) (q := 1) cx hX (dA ddL13 (i := 10) rfl) (dA ddL13 (i := 11) rfl) (dA ddL13 (i := 12) rfl) (dA ddL13 (i := 13) rfl) (dA ddL13 (i := 14) rfl) (by decide) rfl rfl (by omega) ?_
  refine x_arg (pc := 851) (q := 2) cx hX (dA ddL13 (i := 15) rfl) (dA ddL13 (i := 16) rfl) (dA ddL13 (i := 17) rfl) (dA ddL13 (i := 18) rfl) (dA ddL13 (i := 19) rfl) (by decide) rfl rfl (by omega) ?_
  refine x_V2 (pc := 856) mL_87 hC.1.1 (c_X7_scale hC) cx (dA ddL13 (i := 20) rfl) (kCJ hM hB fun G1 V1 col1 hC hM hB => ?_)
  refine x_aload_n (pc := 859) cx (dA ddL13 (i := 21) rfl) rfl ?_
  refine x_arg (pc := 860) (q := 1) cx hX (dA ddL13 (i := 22) rfl) (dA ddL13 (i := 23) rfl) (dA ddL13 (i := 24) rfl) (dA ddL13 (i := 25) rfl) (dA ddL13 (i := 26) rfl) (by decide) rfl rfl (by omega) ?_
  refine x_arg (pc := 865) (q := 2) cx hX (dA ddL13 (i := 27) rfl) (dA ddL13 (i := 28) rfl) (dA ddL13 (i := 29) rfl) (dA ddL13 (i := 30) rfl) (dA ddL13 (i := 31) rfl) (by decide) rfl rfl (by omega) ?_
  refine x_V2 (pc := 870) mL_90 hM.1.1 (c_X8_scale hM) cx (dA ddL13 (i := 32) rfl) (kMJ hC hB fun V2 hC hM => ?_)
  refine x_lc_eq (pc := 873) (tgt := 1950) cx (dA ddL13 (i := 33) rfl) (dA ddL13 (i := 34) rfl) (by decide) (fun _ => ?_) (fun c => absurd rfl c)
  exact x_widen (by omega) (by omega) (K _ _ ⟨_, _, _, hC, hM, hB⟩)
theorem lc_cost {Z : zP} {X : xP} {nm : String} {b L : Nat} {xs : Nat → Int32} {Q : State → Prop} {G : zG} {V : zV} {x y j k n : Nat} {D : Int32 → Int32} {vl : Int32 → Nat} (hDr : ∀ d, drw d = D d) (hvl : ∀ d, dvl d = vl d) (hv4 : ∀ d, vl d < 4) (cx : Cx Z X RL nm code 4 ret 12 269366 8294152) (hX : scOK Z X b L xs) (hj : 6 * j + 6 ≤ L) (hk : k + 100 ≤ 269366) (hn : n + 8900 ≤ 8294152) (hI : LI Z G V x y) (K : ∀ G' V', LI Z G' V' x y → Wm Z X 4 G' V' (k + 100) (n + 8900) Q 1950 [(0, some (.ref b)), (1, some (.ref x)), (2, some (.ref y)), (3, some (.int (nI (6 * j))))] []) : Wm Z X 4 G V k n Q 879 [(0, some (.ref b)), (1, some (.ref x)), (2, some (.ref y)), (3, some (.int (nI (6 * j))))] [] := by
  obtain ⟨col, zk, S, hC, hM, hB⟩ := hI
  refine x_aload_n (pc := 879) cx (dA ddL13 (i := 37) rfl) rfl ?_
  refine x_arg (pc := 880) (q := 1) cx hX (dA ddL13 (i := 38) rfl) (dA ddL13 (i := 39) rfl) (dA ddL14 (i := 0) rfl) (dA ddL14 (i := 1) rfl) (dA ddL14 (i := 2) rfl) (by decide) rfl rfl (by omega) ?_
  refine x_arg (pc := 885) (q := 2) cx hX (dA ddL14 (i := 3) rfl) (dA ddL14 (i := 4) rfl) (dA ddL14 (i := 5) rfl) (dA ddL14 (i := 6) rfl) (dA ddL14 (i := 7) rfl) (by decide) rfl rfl (by omega) ?_
  refine x_arg (pc := 890) (q := 3) cx hX (dA ddL14 (i := 8) rfl) (dA ddL14 (i := 9) rfl) (dA ddL14 (i := 10) rfl) (dA ddL14 (i := 11) rfl) (dA ddL14 (i := 12) rfl) (by decide) rfl rfl (by omega) ?_
  refine x_V3 (pc := 895) mL_91 hC.1.1 (c_X7_cost hC) cx (dA ddL14 (i := 13) rfl) (kCJ hM hB fun G1 V1 col1 hC hM hB => ?_)
  refine x_aload_n (pc := 898) cx (dA ddL14 (i := 14) rfl) rfl ?_
  refine x_arg (pc := 899) (q := 1) cx hX (dA ddL14 (i := 15) rfl) (dA ddL14 (i := 16) rfl) (dA ddL14 (i := 17) rfl) (dA ddL14 (i := 18) rfl) (dA ddL14 (i := 19) rfl) (by decide) rfl rfl (by omega) ?_
  refine x_arg (pc := 904) (q := 2) cx hX (dA ddL14 (i := 20) rfl) (dA ddL14 (i := 21) rfl) (dA ddL14 (i := 22) rfl) (dA ddL14 (i := 23) rfl) (dA ddL14 (i := 24) rfl) (by decide) rfl rfl (by omega) ?_
  refine x_arg (pc := 909) (q := 3) cx hX (dA ddL14 (i := 25) rfl) (dA ddL14 (i := 26) rfl) (dA ddL14 (i := 27) rfl) (dA ddL14 (i := 28) rfl) (dA ddL14 (i := 29) rfl) (by decide) rfl rfl (by omega) ?_
  refine x_V3 (pc := 914) mL_95 hM.1.1 (c_X8_cost hM) cx (dA ddL14 (i := 30) rfl) (kMJ hC hB fun V2 hC hM => ?_)
  refine x_lc_eq (pc := 917) (tgt := 1950) cx (dA ddL14 (i := 31) rfl) (dA ddL14 (i := 32) rfl) (by decide) (fun _ => ?_) (fun c => absurd rfl c)
  exact x_widen (by omega) (by omega) (K _ _ ⟨_, _, _, hC, hM, hB⟩)
theorem lc_best {Z : zP} {X : xP} {nm : String} {b L : Nat} {xs : Nat → Int32} {Q : State → Prop} {G : zG} {V : zV} {x y j k n : Nat} {D : Int32 → Int32} {vl : Int32 → Nat} (hDr : ∀ d, drw d = D d) (hvl : ∀ d, dvl d = vl d) (hv4 : ∀ d, vl d < 4) (cx : Cx Z X RL nm code 4 ret 12 269366 8294152) (hX : scOK Z X b L xs) (hj : 6 * j + 6 ≤ L) (hk : k + 100 ≤ 269366) (hn : n + 8900 ≤ 8294152) (hI : LI Z G V x y) (K : ∀ G' V', LI Z G' V' x y → Wm Z X 4 G' V' (k + 100) (n + 8900) Q 1950 [(0, some (.ref b)), (1, some (.ref x)), (2, some (.ref y)), (3, some (.int (nI (6 * j))))] []) : Wm Z X 4 G V k n Q 923 [(0, some (.ref b)), (1, some (.ref x)), (2, some (.ref y)), (3, some (.int (nI (6 * j))))] [] := by
  obtain ⟨col, zk, S, hC, hM, hB⟩ := hI
  refine x_aload_n (pc := 923) cx (dA ddL14 (i := 35) rfl) rfl ?_
  refine x_arg (pc := 924) (q := 1) cx hX (dA ddL14 (i := 36) rfl) (dA ddL14 (i := 37) rfl) (dA ddL14 (i := 38) rfl) (dA ddL14 (i := 39) rfl) (dA ddL15 (i := 0) rfl) (by decide) rfl rfl (by omega) ?_
  refine x_arg (pc := 929) (q := 2) cx hX (dA ddL15 (i := 1) rfl) (dA ddL15 (i := 2) rfl) (dA ddL15 (i := 3) rfl) (dA ddL15 (i := 4) rfl) (dA ddL15 (i := 5) rfl) (by decide) rfl rfl (by omega) ?_
  refine x_arg (pc := 934) (q := 3) cx hX (dA ddL15 (i := 6) rfl) (dA ddL15 (i := 7) rfl) (dA ddL15 (i := 8) rfl) (dA ddL15 (i := 9) rfl) (dA ddL15 (i := 10) rfl) (by decide) rfl rfl (by omega) ?_
  refine x_V3 (pc := 939) mL_96 hC.1.1 (c_X7_best hC) cx (dA ddL15 (i := 11) rfl) (kCI hM hB fun G1 V1 col1 hC hM hB => ?_)
  refine x_aload_n (pc := 942) cx (dA ddL15 (i := 12) rfl) rfl ?_
  refine x_arg (pc := 943) (q := 1) cx hX (dA ddL15 (i := 13) rfl) (dA ddL15 (i := 14) rfl) (dA ddL15 (i := 15) rfl) (dA ddL15 (i := 16) rfl) (dA ddL15 (i := 17) rfl) (by decide) rfl rfl (by omega) ?_
  refine x_arg (pc := 948) (q := 2) cx hX (dA ddL15 (i := 18) rfl) (dA ddL15 (i := 19) rfl) (dA ddL15 (i := 20) rfl) (dA ddL15 (i := 21) rfl) (dA ddL15 (i := 22) rfl) (by decide) rfl rfl (by omega) ?_
  refine x_arg (pc := 953) (q := 3) cx hX (dA ddL15 (i := 23) rfl) (dA ddL15 (i := 24) rfl) (dA ddL15 (i := 25) rfl) (dA ddL15 (i := 26) rfl) (dA ddL15 (i := 27) rfl) (by decide) rfl rfl (by omega) ?_
  refine x_V3 (pc := 958) mL_99 hM.1.1 (c_X8_best hM) cx (dA ddL15 (i := 28) rfl) (kMI hC hB fun V2 hC hM => ?_)
  refine x_icmp_eq (pc := 961) (tgt := 1950) cx (dA ddL15 (i := 29) rfl) (by decide) (fun _ => ?_) (fun c => absurd rfl c)
  exact x_widen (by omega) (by omega) (K _ _ ⟨_, _, _, hC, hM, hB⟩)
theorem lc_fill {Z : zP} {X : xP} {nm : String} {b L : Nat} {xs : Nat → Int32} {Q : State → Prop} {G : zG} {V : zV} {x y j k n : Nat} {D : Int32 → Int32} {vl : Int32 → Nat} (hDr : ∀ d, drw d = D d) (hvl : ∀ d, dvl d = vl d) (hv4 : ∀ d, vl d < 4) (cx : Cx Z X RL nm code 4 ret 12 269366 8294152) (hX : scOK Z X b L xs) (hj : 6 * j + 6 ≤ L) (hk : k + 100 ≤ 269366) (hn : n + 8900 ≤ 8294152) (hI : LI Z G V x y) (K : ∀ G' V', LI Z G' V' x y → Wm Z X 4 G' V' (k + 100) (n + 8900) Q 1950 [(0, some (.ref b)), (1, some (.ref x)), (2, some (.ref y)), (3, some (.int (nI (6 * j))))] []) : Wm Z X 4 G V k n Q 966 [(0, some (.ref b)), (1, some (.ref x)), (2, some (.ref y)), (3, some (.int (nI (6 * j))))] [] := by
  obtain ⟨col, zk, S, hC, hM, hB⟩ := hI
  refine x_aload_n (pc := 966) cx (dA ddL15 (i := 32) rfl) rfl ?_
  refine x_arg (pc := 967) (q := 1) cx hX (dA ddL15 (i := 33) rfl) (dA ddL15 (i := 34) rfl) (dA ddL15 (i := 35) rfl) (dA ddL15 (i := 36) rfl) (dA ddL15 (i := 37) rfl) (by decide) rfl rfl (by omega) ?_
  refine x_arg (pc := 972) (q := 2) cx hX (dA ddL15 (i := 38) rfl) (dA ddL15 (i := 39) rfl) (dA ddL16 (i := 0) rfl) (dA ddL16 (i := 1) rfl) (dA ddL16 (i := 2) rfl) (by decide) rfl rfl (by omega) ?_
  refine x_V2 (pc := 977) mL_100 hC.1.1 (c_X7_fill hC) cx (dA ddL16 (i := 3) rfl) (kCI hM hB fun G1 V1 col1 hC hM hB => ?_)
  refine x_aload_n (pc := 980) cx (dA ddL16 (i := 4) rfl) rfl ?_
  refine x_arg (pc := 981) (q := 1) cx hX (dA ddL16 (i := 5) rfl) (dA ddL16 (i := 6) rfl) (dA ddL16 (i := 7) rfl) (dA ddL16 (i := 8) rfl) (dA ddL16 (i := 9) rfl) (by decide) rfl rfl (by omega) ?_
  refine x_arg (pc := 986) (q := 2) cx hX (dA ddL16 (i := 10) rfl) (dA ddL16 (i := 11) rfl) (dA ddL16 (i := 12) rfl) (dA ddL16 (i := 13) rfl) (dA ddL16 (i := 14) rfl) (by decide) rfl rfl (by omega) ?_
  refine x_V2 (pc := 991) mL_103 hM.1.1 (c_X8_fill hM) cx (dA ddL16 (i := 15) rfl) (kMI hC hB fun V2 hC hM => ?_)
  refine x_icmp_eq (pc := 994) (tgt := 1950) cx (dA ddL16 (i := 16) rfl) (by decide) (fun _ => ?_) (fun c => absurd rfl c)
  exact x_widen (by omega) (by omega) (K _ _ ⟨_, _, _, hC, hM, hB⟩)
theorem lc_load {Z : zP} {X : xP} {nm : String} {b L : Nat} {xs : Nat → Int32} {Q : State → Prop} {G : zG} {V : zV} {x y j k n : Nat} {D : Int32 → Int32} {vl : Int32 → Nat} (hDr : ∀ d, drw d = D d) (hvl : ∀ d, dvl d = vl d) (hv4 : ∀ d, vl d < 4) (cx : Cx Z X RL nm code 4 ret 12 269366 8294152) (hX : scOK Z X b L xs) (hj : 6 * j + 6 ≤ L) (hk : k + 100 ≤ 269366) (hn : n + 8900 ≤ 8294152) (hI : LI Z G V x y) (K : ∀ G' V', LI Z G' V' x y → Wm Z X 4 G' V' (k + 100) (n + 8900) Q 1950 [(0, some (.ref b)), (1, some (.ref x)), (2, some (.ref y)), (3, some (.int (nI (6 * j))))] []) : Wm Z X 4 G V k n Q 999 [(0, some (.ref b)), (1, some (.ref x)), (2, some (.ref y)), (3, some (.int (nI (6 * j))))] [] := by
  obtain ⟨col, zk, S, hC, hM, hB⟩ := hI
  refine x_aload_n (pc := 999) cx (dA ddL16 (i := 19) rfl) rfl ?_
  refine x_arg (pc := 1000) (q := 1) cx hX (dA ddL16 (i := 20) rfl) (dA ddL16 (i := 21) rfl) (dA ddL16 (i := 22) rfl) (dA ddL16 (i := 23) rfl) (dA ddL16 (i := 24) rfl) (by decide) rfl rfl (by omega) ?_
  refine x_arg (pc := 1005) (q := 2) cx hX (dA ddL16 (i := 25) rfl) (dA ddL16 (i := 26) rfl) (dA ddL16 (i := 27) rfl) (dA ddL16 (i := 28) rfl) (dA ddL16 (i := 29) rfl) (by decide) rfl rfl (by omega) ?_
  refine x_arg (pc := 1010) (q := 3) cx hX (dA ddL16 (i := 30) rfl) (dA ddL16 (i := 31) rfl) (dA ddL16 (i := 32) rfl) (dA ddL16 (i := 33) rfl) (dA ddL16 (i := 34) rfl) (by decide) rfl rfl (by omega) ?_
  refine x_arg (pc := 1015) (q := 4) cx hX (dA ddL16 (i := 35) rfl) (dA ddL16 (i := 36) rfl) (dA ddL16 (i := 37) rfl) (dA ddL16 (i := 38) rfl) (dA ddL16 (i := 39) rfl) (by decide) rfl rfl (by omega) ?_
  refine x_V4 (pc := 1020) mL_104 hC.1.1 (c_X7_load hC) cx (dA ddL17 (i := 0) rfl) (kCI hM hB fun G1 V1 col1 hC hM hB => ?_)
  refine x_aload_n (pc := 1023) cx (dA ddL17 (i := 1) rfl) rfl ?_
  refine x_arg (pc := 1024) (q := 1) cx hX (dA ddL17 (i := 2) rfl) (dA ddL17 (i := 3) rfl) (dA ddL17 (i := 4) rfl) (dA ddL17 (i := 5) rfl) (dA ddL17 (i := 6) rfl) (by decide) rfl rfl (by omega) ?_
  refine x_arg (pc := 1029) (q := 2) cx hX (dA ddL17 (i := 7) rfl) (dA ddL17 (i := 8) rfl) (dA ddL17 (i := 9) rfl) (dA ddL17 (i := 10) rfl) (dA ddL17 (i := 11) rfl) (by decide) rfl rfl (by omega) ?_
  refine x_arg (pc := 1034) (q := 3) cx hX (dA ddL17 (i := 12) rfl) (dA ddL17 (i := 13) rfl) (dA ddL17 (i := 14) rfl) (dA ddL17 (i := 15) rfl) (dA ddL17 (i := 16) rfl) (by decide) rfl rfl (by omega) ?_
  refine x_arg (pc := 1039) (q := 4) cx hX (dA ddL17 (i := 17) rfl) (dA ddL17 (i := 18) rfl) (dA ddL17 (i := 19) rfl) (dA ddL17 (i := 20) rfl) (dA ddL17 (i := 21) rfl) (by decide) rfl rfl (by omega) ?_
  refine x_V4 (pc := 1044) mL_107 hM.1.1 (c_X8_load hM) cx (dA ddL17 (i := 22) rfl) (kMI hC hB fun V2 hC hM => ?_)
  refine x_icmp_eq (pc := 1047) (tgt := 1950) cx (dA ddL17 (i := 23) rfl) (by decide) (fun _ => ?_) (fun c => absurd rfl c)
  exact x_widen (by omega) (by omega) (K _ _ ⟨_, _, _, hC, hM, hB⟩)
theorem lc_mean {Z : zP} {X : xP} {nm : String} {b L : Nat} {xs : Nat → Int32} {Q : State → Prop} {G : zG} {V : zV} {x y j k n : Nat} {D : Int32 → Int32} {vl : Int32 → Nat} (hDr : ∀ d, drw d = D d) (hvl : ∀ d, dvl d = vl d) (hv4 : ∀ d, vl d < 4) (cx : Cx Z X RL nm code 4 ret 12 269366 8294152) (hX : scOK Z X b L xs) (hj : 6 * j + 6 ≤ L) (hk : k + 100 ≤ 269366) (hn : n + 8900 ≤ 8294152) (hI : LI Z G V x y) (K : ∀ G' V', LI Z G' V' x y → Wm Z X 4 G' V' (k + 100) (n + 8900) Q 1950 [(0, some (.ref b)), (1, some (.ref x)), (2, some (.ref y)), (3, some (.int (nI (6 * j))))] []) : Wm Z X 4 G V k n Q 1052 [(0, some (.ref b)), (1, some (.ref x)), (2, some (.ref y)), (3, some (.int (nI (6 * j))))] [] := by
  obtain ⟨col, zk, S, hC, hM, hB⟩ := hI
  refine x_aload_n (pc := 1052) cx (dA ddL17 (i := 26) rfl) rfl ?_
  refine x_arg (pc := 1053) (q := 1) cx hX (dA ddL17 (i := 27) rfl) (dA ddL17 (i := 28) rfl) (dA ddL17 (i := 29) rfl) (dA ddL17 (i := 30) rfl) (dA ddL17 (i := 31) rfl) (by decide) rfl rfl (by omega) ?_
  refine x_arg (pc := 1058) (q := 2) cx hX (dA ddL17 (i := 32) rfl) (dA ddL17 (i := 33) rfl) (dA ddL17 (i := 34) rfl) (dA ddL17 (i := 35) rfl) (dA ddL17 (i := 36) rfl) (by decide) rfl rfl (by omega) ?_
  refine x_arg (pc := 1063) (q := 3) cx hX (dA ddL17 (i := 37) rfl) (dA ddL17 (i := 38) rfl) (dA ddL17 (i := 39) rfl) (dA ddL18 (i := 0) rfl) (dA ddL18 (i := 1) rfl) (by decide) rfl rfl (by omega) ?_
  refine x_arg (pc := 1068) (q := 4) cx hX (dA ddL18 (i := 2) rfl) (dA ddL18 (i := 3) rfl) (dA ddL18 (i := 4) rfl) (dA ddL18 (i := 5) rfl) (dA ddL18 (i := 6) rfl) (by decide) rfl rfl (by omega) ?_
  refine x_V4 (pc := 1073) mL_108 hC.1.1 (c_X7_mean hC) cx (dA ddL18 (i := 7) rfl) (kCJ hM hB fun G1 V1 col1 hC hM hB => ?_)
  refine x_aload_n (pc := 1076) cx (dA ddL18 (i := 8) rfl) rfl ?_
  refine x_arg (pc := 1077) (q := 1) cx hX (dA ddL18 (i := 9) rfl) (dA ddL18 (i := 10) rfl) (dA ddL18 (i := 11) rfl) (dA ddL18 (i := 12) rfl) (dA ddL18 (i := 13) rfl) (by decide) rfl rfl (by omega) ?_
  refine x_arg (pc := 1082) (q := 2) cx hX (dA ddL18 (i := 14) rfl) (dA ddL18 (i := 15) rfl) (dA ddL18 (i := 16) rfl) (dA ddL18 (i := 17) rfl) (dA ddL18 (i := 18) rfl) (by decide) rfl rfl (by omega) ?_
  refine x_arg (pc := 1087) (q := 3) cx hX (dA ddL18 (i := 19) rfl) (dA ddL18 (i := 20) rfl) (dA ddL18 (i := 21) rfl) (dA ddL18 (i := 22) rfl) (dA ddL18 (i := 23) rfl) (by decide) rfl rfl (by omega) ?_
  refine x_arg (pc := 1092) (q := 4) cx hX (dA ddL18 (i := 24) rfl) (dA ddL18 (i := 25) rfl) (dA ddL18 (i := 26) rfl) (dA ddL18 (i := 27) rfl) (dA ddL18 (i := 28) rfl) (by decide) rfl rfl (by omega) ?_
  refine x_V4 (pc := 1097) mL_112 hM.1.1 (c_X8_mean hM) cx (dA ddL18 (i := 29) rfl) (kMJ hC hB fun V2 hC hM => ?_)
  refine x_lc_eq (pc := 1100) (tgt := 1950) cx (dA ddL18 (i := 30) rfl) (dA ddL18 (i := 31) rfl) (by decide) (fun _ => ?_) (fun c => absurd rfl c)
  exact x_widen (by omega) (by omega) (K _ _ ⟨_, _, _, hC, hM, hB⟩)
theorem lc_lose {Z : zP} {X : xP} {nm : String} {b L : Nat} {xs : Nat → Int32} {Q : State → Prop} {G : zG} {V : zV} {x y j k n : Nat} {D : Int32 → Int32} {vl : Int32 → Nat} (hDr : ∀ d, drw d = D d) (hvl : ∀ d, dvl d = vl d) (hv4 : ∀ d, vl d < 4) (cx : Cx Z X RL nm code 4 ret 12 269366 8294152) (hX : scOK Z X b L xs) (hj : 6 * j + 6 ≤ L) (hk : k + 100 ≤ 269366) (hn : n + 8900 ≤ 8294152) (hI : LI Z G V x y) (K : ∀ G' V', LI Z G' V' x y → Wm Z X 4 G' V' (k + 100) (n + 8900) Q 1950 [(0, some (.ref b)), (1, some (.ref x)), (2, some (.ref y)), (3, some (.int (nI (6 * j))))] []) : Wm Z X 4 G V k n Q 1106 [(0, some (.ref b)), (1, some (.ref x)), (2, some (.ref y)), (3, some (.int (nI (6 * j))))] [] := by
  obtain ⟨col, zk, S, hC, hM, hB⟩ := hI
  refine x_aload_n (pc := 1106) cx (dA ddL18 (i := 34) rfl) rfl ?_
  refine x_arg (pc := 1107) (q := 1) cx hX (dA ddL18 (i := 35) rfl) (dA ddL18 (i := 36) rfl) (dA ddL18 (i := 37) rfl) (dA ddL18 (i := 38) rfl) (dA ddL18 (i := 39) rfl) (by decide) rfl rfl (by omega) ?_
  refine x_arg (pc := 1112) (q := 2) cx hX (dA ddL19 (i := 0) rfl) (dA ddL19 (i := 1) rfl) (dA ddL19 (i := 2) rfl) (dA ddL19 (i := 3) rfl) (dA ddL19 (i := 4) rfl) (by decide) rfl rfl (by omega) ?_
  refine x_arg (pc := 1117) (q := 3) cx hX (dA ddL19 (i := 5) rfl) (dA ddL19 (i := 6) rfl) (dA ddL19 (i := 7) rfl) (dA ddL19 (i := 8) rfl) (dA ddL19 (i := 9) rfl) (by decide) rfl rfl (by omega) ?_
  refine x_arg (pc := 1122) (q := 4) cx hX (dA ddL19 (i := 10) rfl) (dA ddL19 (i := 11) rfl) (dA ddL19 (i := 12) rfl) (dA ddL19 (i := 13) rfl) (dA ddL19 (i := 14) rfl) (by decide) rfl rfl (by omega) ?_
  refine x_V4 (pc := 1127) mL_113 hC.1.1 (c_X7_lose hC) cx (dA ddL19 (i := 15) rfl) (kCJ hM hB fun G1 V1 col1 hC hM hB => ?_)
  refine x_aload_n (pc := 1130) cx (dA ddL19 (i := 16) rfl) rfl ?_
  refine x_arg (pc := 1131) (q := 1) cx hX (dA ddL19 (i := 17) rfl) (dA ddL19 (i := 18) rfl) (dA ddL19 (i := 19) rfl) (dA ddL19 (i := 20) rfl) (dA ddL19 (i := 21) rfl) (by decide) rfl rfl (by omega) ?_
  refine x_arg (pc := 1136) (q := 2) cx hX (dA ddL19 (i := 22) rfl) (dA ddL19 (i := 23) rfl) (dA ddL19 (i := 24) rfl) (dA ddL19 (i := 25) rfl) (dA ddL19 (i := 26) rfl) (by decide) rfl rfl (by omega) ?_
  refine x_arg (pc := 1141) (q := 3) cx hX (dA ddL19 (i := 27) rfl) (dA ddL19 (i := 28) rfl) (dA ddL19 (i := 29) rfl) (dA ddL19 (i := 30) rfl) (dA ddL19 (i := 31) rfl) (by decide) rfl rfl (by omega) ?_
  refine x_arg (pc := 1146) (q := 4) cx hX (dA ddL19 (i := 32) rfl) (dA ddL19 (i := 33) rfl) (dA ddL19 (i := 34) rfl) (dA ddL19 (i := 35) rfl) (dA ddL19 (i := 36) rfl) (by decide) rfl rfl (by omega) ?_
  refine x_V4 (pc := 1151) mL_116 hM.1.1 (c_X8_lose hM) cx (dA ddL19 (i := 37) rfl) (kMJ hC hB fun V2 hC hM => ?_)
  refine x_lc_eq (pc := 1154) (tgt := 1950) cx (dA ddL19 (i := 38) rfl) (dA ddL19 (i := 39) rfl) (by decide) (fun _ => ?_) (fun c => absurd rfl c)
  exact x_widen (by omega) (by omega) (K _ _ ⟨_, _, _, hC, hM, hB⟩)
theorem lc_boy {Z : zP} {X : xP} {nm : String} {b L : Nat} {xs : Nat → Int32} {Q : State → Prop} {G : zG} {V : zV} {x y j k n : Nat} {D : Int32 → Int32} {vl : Int32 → Nat} (hDr : ∀ d, drw d = D d) (hvl : ∀ d, dvl d = vl d) (hv4 : ∀ d, vl d < 4) (cx : Cx Z X RL nm code 4 ret 12 269366 8294152) (hX : scOK Z X b L xs) (hj : 6 * j + 6 ≤ L) (hk : k + 100 ≤ 269366) (hn : n + 8900 ≤ 8294152) (hI : LI Z G V x y) (K : ∀ G' V', LI Z G' V' x y → Wm Z X 4 G' V' (k + 100) (n + 8900) Q 1950 [(0, some (.ref b)), (1, some (.ref x)), (2, some (.ref y)), (3, some (.int (nI (6 * j))))] []) : Wm Z X 4 G V k n Q 1160 [(0, some (.ref b)), (1, some (.ref x)), (2, some (.ref y)), (3, some (.int (nI (6 * j))))] [] := by
  obtain ⟨col, zk, S, hC, hM, hB⟩ := hI
  refine x_aload_n (pc := 1160) cx (dA ddL20 (i := 2) rfl) rfl ?_
  refine x_arg (pc := 1161) (q := 1) cx hX (dA ddL20 (i := 3) rfl) (dA ddL20 (i := 4) rfl) (dA ddL20 (i := 5) rfl) (dA ddL20 (i := 6) rfl) (dA ddL20 (i := 7) rfl) (by decide) rfl rfl (by omega) ?_
  refine x_V1 (pc := 1166) mL_117 hC.1.1 (c_X7_boy hC) cx (dA ddL20 (i := 8) rfl) (kCI hM hB fun G1 V1 col1 hC hM hB => ?_)
  refine x_aload_n (pc := 1169) cx (dA ddL20 (i := 9) rfl) rfl ?_
  refine x_arg (pc := 1170) (q := 1) cx hX (dA ddL20 (i := 10) rfl) (dA ddL20 (i := 11) rfl) (dA ddL20 (i := 12) rfl) (dA ddL20 (i := 13) rfl) (dA ddL20 (i := 14) rfl) (by decide) rfl rfl (by omega) ?_
  refine x_V1 (pc := 1175) mL_120 hM.1.1 (c_X8_boy hM) cx (dA ddL20 (i := 15) rfl) (kMI hC hB fun V2 hC hM => ?_)
  refine x_icmp_eq (pc := 1178) (tgt := 1950) cx (dA ddL20 (i := 16) rfl) (by decide) (fun _ => ?_) (fun c => absurd rfl c)
  exact x_widen (by omega) (by omega) (K _ _ ⟨_, _, _, hC, hM, hB⟩)
theorem lc_waits {Z : zP} {X : xP} {nm : String} {b L : Nat} {xs : Nat → Int32} {Q : State → Prop} {G : zG} {V : zV} {x y j k n : Nat} {D : Int32 → Int32} {vl : Int32 → Nat} (hDr : ∀ d, drw d = D d) (hvl : ∀ d, dvl d = vl d) (hv4 : ∀ d, vl d < 4) (cx : Cx Z X RL nm code 4 ret 12 269366 8294152) (hX : scOK Z X b L xs) (hj : 6 * j + 6 ≤ L) (hk : k + 100 ≤ 269366) (hn : n + 8900 ≤ 8294152) (hI : LI Z G V x y) (K : ∀ G' V', LI Z G' V' x y → Wm Z X 4 G' V' (k + 100) (n + 8900) Q 1950 [(0, some (.ref b)), (1, some (.ref x)), (2, some (.ref y)), (3, some (.int (nI (6 * j))))] []) : Wm Z X 4 G V k n Q 1183 [(0, some (.ref b)), (1, some (.ref x)), (2, some (.ref y)), (3, some (.int (nI (6 * j))))] [] := by
  obtain ⟨col, zk, S, hC, hM, hB⟩ := hI
  refine x_aload_n (pc := 1183) cx (dA ddL20 (i := 19) rfl) rfl ?_
  refine x_arg (pc := 1184) (q := 1) cx hX (dA ddL20 (i := 20) rfl) (dA ddL20 (i := 21) rfl) (dA ddL20 (i := 22) rfl) (dA ddL20 (i := 23) rfl) (dA ddL20 (i := 24) rfl) (by decide) rfl rfl (by omega) ?_
  refine x_arg (pc := 1189) (q := 2) cx hX (dA ddL20 (i := 25) rfl) (dA ddL20 (i := 26) rfl) (dA ddL20 (i := 27) rfl) (dA ddL20 (i := 28) rfl) (dA ddL20 (i := 29) rfl) (by decide) rfl rfl (by omega) ?_
  refine x_arg (pc := 1194) (q := 3) cx hX (dA ddL20 (i := 30) rfl) (dA ddL20 (i := 31) rfl) (dA ddL20 (i := 32) rfl) (dA ddL20 (i := 33) rfl) (dA ddL20 (i := 34) rfl) (by decide) rfl rfl (by omega) ?_
  refine x_V3 (pc := 1199) mL_121 hC.1.1 (c_X7_waits hC) cx (dA ddL20 (i := 35) rfl) (kCJ hM hB fun G1 V1 col1 hC hM hB => ?_)
  refine x_aload_n (pc := 1202) cx (dA ddL20 (i := 36) rfl) rfl ?_
  refine x_arg (pc := 1203) (q := 1) cx hX (dA ddL20 (i := 37) rfl) (dA ddL20 (i := 38) rfl) (dA ddL20 (i := 39) rfl) (dA ddL21 (i := 0) rfl) (dA ddL21 (i := 1) rfl) (by decide) rfl rfl (by omega) ?_
  refine x_arg (pc := 1208) (q := 2) cx hX (dA ddL21 (i := 2) rfl) (dA ddL21 (i := 3) rfl) (dA ddL21 (i := 4) rfl) (dA ddL21 (i := 5) rfl) (dA ddL21 (i := 6) rfl) (by decide) rfl rfl (by omega) ?_
  refine x_arg (pc := 1213) (q := 3) cx hX (dA ddL21 (i := 7) rfl) (dA ddL21 (i := 8) rfl) (dA ddL21 (i := 9) rfl) (dA ddL21 (i := 10) rfl) (dA ddL21 (i := 11) rfl) (by decide) rfl rfl (by omega) ?_
  refine x_V3 (pc := 1218) mL_124 hM.1.1 (c_X8_waits hM) cx (dA ddL21 (i := 12) rfl) (kMJ hC hB fun V2 hC hM => ?_)
  refine x_lc_eq (pc := 1221) (tgt := 1950) cx (dA ddL21 (i := 13) rfl) (dA ddL21 (i := 14) rfl) (by decide) (fun _ => ?_) (fun c => absurd rfl c)
  exact x_widen (by omega) (by omega) (K _ _ ⟨_, _, _, hC, hM, hB⟩)
theorem lc_once {Z : zP} {X : xP} {nm : String} {b L : Nat} {xs : Nat → Int32} {Q : State → Prop} {G : zG} {V : zV} {x y j k n : Nat} {D : Int32 → Int32} {vl : Int32 → Nat} (hDr : ∀ d, drw d = D d) (hvl : ∀ d, dvl d = vl d) (hv4 : ∀ d, vl d < 4) (cx : Cx Z X RL nm code 4 ret 12 269366 8294152) (hX : scOK Z X b L xs) (hj : 6 * j + 6 ≤ L) (hk : k + 100 ≤ 269366) (hn : n + 8900 ≤ 8294152) (hI : LI Z G V x y) (K : ∀ G' V', LI Z G' V' x y → Wm Z X 4 G' V' (k + 100) (n + 8900) Q 1950 [(0, some (.ref b)), (1, some (.ref x)), (2, some (.ref y)), (3, some (.int (nI (6 * j))))] []) : Wm Z X 4 G V k n Q 1227 [(0, some (.ref b)), (1, some (.ref x)), (2, some (.ref y)), (3, some (.int (nI (6 * j))))] [] := by
  obtain ⟨col, zk, S, hC, hM, hB⟩ := hI
  refine x_aload_n (pc := 1227) cx (dA ddL21 (i := 17) rfl) rfl ?_
  refine x_arg (pc := 1228) (q := 1) cx hX (dA ddL21 (i := 18) rfl) (dA ddL21 (i := 19) rfl) (dA ddL21 (i := 20) rfl) (dA ddL21 (i := 21) rfl) (dA ddL21 (i := 22) rfl) (by decide) rfl rfl (by omega) ?_
  refine x_arg (pc := 1233) (q := 2) cx hX (dA ddL21 (i := 23) rfl) (dA ddL21 (i := 24) rfl) (dA ddL21 (i := 25) rfl) (dA ddL21 (i := 26) rfl) (dA ddL21 (i := 27) rfl) (by decide) rfl rfl (by omega) ?_
  refine x_arg (pc := 1238) (q := 3) cx hX (dA ddL21 (i := 28) rfl) (dA ddL21 (i := 29) rfl) (dA ddL21 (i := 30) rfl) (dA ddL21 (i := 31) rfl) (dA ddL21 (i := 32) rfl) (by decide) rfl rfl (by omega) ?_
  refine x_V3 (pc := 1243) mL_125 hC.1.1 (c_X7_once hC) cx (dA ddL21 (i := 33) rfl) (kCJ hM hB fun G1 V1 col1 hC hM hB => ?_)
  refine x_aload_n (pc := 1246) cx (dA ddL21 (i := 34) rfl) rfl ?_
  refine x_arg (pc := 1247) (q := 1) cx hX (dA ddL21 (i := 35) rfl) (dA ddL21 (i := 36) rfl) (dA ddL21 (i := 37) rfl) (dA ddL21 (i := 38) rfl) (dA ddL21 (i := 39) rfl) (by decide) rfl rfl (by omega) ?_
  refine x_arg (pc := 1252) (q := 2) cx hX (dA ddL22 (i := 0) rfl) (dA ddL22 (i := 1) rfl) (dA ddL22 (i := 2) rfl) (dA ddL22 (i := 3) rfl) (dA ddL22 (i := 4) rfl) (by decide) rfl rfl (by omega) ?_
  refine x_arg (pc := 1257) (q := 3) cx hX (dA ddL22 (i := 5) rfl) (dA ddL22 (i := 6) rfl) (dA ddL22 (i := 7) rfl) (dA ddL22 (i := 8) rfl) (dA ddL22 (i := 9) rfl) (by decide) rfl rfl (by omega) ?_
  refine x_V3 (pc := 1262) mL_128 hM.1.1 (c_X8_once hM) cx (dA ddL22 (i := 10) rfl) (kMJ hC hB fun V2 hC hM => ?_)
  refine x_lc_eq (pc := 1265) (tgt := 1950) cx (dA ddL22 (i := 11) rfl) (dA ddL22 (i := 12) rfl) (by decide) (fun _ => ?_) (fun c => absurd rfl c)
  exact x_widen (by omega) (by omega) (K _ _ ⟨_, _, _, hC, hM, hB⟩)
theorem lc_dear {Z : zP} {X : xP} {nm : String} {b L : Nat} {xs : Nat → Int32} {Q : State → Prop} {G : zG} {V : zV} {x y j k n : Nat} {D : Int32 → Int32} {vl : Int32 → Nat} (hDr : ∀ d, drw d = D d) (hvl : ∀ d, dvl d = vl d) (hv4 : ∀ d, vl d < 4) (cx : Cx Z X RL nm code 4 ret 12 269366 8294152) (hX : scOK Z X b L xs) (hj : 6 * j + 6 ≤ L) (hk : k + 100 ≤ 269366) (hn : n + 8900 ≤ 8294152) (hI : LI Z G V x y) (K : ∀ G' V', LI Z G' V' x y → Wm Z X 4 G' V' (k + 100) (n + 8900) Q 1950 [(0, some (.ref b)), (1, some (.ref x)), (2, some (.ref y)), (3, some (.int (nI (6 * j))))] []) : Wm Z X 4 G V k n Q 1271 [(0, some (.ref b)), (1, some (.ref x)), (2, some (.ref y)), (3, some (.int (nI (6 * j))))] [] := by
  obtain ⟨col, zk, S, hC, hM, hB⟩ := hI
  refine x_aload_n (pc := 1271) cx (dA ddL22 (i := 15) rfl) rfl ?_
  refine x_arg (pc := 1272) (q := 1) cx hX (dA ddL22 (i := 16) rfl) (dA ddL22 (i := 17) rfl) (dA ddL22 (i := 18) rfl) (dA ddL22 (i := 19) rfl) (dA ddL22 (i := 20) rfl) (by decide) rfl rfl (by omega) ?_
  refine x_arg (pc := 1277) (q := 2) cx hX (dA ddL22 (i := 21) rfl) (dA ddL22 (i := 22) rfl) (dA ddL22 (i := 23) rfl) (dA ddL22 (i := 24) rfl) (dA ddL22 (i := 25) rfl) (by decide) rfl rfl (by omega) ?_
  refine x_arg (pc := 1282) (q := 3) cx hX (dA ddL22 (i := 26) rfl) (dA ddL22 (i := 27) rfl) (dA ddL22 (i := 28) rfl) (dA ddL22 (i := 29) rfl) (dA ddL22 (i := 30) rfl) (by decide) rfl rfl (by omega) ?_
  refine x_arg (pc := 1287) (q := 4) cx hX (dA ddL22 (i := 31) rfl) (dA ddL22 (i := 32) rfl) (dA ddL22 (i := 33) rfl) (dA ddL22 (i := 34) rfl) (dA ddL22 (i := 35) rfl) (by decide) rfl rfl (by omega) ?_
  refine x_V4 (pc := 1292) mL_129 hC.1.1 (c_X7_dear hC) cx (dA ddL22 (i := 36) rfl) (kCJ hM hB fun G1 V1 col1 hC hM hB => ?_)
  refine x_aload_n (pc := 1295) cx (dA ddL22 (i := 37) rfl) rfl ?_
  refine x_arg (pc := 1296) (q := 1) cx hX (dA ddL22 (i := 38) rfl) (dA ddL22 (i := 39) rfl) (dA ddL23 (i := 0) rfl) (dA ddL23 (i := 1) rfl) (dA ddL23 (i := 2) rfl) (by decide) rfl rfl (by omega) ?_
  refine x_arg (pc := 1301) (q := 2) cx hX (dA ddL23 (i := 3) rfl) (dA ddL23 (i := 4) rfl) (dA ddL23 (i := 5) rfl) (dA ddL23 (i := 6) rfl) (dA ddL23 (i := 7) rfl) (by decide) rfl rfl (by omega) ?_
  refine x_arg (pc := 1306) (q := 3) cx hX (dA ddL23 (i := 8) rfl) (dA ddL23 (i := 9) rfl) (dA ddL23 (i := 10) rfl) (dA ddL23 (i := 11) rfl) (dA ddL23 (i := 12) rfl) (by decide) rfl rfl (by omega) ?_
  refine x_arg (pc := 1311) (q := 4) cx hX (dA ddL23 (i := 13) rfl) (dA ddL23 (i := 14) rfl) (dA ddL23 (i := 15) rfl) (dA ddL23 (i := 16) rfl) (dA ddL23 (i := 17) rfl) (by decide) rfl rfl (by omega) ?_
  refine x_V4 (pc := 1316) mL_132 hM.1.1 (c_X8_dear hM) cx (dA ddL23 (i := 18) rfl) (kMJ hC hB fun V2 hC hM => ?_)
  refine x_lc_eq (pc := 1319) (tgt := 1950) cx (dA ddL23 (i := 19) rfl) (dA ddL23 (i := 20) rfl) (by decide) (fun _ => ?_) (fun c => absurd rfl c)
  exact x_widen (by omega) (by omega) (K _ _ ⟨_, _, _, hC, hM, hB⟩)
theorem lc_chance {Z : zP} {X : xP} {nm : String} {b L : Nat} {xs : Nat → Int32} {Q : State → Prop} {G : zG} {V : zV} {x y j k n : Nat} {D : Int32 → Int32} {vl : Int32 → Nat} (hDr : ∀ d, drw d = D d) (hvl : ∀ d, dvl d = vl d) (hv4 : ∀ d, vl d < 4) (cx : Cx Z X RL nm code 4 ret 12 269366 8294152) (hX : scOK Z X b L xs) (hj : 6 * j + 6 ≤ L) (hk : k + 100 ≤ 269366) (hn : n + 8900 ≤ 8294152) (hI : LI Z G V x y) (K : ∀ G' V', LI Z G' V' x y → Wm Z X 4 G' V' (k + 100) (n + 8900) Q 1950 [(0, some (.ref b)), (1, some (.ref x)), (2, some (.ref y)), (3, some (.int (nI (6 * j))))] []) : Wm Z X 4 G V k n Q 1325 [(0, some (.ref b)), (1, some (.ref x)), (2, some (.ref y)), (3, some (.int (nI (6 * j))))] [] := by
  obtain ⟨col, zk, S, hC, hM, hB⟩ := hI
  refine x_aload_n (pc := 1325) cx (dA ddL23 (i := 23) rfl) rfl ?_
  refine x_arg (pc := 1326) (q := 1) cx hX (dA ddL23 (i := 24) rfl) (dA ddL23 (i := 25) rfl) (dA ddL23 (i := 26) rfl) (dA ddL23 (i := 27) rfl) (dA ddL23 (i := 28) rfl) (by decide) rfl rfl (by omega) ?_
  refine x_arg (pc := 1331) (q := 2) cx hX (dA ddL23 (i := 29) rfl) (dA ddL23 (i := 30) rfl) (dA ddL23 (i := 31) rfl) (dA ddL23 (i := 32) rfl) (dA ddL23 (i := 33) rfl) (by decide) rfl rfl (by omega) ?_
  refine x_arg (pc := 1336) (q := 3) cx hX (dA ddL23 (i := 34) rfl) (dA ddL23 (i := 35) rfl) (dA ddL23 (i := 36) rfl) (dA ddL23 (i := 37) rfl) (dA ddL23 (i := 38) rfl) (by decide) rfl rfl (by omega) ?_
  refine x_arg (pc := 1341) (q := 4) cx hX (dA ddL23 (i := 39) rfl) (dA ddL24 (i := 0) rfl) (dA ddL24 (i := 1) rfl) (dA ddL24 (i := 2) rfl) (dA ddL24 (i := 3) rfl) (by decide) rfl rfl (by omega) ?_
  refine x_V4 (pc := 1346) mL_133 hC.1.1 (c_X7_chance hC) cx (dA ddL24 (i := 4) rfl) (kCJ hM hB fun G1 V1 col1 hC hM hB => ?_)
  refine x_aload_n (pc := 1349) cx (dA ddL24 (i := 5) rfl) rfl ?_
  refine x_arg (pc := 1350) (q := 1) cx hX (dA ddL24 (i := 6) rfl) (dA ddL24 (i := 7) rfl) (dA ddL24 (i := 8) rfl) (dA ddL24 (i := 9) rfl) (dA ddL24 (i := 10) rfl) (by decide) rfl rfl (by omega) ?_
  refine x_arg (pc := 1355) (q := 2) cx hX (dA ddL24 (i := 11) rfl) (dA ddL24 (i := 12) rfl) (dA ddL24 (i := 13) rfl) (dA ddL24 (i := 14) rfl) (dA ddL24 (i := 15) rfl) (by decide) rfl rfl (by omega) ?_
  refine x_arg (pc := 1360) (q := 3) cx hX (dA ddL24 (i := 16) rfl) (dA ddL24 (i := 17) rfl) (dA ddL24 (i := 18) rfl) (dA ddL24 (i := 19) rfl) (dA ddL24 (i := 20) rfl) (by decide) rfl rfl (by omega) ?_
  refine x_arg (pc := 1365) (q := 4) cx hX (dA ddL24 (i := 21) rfl) (dA ddL24 (i := 22) rfl) (dA ddL24 (i := 23) rfl) (dA ddL24 (i := 24) rfl) (dA ddL24 (i := 25) rfl) (by decide) rfl rfl (by omega) ?_
  refine x_V4 (pc := 1370) mL_136 hM.1.1 (c_X8_chance hM) cx (dA ddL24 (i := 26) rfl) (kMJ hC hB fun V2 hC hM => ?_)
  refine x_lc_eq (pc := 1373) (tgt := 1950) cx (dA ddL24 (i := 27) rfl) (dA ddL24 (i := 28) rfl) (by decide) (fun _ => ?_) (fun c => absurd rfl c)
  exact x_widen (by omega) (by omega) (K _ _ ⟨_, _, _, hC, hM, hB⟩)
theorem lc_reach {Z : zP} {X : xP} {nm : String} {b L : Nat} {xs : Nat → Int32} {Q : State → Prop} {G : zG} {V : zV} {x y j k n : Nat} {D : Int32 → Int32} {vl : Int32 → Nat} (hDr : ∀ d, drw d = D d) (hvl : ∀ d, dvl d = vl d) (hv4 : ∀ d, vl d < 4) (cx : Cx Z X RL nm code 4 ret 12 269366 8294152) (hX : scOK Z X b L xs) (hj : 6 * j + 6 ≤ L) (hk : k + 100 ≤ 269366) (hn : n + 8900 ≤ 8294152) (hI : LI Z G V x y) (K : ∀ G' V', LI Z G' V' x y → Wm Z X 4 G' V' (k + 100) (n + 8900) Q 1950 [(0, some (.ref b)), (1, some (.ref x)), (2, some (.ref y)), (3, some (.int (nI (6 * j))))] []) : Wm Z X 4 G V k n Q 1379 [(0, some (.ref b)), (1, some (.ref x)), (2, some (.ref y)), (3, some (.int (nI (6 * j))))] [] := by
  obtain ⟨col, zk, S, hC, hM, hB⟩ := hI
  refine x_aload_n (pc := 1379) cx (dA ddL24 (i := 31) rfl) rfl ?_
  refine x_arg (pc := 1380) (q := 1) cx hX (dA ddL24 (i := 32) rfl) (dA ddL24 (i := 33) rfl) (dA ddL24 (i := 34) rfl) (dA ddL24 (i := 35) rfl) (dA ddL24 (i := 36) rfl) (by decide) rfl rfl (by omega) ?_
  refine x_arg (pc := 1385) (q := 2) cx hX (dA ddL24 (i := 37) rfl) (dA ddL24 (i := 38) rfl) (dA ddL24 (i := 39) rfl) (dA ddL25 (i := 0) rfl) (dA ddL25 (i := 1) rfl) (by decide) rfl rfl (by omega) ?_
  refine x_arg (pc := 1390) (q := 3) cx hX (dA ddL25 (i := 2) rfl) (dA ddL25 (i := 3) rfl) (dA ddL25 (i := 4) rfl) (dA ddL25 (i := 5) rfl) (dA ddL25 (i := 6) rfl) (by decide) rfl rfl (by omega) ?_
  refine x_V3 (pc := 1395) mL_137 hC.1.1 (c_X7_reach hC) cx (dA ddL25 (i := 7) rfl) (kCI hM hB fun G1 V1 col1 hC hM hB => ?_)
  refine x_aload_n (pc := 1398) cx (dA ddL25 (i := 8) rfl) rfl ?_
  refine x_arg (pc := 1399) (q := 1) cx hX (dA ddL25 (i := 9) rfl) (dA ddL25 (i := 10) rfl) (dA ddL25 (i := 11) rfl) (dA ddL25 (i := 12) rfl) (dA ddL25 (i := 13) rfl) (by decide) rfl rfl (by omega) ?_
  refine x_arg (pc := 1404) (q := 2) cx hX (dA ddL25 (i := 14) rfl) (dA ddL25 (i := 15) rfl) (dA ddL25 (i := 16) rfl) (dA ddL25 (i := 17) rfl) (dA ddL25 (i := 18) rfl) (by decide) rfl rfl (by omega) ?_
  refine x_arg (pc := 1409) (q := 3) cx hX (dA ddL25 (i := 19) rfl) (dA ddL25 (i := 20) rfl) (dA ddL25 (i := 21) rfl) (dA ddL25 (i := 22) rfl) (dA ddL25 (i := 23) rfl) (by decide) rfl rfl (by omega) ?_
  refine x_V3 (pc := 1414) mL_140 hM.1.1 (c_X8_reach hM) cx (dA ddL25 (i := 24) rfl) (kMI hC hB fun V2 hC hM => ?_)
  refine x_icmp_eq (pc := 1417) (tgt := 1950) cx (dA ddL25 (i := 25) rfl) (by decide) (fun _ => ?_) (fun c => absurd rfl c)
  exact x_widen (by omega) (by omega) (K _ _ ⟨_, _, _, hC, hM, hB⟩)
theorem lc_held {Z : zP} {X : xP} {nm : String} {b L : Nat} {xs : Nat → Int32} {Q : State → Prop} {G : zG} {V : zV} {x y j k n : Nat} {D : Int32 → Int32} {vl : Int32 → Nat} (hDr : ∀ d, drw d = D d) (hvl : ∀ d, dvl d = vl d) (hv4 : ∀ d, vl d < 4) (cx : Cx Z X RL nm code 4 ret 12 269366 8294152) (hX : scOK Z X b L xs) (hj : 6 * j + 6 ≤ L) (hk : k + 100 ≤ 269366) (hn : n + 8900 ≤ 8294152) (hI : LI Z G V x y) (K : ∀ G' V', LI Z G' V' x y → Wm Z X 4 G' V' (k + 100) (n + 8900) Q 1950 [(0, some (.ref b)), (1, some (.ref x)), (2, some (.ref y)), (3, some (.int (nI (6 * j))))] []) : Wm Z X 4 G V k n Q 1422 [(0, some (.ref b)), (1, some (.ref x)), (2, some (.ref y)), (3, some (.int (nI (6 * j))))] [] := by
  obtain ⟨col, zk, S, hC, hM, hB⟩ := hI
  refine x_aload_n (pc := 1422) cx (dA ddL25 (i := 28) rfl) rfl ?_
  refine x_arg (pc := 1423) (q := 1) cx hX (dA ddL25 (i := 29) rfl) (dA ddL25 (i := 30) rfl) (dA ddL25 (i := 31) rfl) (dA ddL25 (i := 32) rfl) (dA ddL25 (i := 33) rfl) (by decide) rfl rfl (by omega) ?_
  refine x_arg (pc := 1428) (q := 2) cx hX (dA ddL25 (i := 34) rfl) (dA ddL25 (i := 35) rfl) (dA ddL25 (i := 36) rfl) (dA ddL25 (i := 37) rfl) (dA ddL25 (i := 38) rfl) (by decide) rfl rfl (by omega) ?_
  refine x_arg (pc := 1433) (q := 3) cx hX (dA ddL25 (i := 39) rfl) (dA ddL26 (i := 0) rfl) (dA ddL26 (i := 1) rfl) (dA ddL26 (i := 2) rfl) (dA ddL26 (i := 3) rfl) (by decide) rfl rfl (by omega) ?_
  refine x_V3 (pc := 1438) mL_141 hC.1.1 (c_X7_held hC) cx (dA ddL26 (i := 4) rfl) (kCJ hM hB fun G1 V1 col1 hC hM hB => ?_)
  refine x_aload_n (pc := 1441) cx (dA ddL26 (i := 5) rfl) rfl ?_
  refine x_arg (pc := 1442) (q := 1) cx hX (dA ddL26 (i := 6) rfl) (dA ddL26 (i := 7) rfl) (dA ddL26 (i := 8) rfl) (dA ddL26 (i := 9) rfl) (dA ddL26 (i := 10) rfl) (by decide) rfl rfl (by omega) ?_
  refine x_arg (pc := 1447) (q := 2) cx hX (dA ddL26 (i := 11) rfl) (dA ddL26 (i := 12) rfl) (dA ddL26 (i := 13) rfl) (dA ddL26 (i := 14) rfl) (dA ddL26 (i := 15) rfl) (by decide) rfl rfl (by omega) ?_
  refine x_arg (pc := 1452) (q := 3) cx hX (dA ddL26 (i := 16) rfl) (dA ddL26 (i := 17) rfl) (dA ddL26 (i := 18) rfl) (dA ddL26 (i := 19) rfl) (dA ddL26 (i := 20) rfl) (by decide) rfl rfl (by omega) ?_
  refine x_V3 (pc := 1457) mL_144 hM.1.1 (c_X8_held hM) cx (dA ddL26 (i := 21) rfl) (kMJ hC hB fun V2 hC hM => ?_)
  refine x_lc_eq (pc := 1460) (tgt := 1950) cx (dA ddL26 (i := 22) rfl) (dA ddL26 (i := 23) rfl) (by decide) (fun _ => ?_) (fun c => absurd rfl c)
  exact x_widen (by omega) (by omega) (K _ _ ⟨_, _, _, hC, hM, hB⟩)
theorem lc_boxes {Z : zP} {X : xP} {nm : String} {b L : Nat} {xs : Nat → Int32} {Q : State → Prop} {G : zG} {V : zV} {x y j k n : Nat} {D : Int32 → Int32} {vl : Int32 → Nat} (hDr : ∀ d, drw d = D d) (hvl : ∀ d, dvl d = vl d) (hv4 : ∀ d, vl d < 4) (cx : Cx Z X RL nm code 4 ret 12 269366 8294152) (hX : scOK Z X b L xs) (hj : 6 * j + 6 ≤ L) (hk : k + 100 ≤ 269366) (hn : n + 8900 ≤ 8294152) (hI : LI Z G V x y) (K : ∀ G' V', LI Z G' V' x y → Wm Z X 4 G' V' (k + 100) (n + 8900) Q 1950 [(0, some (.ref b)), (1, some (.ref x)), (2, some (.ref y)), (3, some (.int (nI (6 * j))))] []) : Wm Z X 4 G V k n Q 1466 [(0, some (.ref b)), (1, some (.ref x)), (2, some (.ref y)), (3, some (.int (nI (6 * j))))] [] := by
  obtain ⟨col, zk, S, hC, hM, hB⟩ := hI
  refine x_aload_n (pc := 1466) cx (dA ddL26 (i := 26) rfl) rfl ?_
  refine x_arg (pc := 1467) (q := 1) cx hX (dA ddL26 (i := 27) rfl) (dA ddL26 (i := 28) rfl) (dA ddL26 (i := 29) rfl) (dA ddL26 (i := 30) rfl) (dA ddL26 (i := 31) rfl) (by decide) rfl rfl (by omega) ?_
  refine x_arg (pc := 1472) (q := 2) cx hX (dA ddL26 (i := 32) rfl) (dA ddL26 (i := 33) rfl) (dA ddL26 (i := 34) rfl) (dA ddL26 (i := 35) rfl) (dA ddL26 (i := 36) rfl) (by decide) rfl rfl (by omega) ?_
  refine x_V2 (pc := 1477) mL_145 hC.1.1 (c_X7_boxes hC) cx (dA ddL26 (i := 37) rfl) (kCJ hM hB fun G1 V1 col1 hC hM hB => ?_)
  refine x_aload_n (pc := 1480) cx (dA ddL26 (i := 38) rfl) rfl ?_
  refine x_arg (pc := 1481) (q := 1) cx hX (dA ddL26 (i := 39) rfl) (dA ddL27 (i := 0) rfl) (dA ddL27 (i := 1) rfl) (dA ddL27 (i := 2) rfl) (dA ddL27 (i := 3) rfl) (by decide) rfl rfl (by omega) ?_
  refine x_arg (pc := 1486) (q := 2) cx hX (dA ddL27 (i := 4) rfl) (dA ddL27 (i := 5) rfl) (dA ddL27 (i := 6) rfl) (dA ddL27 (i := 7) rfl) (dA ddL27 (i := 8) rfl) (by decide) rfl rfl (by omega) ?_
  refine x_V2 (pc := 1491) mL_148 hM.1.1 (c_X8_boxes hM) cx (dA ddL27 (i := 9) rfl) (kMJ hC hB fun V2 hC hM => ?_)
  refine x_lc_eq (pc := 1494) (tgt := 1950) cx (dA ddL27 (i := 10) rfl) (dA ddL27 (i := 11) rfl) (by decide) (fun _ => ?_) (fun c => absurd rfl c)
  exact x_widen (by omega) (by omega) (K _ _ ⟨_, _, _, hC, hM, hB⟩)
theorem lc_plain {Z : zP} {X : xP} {nm : String} {b L : Nat} {xs : Nat → Int32} {Q : State → Prop} {G : zG} {V : zV} {x y j k n : Nat} {D : Int32 → Int32} {vl : Int32 → Nat} (hDr : ∀ d, drw d = D d) (hvl : ∀ d, dvl d = vl d) (hv4 : ∀ d, vl d < 4) (cx : Cx Z X RL nm code 4 ret 12 269366 8294152) (hX : scOK Z X b L xs) (hj : 6 * j + 6 ≤ L) (hk : k + 100 ≤ 269366) (hn : n + 8900 ≤ 8294152) (hI : LI Z G V x y) (K : ∀ G' V', LI Z G' V' x y → Wm Z X 4 G' V' (k + 100) (n + 8900) Q 1950 [(0, some (.ref b)), (1, some (.ref x)), (2, some (.ref y)), (3, some (.int (nI (6 * j))))] []) : Wm Z X 4 G V k n Q 1500 [(0, some (.ref b)), (1, some (.ref x)), (2, some (.ref y)), (3, some (.int (nI (6 * j))))] [] := by
  obtain ⟨col, zk, S, hC, hM, hB⟩ := hI
  refine x_aload_n (pc := 1500) cx (dA ddL27 (i := 14) rfl) rfl ?_
  refine x_arg (pc := 1501) (q := 1) cx hX (dA ddL27 (i := 15) rfl) (dA ddL27 (i := 16) rfl) (dA ddL27 (i := 17) rfl) (dA ddL27 (i := 18) rfl) (dA ddL27 (i := 19) rfl) (by decide) rfl rfl (by omega) ?_
  refine x_V1 (pc := 1506) mL_149 hC.1.1 (c_X7_plain hC) cx (dA ddL27 (i := 20) rfl) (kCI hM hB fun G1 V1 col1 hC hM hB => ?_)
  refine x_aload_n (pc := 1509) cx (dA ddL27 (i := 21) rfl) rfl ?_
  refine x_arg (pc := 1510) (q := 1) cx hX (dA ddL27 (i := 22) rfl) (dA ddL27 (i := 23) rfl) (dA ddL27 (i := 24) rfl) (dA ddL27 (i := 25) rfl) (dA ddL27 (i := 26) rfl) (by decide) rfl rfl (by omega) ?_
  refine x_V1 (pc := 1515) mL_152 hM.1.1 (c_X8_plain hM) cx (dA ddL27 (i := 27) rfl) (kMI hC hB fun V2 hC hM => ?_)
  refine x_icmp_eq (pc := 1518) (tgt := 1950) cx (dA ddL27 (i := 28) rfl) (by decide) (fun _ => ?_) (fun c => absurd rfl c)
  exact x_widen (by omega) (by omega) (K _ _ ⟨_, _, _, hC, hM, hB⟩)
theorem lc_every {Z : zP} {X : xP} {nm : String} {b L : Nat} {xs : Nat → Int32} {Q : State → Prop} {G : zG} {V : zV} {x y j k n : Nat} {D : Int32 → Int32} {vl : Int32 → Nat} (hDr : ∀ d, drw d = D d) (hvl : ∀ d, dvl d = vl d) (hv4 : ∀ d, vl d < 4) (cx : Cx Z X RL nm code 4 ret 12 269366 8294152) (hX : scOK Z X b L xs) (hj : 6 * j + 6 ≤ L) (hk : k + 100 ≤ 269366) (hn : n + 8900 ≤ 8294152) (hI : LI Z G V x y) (K : ∀ G' V', LI Z G' V' x y → Wm Z X 4 G' V' (k + 100) (n + 8900) Q 1950 [(0, some (.ref b)), (1, some (.ref x)), (2, some (.ref y)), (3, some (.int (nI (6 * j))))] []) : Wm Z X 4 G V k n Q 1523 [(0, some (.ref b)), (1, some (.ref x)), (2, some (.ref y)), (3, some (.int (nI (6 * j))))] [] := by
  obtain ⟨col, zk, S, hC, hM, hB⟩ := hI
  refine x_aload_n (pc := 1523) cx (dA ddL27 (i := 31) rfl) rfl ?_
  refine x_arg (pc := 1524) (q := 1) cx hX (dA ddL27 (i := 32) rfl) (dA ddL27 (i := 33) rfl) (dA ddL27 (i := 34) rfl) (dA ddL27 (i := 35) rfl) (dA ddL27 (i := 36) rfl) (by decide) rfl rfl (by omega) ?_
  refine x_V1 (pc := 1529) mL_153 hC.1.1 (c_X7_every hC) cx (dA ddL27 (i := 37) rfl) (kCI hM hB fun G1 V1 col1 hC hM hB => ?_)
  refine x_aload_n (pc := 1532) cx (dA ddL27 (i := 38) rfl) rfl ?_
  refine x_arg (pc := 1533) (q := 1) cx hX (dA ddL27 (i := 39) rfl) (dA ddL28 (i := 0) rfl) (dA ddL28 (i := 1) rfl) (dA ddL28 (i := 2) rfl) (dA ddL28 (i := 3) rfl) (by decide) rfl rfl (by omega) ?_
  refine x_V1 (pc := 1538) mL_156 hM.1.1 (c_X8_every hM) cx (dA ddL28 (i := 4) rfl) (kMI hC hB fun V2 hC hM => ?_)
  refine x_icmp_eq (pc := 1541) (tgt := 1950) cx (dA ddL28 (i := 5) rfl) (by decide) (fun _ => ?_) (fun c => absurd rfl c)
  exact x_widen (by omega) (by omega) (K _ _ ⟨_, _, _, hC, hM, hB⟩)
theorem lc_promise {Z : zP} {X : xP} {nm : String} {b L : Nat} {xs : Nat → Int32} {Q : State → Prop} {G : zG} {V : zV} {x y j k n : Nat} {D : Int32 → Int32} {vl : Int32 → Nat} (hDr : ∀ d, drw d = D d) (hvl : ∀ d, dvl d = vl d) (hv4 : ∀ d, vl d < 4) (cx : Cx Z X RL nm code 4 ret 12 269366 8294152) (hX : scOK Z X b L xs) (hj : 6 * j + 6 ≤ L) (hk : k + 100 ≤ 269366) (hn : n + 8900 ≤ 8294152) (hI : LI Z G V x y) (K : ∀ G' V', LI Z G' V' x y → Wm Z X 4 G' V' (k + 100) (n + 8900) Q 1950 [(0, some (.ref b)), (1, some (.ref x)), (2, some (.ref y)), (3, some (.int (nI (6 * j))))] []) : Wm Z X 4 G V k n Q 1546 [(0, some (.ref b)), (1, some (.ref x)), (2, some (.ref y)), (3, some (.int (nI (6 * j))))] [] := by
  obtain ⟨col, zk, S, hC, hM, hB⟩ := hI
  refine x_aload_n (pc := 1546) cx (dA ddL28 (i := 8) rfl) rfl ?_
  refine x_arg (pc := 1547) (q := 1) cx hX (dA ddL28 (i := 9) rfl) (dA ddL28 (i := 10) rfl) (dA ddL28 (i := 11) rfl) (dA ddL28 (i := 12) rfl) (dA ddL28 (i := 13) rfl) (by decide) rfl rfl (by omega) ?_
  refine x_arg (pc := 1552) (q := 2) cx hX (dA ddL28 (i := 14) rfl) (dA ddL28 (i := 15) rfl) (dA ddL28 (i := 16) rfl) (dA ddL28 (i := 17) rfl) (dA ddL28 (i := 18) rfl) (by decide) rfl rfl (by omega) ?_
  refine x_V2 (pc := 1557) mL_157 hC.1.1 (c_X7_promise hC) cx (dA ddL28 (i := 19) rfl) (kCJ hM hB fun G1 V1 col1 hC hM hB => ?_)
  refine x_aload_n (pc := 1560) cx (dA ddL28 (i := 20) rfl) rfl ?_
  refine x_arg (pc := 1561) (q := 1) cx hX (dA ddL28 (i := 21) rfl) (dA ddL28 (i := 22) rfl) (dA ddL28 (i := 23) rfl) (dA ddL28 (i := 24) rfl) (dA ddL28 (i := 25) rfl) (by decide) rfl rfl (by omega) ?_
  refine x_arg (pc := 1566) (q := 2) cx hX (dA ddL28 (i := 26) rfl) (dA ddL28 (i := 27) rfl) (dA ddL28 (i := 28) rfl) (dA ddL28 (i := 29) rfl) (dA ddL28 (i := 30) rfl) (by decide) rfl rfl (by omega) ?_
  refine x_V2 (pc := 1571) mL_160 hM.1.1 (c_X8_promise hM) cx (dA ddL28 (i := 31) rfl) (kMJ hC hB fun V2 hC hM => ?_)
  refine x_lc_eq (pc := 1574) (tgt := 1950) cx (dA ddL28 (i := 32) rfl) (dA ddL28 (i := 33) rfl) (by decide) (fun _ => ?_) (fun c => absurd rfl c)
  exact x_widen (by omega) (by omega) (K _ _ ⟨_, _, _, hC, hM, hB⟩)
theorem lc_shape {Z : zP} {X : xP} {nm : String} {b L : Nat} {xs : Nat → Int32} {Q : State → Prop} {G : zG} {V : zV} {x y j k n : Nat} {D : Int32 → Int32} {vl : Int32 → Nat} (hDr : ∀ d, drw d = D d) (hvl : ∀ d, dvl d = vl d) (hv4 : ∀ d, vl d < 4) (cx : Cx Z X RL nm code 4 ret 12 269366 8294152) (hX : scOK Z X b L xs) (hj : 6 * j + 6 ≤ L) (hk : k + 100 ≤ 269366) (hn : n + 8900 ≤ 8294152) (hI : LI Z G V x y) (K : ∀ G' V', LI Z G' V' x y → Wm Z X 4 G' V' (k + 100) (n + 8900) Q 1950 [(0, some (.ref b)), (1, some (.ref x)), (2, some (.ref y)), (3, some (.int (nI (6 * j))))] []) : Wm Z X 4 G V k n Q 1580 [(0, some (.ref b)), (1, some (.ref x)), (2, some (.ref y)), (3, some (.int (nI (6 * j))))] [] := by
  obtain ⟨col, zk, S, hC, hM, hB⟩ := hI
  refine x_aload_n (pc := 1580) cx (dA ddL28 (i := 36) rfl) rfl ?_
  refine x_arg (pc := 1581) (q := 1) cx hX (dA ddL28 (i := 37) rfl) (dA ddL28 (i := 38) rfl) (dA ddL28 (i := 39) rfl) (dA ddL29 (i := 0) rfl) (dA ddL29 (i := 1) rfl) (by decide) rfl rfl (by omega) ?_
  refine x_arg (pc := 1586) (q := 2) cx hX (dA ddL29 (i := 2) rfl) (dA ddL29 (i := 3) rfl) (dA ddL29 (i := 4) rfl) (dA ddL29 (i := 5) rfl) (dA ddL29 (i := 6) rfl) (by decide) rfl rfl (by omega) ?_
  refine x_V2 (pc := 1591) mL_161 hC.1.1 (c_X7_shape hC) cx (dA ddL29 (i := 7) rfl) (kCI hM hB fun G1 V1 col1 hC hM hB => ?_)
  refine x_aload_n (pc := 1594) cx (dA ddL29 (i := 8) rfl) rfl ?_
  refine x_arg (pc := 1595) (q := 1) cx hX (dA ddL29 (i := 9) rfl) (dA ddL29 (i := 10) rfl) (dA ddL29 (i := 11) rfl) (dA ddL29 (i := 12) rfl) (dA ddL29 (i := 13) rfl) (by decide) rfl rfl (by omega) ?_
  refine x_arg (pc := 1600) (q := 2) cx hX (dA ddL29 (i := 14) rfl) (dA ddL29 (i := 15) rfl) (dA ddL29 (i := 16) rfl) (dA ddL29 (i := 17) rfl) (dA ddL29 (i := 18) rfl) (by decide) rfl rfl (by omega) ?_
  refine x_V2 (pc := 1605) mL_164 hM.1.1 (c_X8_shape hM) cx (dA ddL29 (i := 19) rfl) (kMI hC hB fun V2 hC hM => ?_)
  refine x_icmp_eq (pc := 1608) (tgt := 1950) cx (dA ddL29 (i := 20) rfl) (by decide) (fun _ => ?_) (fun c => absurd rfl c)
  exact x_widen (by omega) (by omega) (K _ _ ⟨_, _, _, hC, hM, hB⟩)
theorem lc_odd {Z : zP} {X : xP} {nm : String} {b L : Nat} {xs : Nat → Int32} {Q : State → Prop} {G : zG} {V : zV} {x y j k n : Nat} {D : Int32 → Int32} {vl : Int32 → Nat} (hDr : ∀ d, drw d = D d) (hvl : ∀ d, dvl d = vl d) (hv4 : ∀ d, vl d < 4) (cx : Cx Z X RL nm code 4 ret 12 269366 8294152) (hX : scOK Z X b L xs) (hj : 6 * j + 6 ≤ L) (hk : k + 100 ≤ 269366) (hn : n + 8900 ≤ 8294152) (hI : LI Z G V x y) (K : ∀ G' V', LI Z G' V' x y → Wm Z X 4 G' V' (k + 100) (n + 8900) Q 1950 [(0, some (.ref b)), (1, some (.ref x)), (2, some (.ref y)), (3, some (.int (nI (6 * j))))] []) : Wm Z X 4 G V k n Q 1613 [(0, some (.ref b)), (1, some (.ref x)), (2, some (.ref y)), (3, some (.int (nI (6 * j))))] [] := by
  obtain ⟨col, zk, S, hC, hM, hB⟩ := hI
  refine x_aload_n (pc := 1613) cx (dA ddL29 (i := 23) rfl) rfl ?_
  refine x_arg (pc := 1614) (q := 1) cx hX (dA ddL29 (i := 24) rfl) (dA ddL29 (i := 25) rfl) (dA ddL29 (i := 26) rfl) (dA ddL29 (i := 27) rfl) (dA ddL29 (i := 28) rfl) (by decide) rfl rfl (by omega) ?_
  refine x_arg (pc := 1619) (q := 2) cx hX (dA ddL29 (i := 29) rfl) (dA ddL29 (i := 30) rfl) (dA ddL29 (i := 31) rfl) (dA ddL29 (i := 32) rfl) (dA ddL29 (i := 33) rfl) (by decide) rfl rfl (by omega) ?_
  refine x_V2 (pc := 1624) mL_165 hC.1.1 (c_X7_odd hC) cx (dA ddL29 (i := 34) rfl) (kCI hM hB fun G1 V1 col1 hC hM hB => ?_)
  refine x_aload_n (pc := 1627) cx (dA ddL29 (i := 35) rfl) rfl ?_
  refine x_arg (pc := 1628) (q := 1) cx hX (dA ddL29 (i := 36) rfl) (dA ddL29 (i := 37) rfl) (dA ddL29 (i := 38) rfl) (dA ddL29 (i := 39) rfl) (dA ddL30 (i := 0) rfl) (by decide) rfl rfl (by omega) ?_
  refine x_arg (pc := 1633) (q := 2) cx hX (dA ddL30 (i := 1) rfl) (dA ddL30 (i := 2) rfl) (dA ddL30 (i := 3) rfl) (dA ddL30 (i := 4) rfl) (dA ddL30 (i := 5) rfl) (by decide) rfl rfl (by omega) ?_
  refine x_V2 (pc := 1638) mL_168 hM.1.1 (c_X8_odd hM) cx (dA ddL30 (i := 6) rfl) (kMI hC hB fun V2 hC hM => ?_)
  refine x_icmp_eq (pc := 1641) (tgt := 1950) cx (dA ddL30 (i := 7) rfl) (by decide) (fun _ => ?_) (fun c => absurd rfl c)
  exact x_widen (by omega) (by omega) (K _ _ ⟨_, _, _, hC, hM, hB⟩)
theorem lc_judge {Z : zP} {X : xP} {nm : String} {b L : Nat} {xs : Nat → Int32} {Q : State → Prop} {G : zG} {V : zV} {x y j k n : Nat} {D : Int32 → Int32} {vl : Int32 → Nat} (hDr : ∀ d, drw d = D d) (hvl : ∀ d, dvl d = vl d) (hv4 : ∀ d, vl d < 4) (cx : Cx Z X RL nm code 4 ret 12 269366 8294152) (hX : scOK Z X b L xs) (hj : 6 * j + 6 ≤ L) (hk : k + 100 ≤ 269366) (hn : n + 8900 ≤ 8294152) (hI : LI Z G V x y) (K : ∀ G' V', LI Z G' V' x y → Wm Z X 4 G' V' (k + 100) (n + 8900) Q 1950 [(0, some (.ref b)), (1, some (.ref x)), (2, some (.ref y)), (3, some (.int (nI (6 * j))))] []) : Wm Z X 4 G V k n Q 1646 [(0, some (.ref b)), (1, some (.ref x)), (2, some (.ref y)), (3, some (.int (nI (6 * j))))] [] := by
  obtain ⟨col, zk, S, hC, hM, hB⟩ := hI
  refine x_aload_n (pc := 1646) cx (dA ddL30 (i := 10) rfl) rfl ?_
  refine x_arg (pc := 1647) (q := 1) cx hX (dA ddL30 (i := 11) rfl) (dA ddL30 (i := 12) rfl) (dA ddL30 (i := 13) rfl) (dA ddL30 (i := 14) rfl) (dA ddL30 (i := 15) rfl) (by decide) rfl rfl (by omega) ?_
  refine x_arg (pc := 1652) (q := 2) cx hX (dA ddL30 (i := 16) rfl) (dA ddL30 (i := 17) rfl) (dA ddL30 (i := 18) rfl) (dA ddL30 (i := 19) rfl) (dA ddL30 (i := 20) rfl) (by decide) rfl rfl (by omega) ?_
  refine x_arg (pc := 1657) (q := 3) cx hX (dA ddL30 (i := 21) rfl) (dA ddL30 (i := 22) rfl) (dA ddL30 (i := 23) rfl) (dA ddL30 (i := 24) rfl) (dA ddL30 (i := 25) rfl) (by decide) rfl rfl (by omega) ?_
  refine x_V3 (pc := 1662) mL_169 hC.1.1 (c_X7_judge hC) cx (dA ddL30 (i := 26) rfl) (kCI hM hB fun G1 V1 col1 hC hM hB => ?_)
  refine x_aload_n (pc := 1665) cx (dA ddL30 (i := 27) rfl) rfl ?_
  refine x_arg (pc := 1666) (q := 1) cx hX (dA ddL30 (i := 28) rfl) (dA ddL30 (i := 29) rfl) (dA ddL30 (i := 30) rfl) (dA ddL30 (i := 31) rfl) (dA ddL30 (i := 32) rfl) (by decide) rfl rfl (by omega) ?_
  refine x_arg (pc := 1671) (q := 2) cx hX (dA ddL30 (i := 33) rfl) (dA ddL30 (i := 34) rfl) (dA ddL30 (i := 35) rfl) (dA ddL30 (i := 36) rfl) (dA ddL30 (i := 37) rfl) (by decide) rfl rfl (by omega) ?_
  refine x_arg (pc := 1676) (q := 3) cx hX (dA ddL30 (i := 38) rfl) (dA ddL30 (i := 39) rfl) (dA ddL31 (i := 0) rfl) (dA ddL31 (i := 1) rfl) (dA ddL31 (i := 2) rfl) (by decide) rfl rfl (by omega) ?_
  refine x_V3 (pc := 1681) mL_172 hM.1.1 (c_X8_judge hM) cx (dA ddL31 (i := 3) rfl) (kMI hC hB fun V2 hC hM => ?_)
  refine x_icmp_eq (pc := 1684) (tgt := 1950) cx (dA ddL31 (i := 4) rfl) (by decide) (fun _ => ?_) (fun c => absurd rfl c)
  exact x_widen (by omega) (by omega) (K _ _ ⟨_, _, _, hC, hM, hB⟩)
theorem lc_join {Z : zP} {X : xP} {nm : String} {b L : Nat} {xs : Nat → Int32} {Q : State → Prop} {G : zG} {V : zV} {x y j k n : Nat} {D : Int32 → Int32} {vl : Int32 → Nat} (hDr : ∀ d, drw d = D d) (hvl : ∀ d, dvl d = vl d) (hv4 : ∀ d, vl d < 4) (cx : Cx Z X RL nm code 4 ret 12 269366 8294152) (hX : scOK Z X b L xs) (hj : 6 * j + 6 ≤ L) (hk : k + 100 ≤ 269366) (hn : n + 8900 ≤ 8294152) (hI : LI Z G V x y) (K : ∀ G' V', LI Z G' V' x y → Wm Z X 4 G' V' (k + 100) (n + 8900) Q 1950 [(0, some (.ref b)), (1, some (.ref x)), (2, some (.ref y)), (3, some (.int (nI (6 * j))))] []) : Wm Z X 4 G V k n Q 1689 [(0, some (.ref b)), (1, some (.ref x)), (2, some (.ref y)), (3, some (.int (nI (6 * j))))] [] := by
  obtain ⟨col, zk, S, hC, hM, hB⟩ := hI
  refine x_aload_n (pc := 1689) cx (dA ddL31 (i := 7) rfl) rfl ?_
  refine x_arg (pc := 1690) (q := 1) cx hX (dA ddL31 (i := 8) rfl) (dA ddL31 (i := 9) rfl) (dA ddL31 (i := 10) rfl) (dA ddL31 (i := 11) rfl) (dA ddL31 (i := 12) rfl) (by decide) rfl rfl (by omega) ?_
  refine x_arg (pc := 1695) (q := 2) cx hX (dA ddL31 (i := 13) rfl) (dA ddL31 (i := 14) rfl) (dA ddL31 (i := 15) rfl) (dA ddL31 (i := 16) rfl) (dA ddL31 (i := 17) rfl) (by decide) rfl rfl (by omega) ?_
  refine x_V2 (pc := 1700) mL_173 hC.1.1 (c_X7_join hC) cx (dA ddL31 (i := 18) rfl) (kCI hM hB fun G1 V1 col1 hC hM hB => ?_)
  refine x_aload_n (pc := 1703) cx (dA ddL31 (i := 19) rfl) rfl ?_
  refine x_arg (pc := 1704) (q := 1) cx hX (dA ddL31 (i := 20) rfl) (dA ddL31 (i := 21) rfl) (dA ddL31 (i := 22) rfl) (dA ddL31 (i := 23) rfl) (dA ddL31 (i := 24) rfl) (by decide) rfl rfl (by omega) ?_
  refine x_arg (pc := 1709) (q := 2) cx hX (dA ddL31 (i := 25) rfl) (dA ddL31 (i := 26) rfl) (dA ddL31 (i := 27) rfl) (dA ddL31 (i := 28) rfl) (dA ddL31 (i := 29) rfl) (by decide) rfl rfl (by omega) ?_
  refine x_V2 (pc := 1714) mL_176 hM.1.1 (c_X8_join hM) cx (dA ddL31 (i := 30) rfl) (kMI hC hB fun V2 hC hM => ?_)
  refine x_icmp_eq (pc := 1717) (tgt := 1950) cx (dA ddL31 (i := 31) rfl) (by decide) (fun _ => ?_) (fun c => absurd rfl c)
  exact x_widen (by omega) (by omega) (K _ _ ⟨_, _, _, hC, hM, hB⟩)
theorem lc_saved {Z : zP} {X : xP} {nm : String} {b L : Nat} {xs : Nat → Int32} {Q : State → Prop} {G : zG} {V : zV} {x y j k n : Nat} {D : Int32 → Int32} {vl : Int32 → Nat} (hDr : ∀ d, drw d = D d) (hvl : ∀ d, dvl d = vl d) (hv4 : ∀ d, vl d < 4) (cx : Cx Z X RL nm code 4 ret 12 269366 8294152) (hX : scOK Z X b L xs) (hj : 6 * j + 6 ≤ L) (hk : k + 100 ≤ 269366) (hn : n + 8900 ≤ 8294152) (hI : LI Z G V x y) (K : ∀ G' V', LI Z G' V' x y → Wm Z X 4 G' V' (k + 100) (n + 8900) Q 1950 [(0, some (.ref b)), (1, some (.ref x)), (2, some (.ref y)), (3, some (.int (nI (6 * j))))] []) : Wm Z X 4 G V k n Q 1722 [(0, some (.ref b)), (1, some (.ref x)), (2, some (.ref y)), (3, some (.int (nI (6 * j))))] [] := by
  obtain ⟨col, zk, S, hC, hM, hB⟩ := hI
  refine x_aload_n (pc := 1722) cx (dA ddL31 (i := 34) rfl) rfl ?_
  refine x_arg (pc := 1723) (q := 1) cx hX (dA ddL31 (i := 35) rfl) (dA ddL31 (i := 36) rfl) (dA ddL31 (i := 37) rfl) (dA ddL31 (i := 38) rfl) (dA ddL31 (i := 39) rfl) (by decide) rfl rfl (by omega) ?_
  refine x_arg (pc := 1728) (q := 2) cx hX (dA ddL32 (i := 0) rfl) (dA ddL32 (i := 1) rfl) (dA ddL32 (i := 2) rfl) (dA ddL32 (i := 3) rfl) (dA ddL32 (i := 4) rfl) (by decide) rfl rfl (by omega) ?_
  refine x_V2 (pc := 1733) mL_177 hC.1.1 (c_X7_saved hC) cx (dA ddL32 (i := 5) rfl) (kCJ hM hB fun G1 V1 col1 hC hM hB => ?_)
  refine x_aload_n (pc := 1736) cx (dA ddL32 (i := 6) rfl) rfl ?_
  refine x_arg (pc := 1737) (q := 1) cx hX (dA ddL32 (i := 7) rfl) (dA ddL32 (i := 8) rfl) (dA ddL32 (i := 9) rfl) (dA ddL32 (i := 10) rfl) (dA ddL32 (i := 11) rfl) (by decide) rfl rfl (by omega) ?_
  refine x_arg (pc := 1742) (q := 2) cx hX (dA ddL32 (i := 12) rfl) (dA ddL32 (i := 13) rfl) (dA ddL32 (i := 14) rfl) (dA ddL32 (i := 15) rfl) (dA ddL32 (i := 16) rfl) (by decide) rfl rfl (by omega) ?_
  refine x_V2 (pc := 1747) mL_180 hM.1.1 (c_X8_saved hM) cx (dA ddL32 (i := 17) rfl) (kMJ hC hB fun V2 hC hM => ?_)
  refine x_lc_eq (pc := 1750) (tgt := 1950) cx (dA ddL32 (i := 18) rfl) (dA ddL32 (i := 19) rfl) (by decide) (fun _ => ?_) (fun c => absurd rfl c)
  exact x_widen (by omega) (by omega) (K _ _ ⟨_, _, _, hC, hM, hB⟩)
theorem lc_seed {Z : zP} {X : xP} {nm : String} {b L : Nat} {xs : Nat → Int32} {Q : State → Prop} {G : zG} {V : zV} {x y j k n : Nat} {D : Int32 → Int32} {vl : Int32 → Nat} (hDr : ∀ d, drw d = D d) (hvl : ∀ d, dvl d = vl d) (hv4 : ∀ d, vl d < 4) (cx : Cx Z X RL nm code 4 ret 12 269366 8294152) (hX : scOK Z X b L xs) (hj : 6 * j + 6 ≤ L) (hk : k + 100 ≤ 269366) (hn : n + 8900 ≤ 8294152) (hI : LI Z G V x y) (K : ∀ G' V', LI Z G' V' x y → Wm Z X 4 G' V' (k + 100) (n + 8900) Q 1950 [(0, some (.ref b)), (1, some (.ref x)), (2, some (.ref y)), (3, some (.int (nI (6 * j))))] []) : Wm Z X 4 G V k n Q 1756 [(0, some (.ref b)), (1, some (.ref x)), (2, some (.ref y)), (3, some (.int (nI (6 * j))))] [] := by
  obtain ⟨col, zk, S, hC, hM, hB⟩ := hI
  refine x_aload_n (pc := 1756) cx (dA ddL32 (i := 22) rfl) rfl ?_
  refine x_arg (pc := 1757) (q := 1) cx hX (dA ddL32 (i := 23) rfl) (dA ddL32 (i := 24) rfl) (dA ddL32 (i := 25) rfl) (dA ddL32 (i := 26) rfl) (dA ddL32 (i := 27) rfl) (by decide) rfl rfl (by omega) ?_
  refine x_V1 (pc := 1762) mL_181 hC.1.1 (c_X7_seed hC) cx (dA ddL32 (i := 28) rfl) (kCI hM hB fun G1 V1 col1 hC hM hB => ?_)
  refine x_aload_n (pc := 1765) cx (dA ddL32 (i := 29) rfl) rfl ?_
  refine x_arg (pc := 1766) (q := 1) cx hX (dA ddL32 (i := 30) rfl) (dA ddL32 (i := 31) rfl) (dA ddL32 (i := 32) rfl) (dA ddL32 (i := 33) rfl) (dA ddL32 (i := 34) rfl) (by decide) rfl rfl (by omega) ?_
  refine x_V1 (pc := 1771) mL_184 hM.1.1 (C_X8_seed hM) cx (dA ddL32 (i := 35) rfl) (kMI hC hB fun V2 hC hM => ?_)
  refine x_icmp_eq (pc := 1774) (tgt := 1950) cx (dA ddL32 (i := 36) rfl) (by decide) (fun _ => ?_) (fun c => absurd rfl c)
  exact x_widen (by omega) (by omega) (K _ _ ⟨_, _, _, hC, hM, hB⟩)
theorem lc_begin {Z : zP} {X : xP} {nm : String} {b L : Nat} {xs : Nat → Int32} {Q : State → Prop} {G : zG} {V : zV} {x y j k n : Nat} {D : Int32 → Int32} {vl : Int32 → Nat} (hDr : ∀ d, drw d = D d) (hvl : ∀ d, dvl d = vl d) (hv4 : ∀ d, vl d < 4) (cx : Cx Z X RL nm code 4 ret 12 269366 8294152) (hX : scOK Z X b L xs) (hj : 6 * j + 6 ≤ L) (hk : k + 100 ≤ 269366) (hn : n + 8900 ≤ 8294152) (hI : LI Z G V x y) (K : ∀ G' V', LI Z G' V' x y → Wm Z X 4 G' V' (k + 100) (n + 8900) Q 1950 [(0, some (.ref b)), (1, some (.ref x)), (2, some (.ref y)), (3, some (.int (nI (6 * j))))] []) : Wm Z X 4 G V k n Q 1779 [(0, some (.ref b)), (1, some (.ref x)), (2, some (.ref y)), (3, some (.int (nI (6 * j))))] [] := by
  obtain ⟨col, zk, S, hC, hM, hB⟩ := hI
  refine x_aload_n (pc := 1779) cx (dA ddL32 (i := 39) rfl) rfl ?_
  refine x_arg (pc := 1780) (q := 1) cx hX (dA ddL33 (i := 0) rfl) (dA ddL33 (i := 1) rfl) (dA ddL33 (i := 2) rfl) (dA ddL33 (i := 3) rfl) (dA ddL33 (i := 4) rfl) (by decide) rfl rfl (by omega) ?_
  refine x_arg (pc := 1785) (q := 2) cx hX (dA ddL33 (i := 5) rfl) (dA ddL33 (i := 6) rfl) (dA ddL33 (i := 7) rfl) (dA ddL33 (i := 8) rfl) (dA ddL33 (i := 9) rfl) (by decide) rfl rfl (by omega) ?_
  refine x_V2 (pc := 1790) mL_185 hC.1.1 (c_X7_begin hC) cx (dA ddL33 (i := 10) rfl) (kCI hM hB fun G1 V1 col1 hC hM hB => ?_)
  refine x_aload_n (pc := 1793) cx (dA ddL33 (i := 11) rfl) rfl ?_
  refine x_arg (pc := 1794) (q := 1) cx hX (dA ddL33 (i := 12) rfl) (dA ddL33 (i := 13) rfl) (dA ddL33 (i := 14) rfl) (dA ddL33 (i := 15) rfl) (dA ddL33 (i := 16) rfl) (by decide) rfl rfl (by omega) ?_
  refine x_arg (pc := 1799) (q := 2) cx hX (dA ddL33 (i := 17) rfl) (dA ddL33 (i := 18) rfl) (dA ddL33 (i := 19) rfl) (dA ddL33 (i := 20) rfl) (dA ddL33 (i := 21) rfl) (by decide) rfl rfl (by omega) ?_
  refine x_V2 (pc := 1804) mL_188 hM.1.1 (c_X8_begin hM) cx (dA ddL33 (i := 22) rfl) (kMI hC hB fun V2 hC hM => ?_)
  refine x_icmp_eq (pc := 1807) (tgt := 1950) cx (dA ddL33 (i := 23) rfl) (by decide) (fun _ => ?_) (fun c => absurd rfl c)
  exact x_widen (by omega) (by omega) (K _ _ ⟨_, _, _, hC, hM, hB⟩)
theorem lc_step {Z : zP} {X : xP} {nm : String} {b L : Nat} {xs : Nat → Int32} {Q : State → Prop} {G : zG} {V : zV} {x y j k n : Nat} {D : Int32 → Int32} {vl : Int32 → Nat} (hDr : ∀ d, drw d = D d) (hvl : ∀ d, dvl d = vl d) (hv4 : ∀ d, vl d < 4) (cx : Cx Z X RL nm code 4 ret 12 269366 8294152) (hX : scOK Z X b L xs) (hj : 6 * j + 6 ≤ L) (hk : k + 100 ≤ 269366) (hn : n + 8900 ≤ 8294152) (hI : LI Z G V x y) (K : ∀ G' V', LI Z G' V' x y → Wm Z X 4 G' V' (k + 100) (n + 8900) Q 1950 [(0, some (.ref b)), (1, some (.ref x)), (2, some (.ref y)), (3, some (.int (nI (6 * j))))] []) : Wm Z X 4 G V k n Q 1812 [(0, some (.ref b)), (1, some (.ref x)), (2, some (.ref y)), (3, some (.int (nI (6 * j))))] [] := by
  obtain ⟨col, zk, S, hC, hM, hB⟩ := hI
  refine x_aload_n (pc := 1812) cx (dA ddL33 (i := 26) rfl) rfl ?_
  refine x_arg (pc := 1813) (q := 1) cx hX (dA ddL33 (i := 27) rfl) (dA ddL33 (i := 28) rfl) (dA ddL33 (i := 29) rfl) (dA ddL33 (i := 30) rfl) (dA ddL33 (i := 31) rfl) (by decide) rfl rfl (by omega) ?_
  refine x_V1 (pc := 1818) mL_189 hC.1.1 (c_X7_step hC hDr hvl hv4) cx (dA ddL33 (i := 32) rfl) (kCI hM hB fun G1 V1 col1 hC hM hB => ?_)
  refine x_aload_n (pc := 1821) cx (dA ddL33 (i := 33) rfl) rfl ?_
  refine x_arg (pc := 1822) (q := 1) cx hX (dA ddL33 (i := 34) rfl) (dA ddL33 (i := 35) rfl) (dA ddL33 (i := 36) rfl) (dA ddL33 (i := 37) rfl) (dA ddL33 (i := 38) rfl) (by decide) rfl rfl (by omega) ?_
  refine x_V1 (pc := 1827) mL_192 hM.1.1 (c_X8_step hM hDr hvl hv4) cx (dA ddL33 (i := 39) rfl) (kMI hC hB fun V2 hC hM => ?_)
  refine x_icmp_eq (pc := 1830) (tgt := 1950) cx (dA ddL34 (i := 0) rfl) (by decide) (fun _ => ?_) (fun c => absurd rfl c)
  exact x_widen (by omega) (by omega) (K _ _ ⟨_, _, _, hC, hM, hB⟩)
theorem lc_week {Z : zP} {X : xP} {nm : String} {b L : Nat} {xs : Nat → Int32} {Q : State → Prop} {G : zG} {V : zV} {x y j k n : Nat} {D : Int32 → Int32} {vl : Int32 → Nat} (hDr : ∀ d, drw d = D d) (hvl : ∀ d, dvl d = vl d) (hv4 : ∀ d, vl d < 4) (cx : Cx Z X RL nm code 4 ret 12 269366 8294152) (hX : scOK Z X b L xs) (hj : 6 * j + 6 ≤ L) (hk : k + 100 ≤ 269366) (hn : n + 8900 ≤ 8294152) (hI : LI Z G V x y) (K : ∀ G' V', LI Z G' V' x y → Wm Z X 4 G' V' (k + 100) (n + 8900) Q 1950 [(0, some (.ref b)), (1, some (.ref x)), (2, some (.ref y)), (3, some (.int (nI (6 * j))))] []) : Wm Z X 4 G V k n Q 1835 [(0, some (.ref b)), (1, some (.ref x)), (2, some (.ref y)), (3, some (.int (nI (6 * j))))] [] := by
  obtain ⟨col, zk, S, hC, hM, hB⟩ := hI
  refine x_aload_n (pc := 1835) cx (dA ddL34 (i := 3) rfl) rfl ?_
  refine x_arg (pc := 1836) (q := 1) cx hX (dA ddL34 (i := 4) rfl) (dA ddL34 (i := 5) rfl) (dA ddL34 (i := 6) rfl) (dA ddL34 (i := 7) rfl) (dA ddL34 (i := 8) rfl) (by decide) rfl rfl (by omega) ?_
  refine x_V1 (pc := 1841) mL_193 hC.1.1 (c_X7_week hC) cx (dA ddL34 (i := 9) rfl) (kCI hM hB fun G1 V1 col1 hC hM hB => ?_)
  refine x_aload_n (pc := 1844) cx (dA ddL34 (i := 10) rfl) rfl ?_
  refine x_arg (pc := 1845) (q := 1) cx hX (dA ddL34 (i := 11) rfl) (dA ddL34 (i := 12) rfl) (dA ddL34 (i := 13) rfl) (dA ddL34 (i := 14) rfl) (dA ddL34 (i := 15) rfl) (by decide) rfl rfl (by omega) ?_
  refine x_V1 (pc := 1850) mL_196 hM.1.1 (c_X8_week hM) cx (dA ddL34 (i := 16) rfl) (kMI hC hB fun V2 hC hM => ?_)
  refine x_icmp_eq (pc := 1853) (tgt := 1950) cx (dA ddL34 (i := 17) rfl) (by decide) (fun _ => ?_) (fun c => absurd rfl c)
  exact x_widen (by omega) (by omega) (K _ _ ⟨_, _, _, hC, hM, hB⟩)
theorem lc_weeks {Z : zP} {X : xP} {nm : String} {b L : Nat} {xs : Nat → Int32} {Q : State → Prop} {G : zG} {V : zV} {x y j k n : Nat} {D : Int32 → Int32} {vl : Int32 → Nat} (hDr : ∀ d, drw d = D d) (hvl : ∀ d, dvl d = vl d) (hv4 : ∀ d, vl d < 4) (cx : Cx Z X RL nm code 4 ret 12 269366 8294152) (hX : scOK Z X b L xs) (hj : 6 * j + 6 ≤ L) (hk : k + 100 ≤ 269366) (hn : n + 8900 ≤ 8294152) (hI : LI Z G V x y) (K : ∀ G' V', LI Z G' V' x y → Wm Z X 4 G' V' (k + 100) (n + 8900) Q 1950 [(0, some (.ref b)), (1, some (.ref x)), (2, some (.ref y)), (3, some (.int (nI (6 * j))))] []) : Wm Z X 4 G V k n Q 1858 [(0, some (.ref b)), (1, some (.ref x)), (2, some (.ref y)), (3, some (.int (nI (6 * j))))] [] := by
  obtain ⟨col, zk, S, hC, hM, hB⟩ := hI
  refine x_aload_n (pc := 1858) cx (dA ddL34 (i := 20) rfl) rfl ?_
  refine x_arg (pc := 1859) (q := 1) cx hX (dA ddL34 (i := 21) rfl) (dA ddL34 (i := 22) rfl) (dA ddL34 (i := 23) rfl) (dA ddL34 (i := 24) rfl) (dA ddL34 (i := 25) rfl) (by decide) rfl rfl (by omega) ?_
  refine x_arg (pc := 1864) (q := 2) cx hX (dA ddL34 (i := 26) rfl) (dA ddL34 (i := 27) rfl) (dA ddL34 (i := 28) rfl) (dA ddL34 (i := 29) rfl) (dA ddL34 (i := 30) rfl) (by decide) rfl rfl (by omega) ?_
  refine x_arg (pc := 1869) (q := 3) cx hX (dA ddL34 (i := 31) rfl) (dA ddL34 (i := 32) rfl) (dA ddL34 (i := 33) rfl) (dA ddL34 (i := 34) rfl) (dA ddL34 (i := 35) rfl) (by decide) rfl rfl (by omega) ?_
  refine x_V3 (pc := 1874) mL_197 hC.1.1 (c_X7_weeks hC hDr hvl hv4) cx (dA ddL34 (i := 36) rfl) (kCI hM hB fun G1 V1 col1 hC hM hB => ?_)
  refine x_aload_n (pc := 1877) cx (dA ddL34 (i := 37) rfl) rfl ?_
  refine x_arg (pc := 1878) (q := 1) cx hX (dA ddL34 (i := 38) rfl) (dA ddL34 (i := 39) rfl) (dA ddL35 (i := 0) rfl) (dA ddL35 (i := 1) rfl) (dA ddL35 (i := 2) rfl) (by decide) rfl rfl (by omega) ?_
  refine x_arg (pc := 1883) (q := 2) cx hX (dA ddL35 (i := 3) rfl) (dA ddL35 (i := 4) rfl) (dA ddL35 (i := 5) rfl) (dA ddL35 (i := 6) rfl) (dA ddL35 (i := 7) rfl) (by decide) rfl rfl (by omega) ?_
  refine x_arg (pc := 1888) (q := 3) cx hX (dA ddL35 (i := 8) rfl) (dA ddL35 (i := 9) rfl) (dA ddL35 (i := 10) rfl) (dA ddL35 (i := 11) rfl) (dA ddL35 (i := 12) rfl) (by decide) rfl rfl (by omega) ?_
  refine x_V3 (pc := 1893) mL_200 hM.1.1 (c_X8_weeks hM hDr hvl hv4) cx (dA ddL35 (i := 13) rfl) (kMI hC hB fun V2 hC hM => ?_)
  refine x_icmp_eq (pc := 1896) (tgt := 1950) cx (dA ddL35 (i := 14) rfl) (by decide) (fun _ => ?_) (fun c => absurd rfl c)
  exact x_widen (by omega) (by omega) (K _ _ ⟨_, _, _, hC, hM, hB⟩)
theorem lc_image {Z : zP} {X : xP} {nm : String} {b L : Nat} {xs : Nat → Int32} {Q : State → Prop} {G : zG} {V : zV} {x y j k n : Nat} {D : Int32 → Int32} {vl : Int32 → Nat} (hDr : ∀ d, drw d = D d) (hvl : ∀ d, dvl d = vl d) (hv4 : ∀ d, vl d < 4) (cx : Cx Z X RL nm code 4 ret 12 269366 8294152) (hX : scOK Z X b L xs) (hj : 6 * j + 6 ≤ L) (hk : k + 100 ≤ 269366) (hn : n + 8900 ≤ 8294152) (hI : LI Z G V x y) (K : ∀ G' V', LI Z G' V' x y → Wm Z X 4 G' V' (k + 100) (n + 8900) Q 1950 [(0, some (.ref b)), (1, some (.ref x)), (2, some (.ref y)), (3, some (.int (nI (6 * j))))] []) : Wm Z X 4 G V k n Q 1901 [(0, some (.ref b)), (1, some (.ref x)), (2, some (.ref y)), (3, some (.int (nI (6 * j))))] [] := by
  obtain ⟨col, zk, S, hC, hM, hB⟩ := hI
  rcases (show zk = none ∨ ∃ z, zk = some z by cases zk with | none => exact Or.inl rfl | some z => exact Or.inr ⟨z, rfl⟩) with ez | ⟨z, ez⟩
  · refine x_aload_n (pc := 1901) cx (dA ddL35 (i := 17) rfl) rfl ?_
    refine x_V0 (pc := 1902) mL_201 hC.1.1 (c_X7_image hC) cx (dA ddL35 (i := 18) rfl) (kCI hM hB fun G1 V1 col1 hC hM hB => ?_)
    refine x_aload_n (pc := 1905) cx (dA ddL35 (i := 19) rfl) rfl ?_
    refine x_V0 (pc := 1906) mL_204 hM.1.1 (C_X8_image_n hM ez) cx (dA ddL35 (i := 20) rfl) (kMX hC hB fun G2 V2 zk2 hC hM hB => ?_) (hk := by omega) (hn := by omega)
    refine x_icmp_eq (pc := 1909) (tgt := 1950) cx (dA ddL35 (i := 21) rfl) (by decide) (fun _ => ?_) (fun c => absurd rfl c)
    exact x_widen (by omega) (by omega) (K _ _ ⟨_, _, _, hC, hM, hB⟩)
  · refine x_aload_n (pc := 1901) cx (dA ddL35 (i := 17) rfl) rfl ?_
    refine x_V0 (pc := 1902) mL_201 hC.1.1 (c_X7_image hC) cx (dA ddL35 (i := 18) rfl) (kCI hM hB fun G1 V1 col1 hC hM hB => ?_)
    refine x_aload_n (pc := 1905) cx (dA ddL35 (i := 19) rfl) rfl ?_
    refine x_V0 (pc := 1906) mL_204 hM.1.1 (C_X8_image_s hM ez) cx (dA ddL35 (i := 20) rfl) (kMX hC hB fun G2 V2 zk2 hC hM hB => ?_) (hk := by omega) (hn := by omega)
    refine x_icmp_eq (pc := 1909) (tgt := 1950) cx (dA ddL35 (i := 21) rfl) (by decide) (fun _ => ?_) (fun c => absurd rfl c)
    exact x_widen (by omega) (by omega) (K _ _ ⟨_, _, _, hC, hM, hB⟩)
theorem lc_back {Z : zP} {X : xP} {nm : String} {b L : Nat} {xs : Nat → Int32} {Q : State → Prop} {G : zG} {V : zV} {x y j k n : Nat} {D : Int32 → Int32} {vl : Int32 → Nat} (hDr : ∀ d, drw d = D d) (hvl : ∀ d, dvl d = vl d) (hv4 : ∀ d, vl d < 4) (cx : Cx Z X RL nm code 4 ret 12 269366 8294152) (hX : scOK Z X b L xs) (hj : 6 * j + 6 ≤ L) (hk : k + 100 ≤ 269366) (hn : n + 8900 ≤ 8294152) (hI : LI Z G V x y) (K : ∀ G' V', LI Z G' V' x y → Wm Z X 4 G' V' (k + 100) (n + 8900) Q 1950 [(0, some (.ref b)), (1, some (.ref x)), (2, some (.ref y)), (3, some (.int (nI (6 * j))))] []) : Wm Z X 4 G V k n Q 1914 [(0, some (.ref b)), (1, some (.ref x)), (2, some (.ref y)), (3, some (.int (nI (6 * j))))] [] := by
  obtain ⟨col, zk, S, hC, hM, hB⟩ := hI
  rcases (show zk = none ∨ ∃ z, zk = some z by cases zk with | none => exact Or.inl rfl | some z => exact Or.inr ⟨z, rfl⟩) with ez | ⟨z, ez⟩
  · refine x_aload_n (pc := 1914) cx (dA ddL35 (i := 24) rfl) rfl ?_
    refine x_V0 (pc := 1915) mL_205 hC.1.1 (c_X7_back hC) cx (dA ddL35 (i := 25) rfl) (kCI hM hB fun G1 V1 col1 hC hM hB => ?_)
    refine x_aload_n (pc := 1918) cx (dA ddL35 (i := 26) rfl) rfl ?_
    refine x_V0 (pc := 1919) mL_208 hM.1.1 (C_X8_back_n hM ez) cx (dA ddL35 (i := 27) rfl) (kMI hC hB fun V2 hC hM => ?_)
    refine x_icmp_eq (pc := 1922) (tgt := 1950) cx (dA ddL35 (i := 28) rfl) (by decide) (fun _ => ?_) (fun c => absurd rfl c)
    exact x_widen (by omega) (by omega) (K _ _ ⟨_, _, _, hC, hM, hB⟩)
  · refine x_aload_n (pc := 1914) cx (dA ddL35 (i := 24) rfl) rfl ?_
    refine x_V0 (pc := 1915) mL_205 hC.1.1 (c_X7_back hC) cx (dA ddL35 (i := 25) rfl) (kCI hM hB fun G1 V1 col1 hC hM hB => ?_)
    refine x_aload_n (pc := 1918) cx (dA ddL35 (i := 26) rfl) rfl ?_
    refine x_V0 (pc := 1919) mL_208 hM.1.1 (C_X8_back_s hM ez) cx (dA ddL35 (i := 27) rfl) (kMI hC hB fun V2 hC hM => ?_)
    refine x_icmp_eq (pc := 1922) (tgt := 1950) cx (dA ddL35 (i := 28) rfl) (by decide) (fun _ => ?_) (fun c => absurd rfl c)
    exact x_widen (by omega) (by omega) (K _ _ ⟨_, _, _, hC, hM, hB⟩)
theorem lc_status {Z : zP} {X : xP} {nm : String} {b L : Nat} {xs : Nat → Int32} {Q : State → Prop} {G : zG} {V : zV} {x y j k n : Nat} {D : Int32 → Int32} {vl : Int32 → Nat} (hDr : ∀ d, drw d = D d) (hvl : ∀ d, dvl d = vl d) (hv4 : ∀ d, vl d < 4) (cx : Cx Z X RL nm code 4 ret 12 269366 8294152) (hX : scOK Z X b L xs) (hj : 6 * j + 6 ≤ L) (hk : k + 100 ≤ 269366) (hn : n + 8900 ≤ 8294152) (hI : LI Z G V x y) (K : ∀ G' V', LI Z G' V' x y → Wm Z X 4 G' V' (k + 100) (n + 8900) Q 1950 [(0, some (.ref b)), (1, some (.ref x)), (2, some (.ref y)), (3, some (.int (nI (6 * j))))] []) : Wm Z X 4 G V k n Q 1927 [(0, some (.ref b)), (1, some (.ref x)), (2, some (.ref y)), (3, some (.int (nI (6 * j))))] [] := by
  obtain ⟨col, zk, S, hC, hM, hB⟩ := hI
  refine x_aload_n (pc := 1927) cx (dA ddL35 (i := 31) rfl) rfl ?_
  refine x_arg (pc := 1928) (q := 1) cx hX (dA ddL35 (i := 32) rfl) (dA ddL35 (i := 33) rfl) (dA ddL35 (i := 34) rfl) (dA ddL35 (i := 35) rfl) (dA ddL35 (i := 36) rfl) (by decide) rfl rfl (by omega) ?_
  refine x_V1 (pc := 1933) mL_209 hC.1.1 (c_X7_status hC) cx (dA ddL35 (i := 37) rfl) (kCI hM hB fun G1 V1 col1 hC hM hB => ?_)
  refine x_aload_n (pc := 1936) cx (dA ddL35 (i := 38) rfl) rfl ?_
  refine x_arg (pc := 1937) (q := 1) cx hX (dA ddL35 (i := 39) rfl) (dA ddL36 (i := 0) rfl) (dA ddL36 (i := 1) rfl) (dA ddL36 (i := 2) rfl) (dA ddL36 (i := 3) rfl) (by decide) rfl rfl (by omega) ?_
  refine x_V1 (pc := 1942) mL_212 hM.1.1 (c_X8_status hM) cx (dA ddL36 (i := 4) rfl) (kMI hC hB fun V2 hC hM => ?_)
  refine x_icmp_eq (pc := 1945) (tgt := 1950) cx (dA ddL36 (i := 5) rfl) (by decide) (fun _ => ?_) (fun c => absurd rfl c)
  exact x_widen (by omega) (by omega) (K _ _ ⟨_, _, _, hC, hM, hB⟩)
