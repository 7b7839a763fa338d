/-! THE WEEK at w: left, state, coins, boxes, parcels sent, parcels refused -/
abbrev WK : Type := Nat × Nat × Nat × Nat × Nat × Nat
def wkV (V : zV) (w : Nat) (τ : WK) : zV := (fun f a => if a = w then (if f = 252 then nI τ.1 else if f = 253 then nI τ.2.1 else if f = 254 then nI τ.2.2.1 else if f = 255 then nI τ.2.2.2.1 else if f = 256 then nI τ.2.2.2.2.1 else if f = 257 then nI τ.2.2.2.2.2 else V.1 f a) else V.1 f a, V.2)
def WeekV (V : zV) (w : Nat) (τ : WK) : Prop := V.1 252 w = nI τ.1 ∧ V.1 253 w = nI τ.2.1 ∧ V.1 254 w = nI τ.2.2.1 ∧ V.1 255 w = nI τ.2.2.2.1 ∧ V.1 256 w = nI τ.2.2.2.2.1 ∧ V.1 257 w = nI τ.2.2.2.2.2
theorem wkV_V {V : zV} {w : Nat} {τ : WK} : WeekV (wkV V w τ) w τ := by simp [WeekV, wkV]
theorem wkV_id {V : zV} {w : Nat} {τ : WK} (h : WeekV V w τ) : wkV V w τ = V := by
  obtain ⟨h1, h2, h3, h4, h5, h6⟩ := h
  obtain ⟨V1, V2⟩ := V
  unfold wkV
  congr 1
  funext f a
  dsimp only
  split
  · next e =>
    subst e
    split
    · next e => subst e; exact h1.symm
    · split
      · next e => subst e; exact h2.symm
      · split
        · next e => subst e; exact h3.symm
        · split
          · next e => subst e; exact h4.symm
          · split
            · next e => subst e; exact h5.symm
            · split
              · next e => subst e; exact h6.symm
              · rfl
  · rfl
theorem wkV_ex {V : zV} {w x : Nat} {τ : WK} (h : x ≠ w) (f : Nat) : (wkV V w τ).1 f x = V.1 f x := if_neg h
theorem wkV_lo {V : zV} {w x f : Nat} {τ : WK} (h : f < 252 ∨ 258 ≤ f) : (wkV V w τ).1 f x = V.1 f x := by
  unfold wkV
  dsimp only
  split
  · rw [if_neg (by omega), if_neg (by omega), if_neg (by omega), if_neg (by omega), if_neg (by omega), if_neg (by omega)]
  · rfl
theorem wk_s252 {V : zV} {w v : Nat} {τ : WK} : sI (wkV V w τ) 252 w (nI v) = wkV V w (v, τ.2) := by
  unfold sI wkV u2
  congr 1
  funext f a
  by_cases ha : a = w <;> by_cases hf : f = 252 <;> simp [ha, hf]
theorem wk_s253 {V : zV} {w v : Nat} {τ : WK} : sI (wkV V w τ) 253 w (nI v) = wkV V w (τ.1, v, τ.2.2) := by
  unfold sI wkV u2
  congr 1
  funext f a
  by_cases ha : a = w <;> by_cases hf : f = 253 <;> simp [ha, hf]
theorem wk_s254 {V : zV} {w v : Nat} {τ : WK} : sI (wkV V w τ) 254 w (nI v) = wkV V w (τ.1, τ.2.1, v, τ.2.2.2) := by
  unfold sI wkV u2
  congr 1
  funext f a
  by_cases ha : a = w <;> by_cases hf : f = 254 <;> simp [ha, hf]
theorem wk_s255 {V : zV} {w v : Nat} {τ : WK} : sI (wkV V w τ) 255 w (nI v) = wkV V w (τ.1, τ.2.1, τ.2.2.1, v, τ.2.2.2.2) := by
  unfold sI wkV u2
  congr 1
  funext f a
  by_cases ha : a = w <;> by_cases hf : f = 255 <;> simp [ha, hf]
theorem wk_s256 {V : zV} {w v : Nat} {τ : WK} : sI (wkV V w τ) 256 w (nI v) = wkV V w (τ.1, τ.2.1, τ.2.2.1, τ.2.2.2.1, v, τ.2.2.2.2.2) := by
  unfold sI wkV u2
  congr 1
  funext f a
  by_cases ha : a = w <;> by_cases hf : f = 256 <;> simp [ha, hf]
theorem wk_s257 {V : zV} {w v : Nat} {τ : WK} : sI (wkV V w τ) 257 w (nI v) = wkV V w (τ.1, τ.2.1, τ.2.2.1, τ.2.2.2.1, τ.2.2.2.2.1, v) := by
  unfold sI wkV u2
  congr 1
  funext f a
  by_cases ha : a = w <;> by_cases hf : f = 257 <;> simp [ha, hf]
theorem wk_all {V : zV} {w a b c d e f : Nat} : sI (sI (sI (sI (sI (sI V 252 w (nI a)) 253 w (nI b)) 254 w (nI c)) 255 w (nI d)) 256 w (nI e)) 257 w (nI f) = wkV V w (a, b, c, d, e, f) := by
  unfold sI wkV u2
  congr 1
  funext i x
  by_cases hx : x = w
  · by_cases h1 : i = 257
    · simp [hx, h1]
    · by_cases h2 : i = 256
      · simp [hx, h2]
      · by_cases h3 : i = 255
        · simp [hx, h3]
        · by_cases h4 : i = 254
          · simp [hx, h4]
          · by_cases h5 : i = 253
            · simp [hx, h5]
            · by_cases h6 : i = 252
              · simp [hx, h6]
              · simp [hx, h1, h2, h3, h4, h5, h6]
  · simp [hx]
def wnP (τ : WK) (i : Nat) : Nat := match i with
  | 0 => τ.1
  | 1 => τ.2.1
  | 2 => τ.2.2.1
  | 3 => τ.2.2.2.1
  | 4 => τ.2.2.2.2.1
  | _ => τ.2.2.2.2.2
def sendP (N : Nat → Nat) (τ : WK) (q : Nat) : Nat × WK := if q = 0 then (0, τ) else (N 1, τ.1, τ.2.1 - q, τ.2.2.1, τ.2.2.2.1 + 1, τ.2.2.2.2.1 + sumN (N 4) (dig q), τ.2.2.2.2.2)
def rcvP (N : Nat → Nat) (τ : WK) (k : Nat) : Nat × WK := if dig τ.2.1 k < 4 then (0, τ.1, τ.2.1 + 5 ^ k, τ.2.2) else (N (5 + 5 * k + 3), τ.1, τ.2.1, τ.2.2.1, τ.2.2.2.1, τ.2.2.2.2.1, τ.2.2.2.2.2 + 1)
theorem arA {G : zG} {a i b : Nat} (h : G.2.2.2 a i = some b) : va_rf (G.2.2.2 a i) = .ref b := by rw [h]; rfl
/-- draws -/
def drw (d : Int32) : Int32 := d * nI 1103515245 + nI 12345
def dvl (d : Int32) : Nat := d.toUInt32.toNat / 65536 % 4
theorem ush16 (x : Int32) : (x.toUInt32 >>> ((nI 16).toUInt32 &&& Int32.toUInt32 31)).toInt32 = nI (x.toUInt32.toNat / 65536) := by
  have h := x.toUInt32.toNat_lt
  apply Int32.toBitVec_inj.mp
  apply BitVec.eq_of_toNat_eq
  have e : ((nI 16).toUInt32 &&& Int32.toUInt32 31) = 16 := by decide
  rw [e]
  show (x.toUInt32 >>> 16).toNat = (BitVec.ofNat 32 (x.toUInt32.toNat / 65536)).toNat
  rw [UInt32.toNat_shiftRight, BitVec.toNat_ofNat, Nat.shiftRight_eq_div_pow]
  show x.toUInt32.toNat / 2 ^ 16 = _
  omega
/-- the week's numbers become another's -/
def wcV (V : zV) (w o : Nat) : zV := sI (sI (sI (sI (sI (sI V 252 w (V.1 252 o)) 253 w (V.1 253 o)) 254 w (V.1 254 o)) 255 w (V.1 255 o)) 256 w (V.1 256 o)) 257 w (V.1 257 o)
def hsA (w c : Nat) (x : Int32) : Option Nat := if 0 ≤ x.toInt ∧ x.toInt < (c : Int) then some (w + 5 + 2 * x.toInt.toNat) else none
theorem c_X5_daysLeft {l : Launch} {Z : zP} {G : zG} {V : zV} {w : Nat} (hW : WeekAt Z G w) {τ : WK} (hV : WeekV V w τ) : CT l Z yX5_daysLeft cX5_daysLeft 1 (some .int) 0 0 0 [.ref w] G V (pI (nI τ.1) G V) := by
  refine CT.of (by decide +kernel) (Nat.le_of_ble_eq_true rfl) (fun X hX cx => ?_)
  subst hX
  show Wm Z X 1 G V 0 0 _ 0 [(0, some (.ref w))] []
  have h0 := hW.1
  have hh := hW.2.2.1
  refine x_aload_n (pc := 0) cx (dA ddX5_daysLeft (i := 0) rfl) rfl ?_
  refine gX5_30 (pc := 1) (congrArg Value.int hV.1) cx (dA ddX5_daysLeft (i := 1) rfl) h0 ?_
  refine x_ireturn (pc := 4) cx (dA ddX5_daysLeft (i := 2) rfl) (by first | exact Nat.le_of_ble_eq_true rfl | omega) (by first | exact Nat.le_of_ble_eq_true rfl | omega) ?_
  exact rI rfl
theorem c_X5_isUnderWay_s {l : Launch} {Z : zP} {G : zG} {V : zV} {w : Nat} (hW : WeekAt Z G w) {q : Nat} (hq : G.2.2.1 251 w = some q) : CT l Z yX5_isUnderWay cX5_isUnderWay 1 (some .boolean) 0 0 0 [.ref w] G V (pI 1 G V) := by
  refine CT.of (by decide +kernel) (Nat.le_of_ble_eq_true rfl) (fun X hX cx => ?_)
  subst hX
  show Wm Z X 1 G V 0 0 _ 0 [(0, some (.ref w))] []
  have h0 := hW.1
  have hh := hW.2.2.1
  refine x_aload_n (pc := 0) cx (dA ddX5_isUnderWay (i := 0) rfl) rfl ?_
  refine gX5_22 (pc := 1) (rfA hq) cx (dA ddX5_isUnderWay (i := 1) rfl) h0 ?_
  refine x_ifnull_s (pc := 4) cx (dA ddX5_isUnderWay (i := 2) rfl) ?_
  refine x_iconst (pc := 7) (v := nI 1) cx (dA ddX5_isUnderWay (i := 3) rfl) (by decide) ?_
  refine x_goto (pc := 8) (tgt := 12) cx (dA ddX5_isUnderWay (i := 4) rfl) (by decide) ?_
  refine x_zreturn (pc := 12) cx (dA ddX5_isUnderWay (i := 6) rfl) (by first | exact Nat.le_of_ble_eq_true rfl | omega) (by first | exact Nat.le_of_ble_eq_true rfl | omega) rfl ?_
  exact rI rfl
theorem c_X5_isUnderWay_n {l : Launch} {Z : zP} {G : zG} {V : zV} {w : Nat} (hW : WeekAt Z G w) (hq : G.2.2.1 251 w = none) : CT l Z yX5_isUnderWay cX5_isUnderWay 1 (some .boolean) 0 0 0 [.ref w] G V (pI 0 G V) := by
  refine CT.of (by decide +kernel) (Nat.le_of_ble_eq_true rfl) (fun X hX cx => ?_)
  subst hX
  show Wm Z X 1 G V 0 0 _ 0 [(0, some (.ref w))] []
  have h0 := hW.1
  have hh := hW.2.2.1
  refine x_aload_n (pc := 0) cx (dA ddX5_isUnderWay (i := 0) rfl) rfl ?_
  refine gX5_22 (pc := 1) ((show va_rf (G.2.2.1 251 w) = .null by rw [hq]; rfl)) cx (dA ddX5_isUnderWay (i := 1) rfl) h0 ?_
  refine x_ifnull_n (pc := 4) (tgt := 11) cx (dA ddX5_isUnderWay (i := 2) rfl) (by decide) ?_
  refine x_iconst (pc := 11) (v := nI 0) cx (dA ddX5_isUnderWay (i := 5) rfl) (by decide) ?_
  refine x_zreturn (pc := 12) cx (dA ddX5_isUnderWay (i := 6) rfl) (by first | exact Nat.le_of_ble_eq_true rfl | omega) (by first | exact Nat.le_of_ble_eq_true rfl | omega) rfl ?_
  exact rI rfl
theorem c_X5_start {l : Launch} {Z : zP} {G : zG} {V : zV} {w : Nat} (hW : WeekAt Z G w) {h q : Nat} (oH : HouseAt Z G h) {M : Nat → Nat} (oV : HouseV V h M) (oB : HouseB M) (hw : h ≠ w + 1) : CT l Z yX5_start cX5_start 3 none 2 0 0 [.ref w, .ref h, .ref q] G V (pV (sR G 251 w (some q)) (wkV (rAI V (w + 1 + 1) 0 20 (fun j => V.2.2.1 (h + 1) j)) w (M 0, 0, 0, 0, 0, 0))) := by
  refine CT.of (by decide +kernel) (Nat.le_of_ble_eq_true rfl) (fun X hX cx => ?_)
  subst hX
  show Wm Z X 3 G V 0 0 _ 0 [(0, some (.ref w)), (1, some (.ref h)), (2, some (.ref q))] []
  have h0 := hW.1
  have hh := hW.2.2.1
  refine x_aload_n (pc := 0) cx (dA ddX5_start (i := 0) rfl) rfl ?_
  refine gX5_12 (pc := 1) (rfA hW.2.1) cx (dA ddX5_start (i := 1) rfl) h0 ?_
  refine x_aload_n (pc := 4) cx (dA ddX5_start (i := 2) rfl) rfl ?_
  refine x_V1 (pc := 5) mX5_18 hh (c_X0_become hW.2.2 oH) cx (dA ddX5_start (i := 3) rfl) (kV ?_)
  refine x_aload_n (pc := 8) cx (dA ddX5_start (i := 4) rfl) rfl ?_
  refine x_aload_n (pc := 9) cx (dA ddX5_start (i := 5) rfl) rfl ?_
  refine pX5_22 (pc := 10) (x := some q) cx (dA ddX5_start (i := 6) rfl) h0 ?_
  refine x_aload_n (pc := 13) cx (dA ddX5_start (i := 7) rfl) rfl ?_
  refine x_aload_n (pc := 14) cx (dA ddX5_start (i := 8) rfl) rfl ?_
  refine x_V0 (pc := 15) mX5_26 oH.1 (c_X0_days (show HouseAt Z (sR G 251 w (some q)) h from oH) (show HouseV (rAI V (w + 1 + 1) 0 20 (fun j => V.2.2.1 (h + 1) j)) h M from fun j hj => (rAI_ne (by omega) j).trans (oV j hj)) oB) cx (dA ddX5_start (i := 9) rfl) (kI ?_)
  refine pX5_30 (pc := 18)  cx (dA ddX5_start (i := 10) rfl) h0 ?_
  refine x_aload_n (pc := 21) cx (dA ddX5_start (i := 11) rfl) rfl ?_
  refine x_iconst (pc := 22) (v := nI 0) cx (dA ddX5_start (i := 12) rfl) (by decide) ?_
  refine pX5_34 (pc := 23)  cx (dA ddX5_start (i := 13) rfl) h0 ?_
  refine x_aload_n (pc := 26) cx (dA ddX5_start (i := 14) rfl) rfl ?_
  refine x_iconst (pc := 27) (v := nI 0) cx (dA ddX5_start (i := 15) rfl) (by decide) ?_
  refine pX5_37 (pc := 28)  cx (dA ddX5_start (i := 16) rfl) h0 ?_
  refine x_aload_n (pc := 31) cx (dA ddX5_start (i := 17) rfl) rfl ?_
  refine x_iconst (pc := 32) (v := nI 0) cx (dA ddX5_start (i := 18) rfl) (by decide) ?_
  refine pX5_40 (pc := 33)  cx (dA ddX5_start (i := 19) rfl) h0 ?_
  refine x_aload_n (pc := 36) cx (dA ddX5_start (i := 20) rfl) rfl ?_
  refine x_iconst (pc := 37) (v := nI 0) cx (dA ddX5_start (i := 21) rfl) (by decide) ?_
  refine pX5_43 (pc := 38)  cx (dA ddX5_start (i := 22) rfl) h0 ?_
  refine x_aload_n (pc := 41) cx (dA ddX5_start (i := 23) rfl) rfl ?_
  refine x_iconst (pc := 42) (v := nI 0) cx (dA ddX5_start (i := 24) rfl) (by decide) ?_
  refine pX5_46 (pc := 43)  cx (dA ddX5_start (i := 25) rfl) h0 ?_
  rw [wk_all]
  refine x_return (pc := 46) cx (dA ddX5_start (i := 26) rfl) (by first | exact Nat.le_of_ble_eq_true rfl | omega) (by first | exact Nat.le_of_ble_eq_true rfl | omega) ?_
  exact ⟨rfl, rfl, rfl⟩
theorem c_X5_become {l : Launch} {Z : zP} {G : zG} {V : zV} {w : Nat} (hW : WeekAt Z G w) {o : Nat} (oW : WeekAt Z G o) (ow : o ≠ w) : CT l Z yX5_become cX5_become 2 none 2 0 0 [.ref w, .ref o] G V (pV (sR G 251 w (G.2.2.1 251 o)) (wcV (rAI V (w + 1 + 1) 0 20 (fun j => V.2.2.1 (o + 1 + 1) j)) w o)) := by
  refine CT.of (by decide +kernel) (Nat.le_of_ble_eq_true rfl) (fun X hX cx => ?_)
  subst hX
  show Wm Z X 2 G V 0 0 _ 0 [(0, some (.ref w)), (1, some (.ref o))] []
  have h0 := hW.1
  have hh := hW.2.2.1
  refine x_aload_n (pc := 0) cx (dA ddX5_become (i := 0) rfl) rfl ?_
  refine gX5_12 (pc := 1) (rfA hW.2.1) cx (dA ddX5_become (i := 1) rfl) h0 ?_
  refine x_aload_n (pc := 4) cx (dA ddX5_become (i := 2) rfl) rfl ?_
  refine gX5_12 (pc := 5) (rfA oW.2.1) cx (dA ddX5_become (i := 3) rfl) oW.1 ?_
  refine x_V1 (pc := 8) mX5_18 hh (c_X0_become hW.2.2 oW.2.2) cx (dA ddX5_become (i := 4) rfl) (kV ?_)
  refine x_aload_n (pc := 11) cx (dA ddX5_become (i := 5) rfl) rfl ?_
  refine x_aload_n (pc := 12) cx (dA ddX5_become (i := 6) rfl) rfl ?_
  refine gX5_22 (pc := 13) rfl cx (dA ddX5_become (i := 7) rfl) oW.1 ?_
  refine pX5_22 (pc := 16) (x := (G.2.2.1 251 o)) cx (dA ddX5_become (i := 8) rfl) h0 ?_
  refine x_aload_n (pc := 19) cx (dA ddX5_become (i := 9) rfl) rfl ?_
  refine x_aload_n (pc := 20) cx (dA ddX5_become (i := 10) rfl) rfl ?_
  refine gX5_30 (pc := 21) (congrArg Value.int (show (rAI V (w + 1 + 1) 0 20 (fun j => V.2.2.1 (o + 1 + 1) j)).1 252 o = V.1 252 o from rfl)) cx (dA ddX5_become (i := 11) rfl) oW.1 ?_
  refine pX5_30 (pc := 24)  cx (dA ddX5_become (i := 12) rfl) h0 ?_
  refine x_aload_n (pc := 27) cx (dA ddX5_become (i := 13) rfl) rfl ?_
  refine x_aload_n (pc := 28) cx (dA ddX5_become (i := 14) rfl) rfl ?_
  refine gX5_34 (pc := 29) (congrArg Value.int (show (sI (rAI V (w + 1 + 1) 0 20 (fun j => V.2.2.1 (o + 1 + 1) j)) 252 w (V.1 252 o)).1 253 o = V.1 253 o from (sI_na ow).trans (rfl))) cx (dA ddX5_become (i := 15) rfl) oW.1 ?_
  refine pX5_34 (pc := 32)  cx (dA ddX5_become (i := 16) rfl) h0 ?_
  refine x_aload_n (pc := 35) cx (dA ddX5_become (i := 17) rfl) rfl ?_
  refine x_aload_n (pc := 36) cx (dA ddX5_become (i := 18) rfl) rfl ?_
  refine gX5_37 (pc := 37) (congrArg Value.int (show (sI (sI (rAI V (w + 1 + 1) 0 20 (fun j => V.2.2.1 (o + 1 + 1) j)) 252 w (V.1 252 o)) 253 w (V.1 253 o)).1 254 o = V.1 254 o from (sI_na ow).trans ((sI_na ow).trans (rfl)))) cx (dA ddX5_become (i := 19) rfl) oW.1 ?_
  refine pX5_37 (pc := 40)  cx (dA ddX5_become (i := 20) rfl) h0 ?_
  refine x_aload_n (pc := 43) cx (dA ddX5_become (i := 21) rfl) rfl ?_
  refine x_aload_n (pc := 44) cx (dA ddX5_become (i := 22) rfl) rfl ?_
  refine gX5_40 (pc := 45) (congrArg Value.int (show (sI (sI (sI (rAI V (w + 1 + 1) 0 20 (fun j => V.2.2.1 (o + 1 + 1) j)) 252 w (V.1 252 o)) 253 w (V.1 253 o)) 254 w (V.1 254 o)).1 255 o = V.1 255 o from (sI_na ow).trans ((sI_na ow).trans ((sI_na ow).trans (rfl))))) cx (dA ddX5_become (i := 23) rfl) oW.1 ?_
  refine pX5_40 (pc := 48)  cx (dA ddX5_become (i := 24) rfl) h0 ?_
  refine x_aload_n (pc := 51) cx (dA ddX5_become (i := 25) rfl) rfl ?_
  refine x_aload_n (pc := 52) cx (dA ddX5_become (i := 26) rfl) rfl ?_
  refine gX5_43 (pc := 53) (congrArg Value.int (show (sI (sI (sI (sI (rAI V (w + 1 + 1) 0 20 (fun j => V.2.2.1 (o + 1 + 1) j)) 252 w (V.1 252 o)) 253 w (V.1 253 o)) 254 w (V.1 254 o)) 255 w (V.1 255 o)).1 256 o = V.1 256 o from (sI_na ow).trans ((sI_na ow).trans ((sI_na ow).trans ((sI_na ow).trans (rfl)))))) cx (dA ddX5_become (i := 27) rfl) oW.1 ?_
  refine pX5_43 (pc := 56)  cx (dA ddX5_become (i := 28) rfl) h0 ?_
  refine x_aload_n (pc := 59) cx (dA ddX5_become (i := 29) rfl) rfl ?_
  refine x_aload_n (pc := 60) cx (dA ddX5_become (i := 30) rfl) rfl ?_
  refine gX5_46 (pc := 61) (congrArg Value.int (show (sI (sI (sI (sI (sI (rAI V (w + 1 + 1) 0 20 (fun j => V.2.2.1 (o + 1 + 1) j)) 252 w (V.1 252 o)) 253 w (V.1 253 o)) 254 w (V.1 254 o)) 255 w (V.1 255 o)) 256 w (V.1 256 o)).1 257 o = V.1 257 o from (sI_na ow).trans ((sI_na ow).trans ((sI_na ow).trans ((sI_na ow).trans ((sI_na ow).trans (rfl))))))) cx (dA ddX5_become (i := 31) rfl) oW.1 ?_
  refine pX5_46 (pc := 64)  cx (dA ddX5_become (i := 32) rfl) h0 ?_
  refine x_return (pc := 67) cx (dA ddX5_become (i := 33) rfl) (by first | exact Nat.le_of_ble_eq_true rfl | omega) (by first | exact Nat.le_of_ble_eq_true rfl | omega) ?_
  exact ⟨rfl, rfl, rfl⟩
theorem c_X5_send {l : Launch} {Z : zP} {G : zG} {V : zV} {w : Nat} (hW : WeekAt Z G w) {N : Nat → Nat} (hN : HouseV V (w + 1) N) (hB : HouseB N) {τ : WK} {q : Nat} (hq : q ≤ τ.2.1) (hs : τ.2.1 < 125) : CT l Z yX5_send cX5_send 3 (some .int) 2 0 0 [.ref w, .int (nI q)] G (wkV V w τ) (pI (nI (sendP N τ q).1) G (wkV V w (sendP N τ q).2)) := by
  refine CT.of (by decide +kernel) (Nat.le_of_ble_eq_true rfl) (fun X hX cx => ?_)
  subst hX
  show Wm Z X 3 G (wkV V w τ) 0 0 _ 0 [(0, some (.ref w)), (1, some (.int (nI q)))] []
  have h0 := hW.1
  have hh := hW.2.2.1
  have n4 := hB.1
  refine x_iload_n (pc := 0) cx (dA ddX5_send (i := 0) rfl) rfl ?_
  refine x_if_ne (pc := 1) (tgt := 6) cx (dA ddX5_send (i := 1) rfl) (by decide) (fun c1 => ?_) (fun c1 => ?_)
  · have q0 : ¬ q = 0 := fun e => c1 (by rw [e]; rfl)
    refine x_aload_n (pc := 6) cx (dA ddX5_send (i := 4) rfl) rfl ?_
    refine x_dup (pc := 7) cx rfl (dA ddX5_send (i := 5) rfl) ?_
    refine gX5_34 (pc := 8) (congrArg Value.int wkV_V.2.1) cx (dA ddX5_send (i := 6) rfl) h0 ?_
    refine x_iload_n (pc := 11) cx (dA ddX5_send (i := 7) rfl) rfl ?_
    refine x_isub (pc := 12) cx (dA ddX5_send (i := 8) rfl) ?_
    rw [pk_sub hq]
    refine pX5_34 (pc := 13)  cx (dA ddX5_send (i := 9) rfl) h0 ?_
    rw [wk_s253]
    refine x_aload_n (pc := 16) cx (dA ddX5_send (i := 10) rfl) rfl ?_
    refine x_dup (pc := 17) cx rfl (dA ddX5_send (i := 11) rfl) ?_
    refine gX5_40 (pc := 18) (congrArg Value.int wkV_V.2.2.2.1) cx (dA ddX5_send (i := 12) rfl) h0 ?_
    refine x_iconst (pc := 21) (v := nI 1) cx (dA ddX5_send (i := 13) rfl) (by decide) ?_
    refine x_iadd (pc := 22) cx (dA ddX5_send (i := 14) rfl) ?_
    rw [nI_add]
    refine pX5_40 (pc := 23)  cx (dA ddX5_send (i := 15) rfl) h0 ?_
    rw [wk_s255]
    refine x_iconst (pc := 26) (v := nI 0) cx (dA ddX5_send (i := 16) rfl) (by decide) ?_
    refine x_istore_n (pc := 27) cx (dA ddX5_send (i := 17) rfl) (by decide) rfl ?_
    have L28 : ∀ k, k ≤ N 4 → Wm Z X 3 G (wkV V w (τ.1, τ.2.1 - q, τ.2.2.1, τ.2.2.2.1 + 1, τ.2.2.2.2.1 + sumN k (dig q), τ.2.2.2.2.2)) 0 0 (rQ Z X 0 0 (pI (nI (sendP N τ q).1) G (wkV V w (sendP N τ q).2))) 28 [(0, some (.ref w)), (1, some (.int (nI q))), (2, some (.int (nI k)))] [] := by
      refine lpU (N 4) (fun k hk ih => ?_)
      refine x_iload_n (pc := 28) cx (dA ddX5_send (i := 18) rfl) rfl ?_
      refine x_aload_n (pc := 29) cx (dA ddX5_send (i := 19) rfl) rfl ?_
      refine gX5_12 (pc := 30) (rfA hW.2.1) cx (dA ddX5_send (i := 20) rfl) h0 ?_
      refine x_V0 (pc := 33) mX5_71 hh (c_X0_sorts (V := wkV V w (τ.1, τ.2.1 - q, τ.2.2.1, τ.2.2.2.1 + 1, τ.2.2.2.2.1 + sumN k (dig q), τ.2.2.2.2.2)) hW.2.2 hN hB) cx (dA ddX5_send (i := 21) rfl) (kI ?_)
      refine x_icmp_ge (pc := 36) (tgt := 59) cx (dA ddX5_send (i := 22) rfl) (by decide) (fun c36 => ?_) (fun c36 => ?_)
      · have c36 := cleT (by omega) (by omega) c36
        have ek : k = N 4 := by omega
        subst ek
        refine x_aload_n (pc := 59) cx (dA ddX5_send (i := 33) rfl) rfl ?_
        refine gX5_12 (pc := 60) (rfA hW.2.1) cx (dA ddX5_send (i := 34) rfl) h0 ?_
        refine x_iconst (pc := 63) (v := nI 1) cx (dA ddX5_send (i := 35) rfl) (by decide) ?_
        refine x_V1 (pc := 64) mX5_55 hh (c_X0_number hW.2.2 (V := wkV V w (τ.1, τ.2.1 - q, τ.2.2.1, τ.2.2.2.1 + 1, τ.2.2.2.2.1 + sumN (N 4) (dig q), τ.2.2.2.2.2)) hN hB (w := 1) (by omega)) cx (dA ddX5_send (i := 36) rfl) (kI ?_)
        refine x_ireturn (pc := 67) cx (dA ddX5_send (i := 37) rfl) (by first | exact Nat.le_of_ble_eq_true rfl | omega) (by first | exact Nat.le_of_ble_eq_true rfl | omega) ?_
        unfold sendP
        rw [if_neg q0]
        exact rI rfl
      · have c36 := cleF (by omega) (by omega) c36
        refine x_aload_n (pc := 39) cx (dA ddX5_send (i := 23) rfl) rfl ?_
        refine x_dup (pc := 40) cx rfl (dA ddX5_send (i := 24) rfl) ?_
        refine gX5_43 (pc := 41) (congrArg Value.int wkV_V.2.2.2.2.1) cx (dA ddX5_send (i := 25) rfl) h0 ?_
        refine x_iload_n (pc := 44) cx (dA ddX5_send (i := 26) rfl) rfl ?_
        refine x_iload_n (pc := 45) cx (dA ddX5_send (i := 27) rfl) rfl ?_
        refine x_SN2 (pc := 46) mX5_80 (c_X7_standing (by omega) (by omega)) cx (dA ddX5_send (i := 28) rfl) (kI ?_)
        refine x_iadd (pc := 49) cx (dA ddX5_send (i := 29) rfl) ?_
        rw [nI_add]
        refine pX5_43 (pc := 50)  cx (dA ddX5_send (i := 30) rfl) h0 ?_
        rw [wk_s256]
        refine x_iinc (pc := 53) cx (dA ddX5_send (i := 31) rfl) rfl (iinc1 _) (by decide) rfl ?_
        refine x_goto (pc := 56) (tgt := 28) cx (dA ddX5_send (i := 32) rfl) (by decide) ?_
        have L := ih (by omega)
        rw [show sumN (k + 1) (dig q) = sumN k (dig q) + dig q k from rfl, ← Nat.add_assoc] at L
        exact x_enter L ⟨.inr rfl, .inr rfl, .inr rfl, trivial⟩
    exact x_enter (L28 0 (Nat.zero_le _)) ⟨.inr rfl, .inr rfl, .inr rfl, trivial⟩
  · have q0 : q = 0 := nI_inj (b := 0) (by omega) (by decide) c1
    refine x_iconst (pc := 4) (v := nI 0) cx (dA ddX5_send (i := 2) rfl) (by decide) ?_
    refine x_ireturn (pc := 5) cx (dA ddX5_send (i := 3) rfl) (by first | exact Nat.le_of_ble_eq_true rfl | omega) (by first | exact Nat.le_of_ble_eq_true rfl | omega) ?_
    unfold sendP
    rw [if_pos q0]
    exact rI rfl
theorem c_X5_receive {l : Launch} {Z : zP} {G : zG} {V : zV} {w : Nat} (hW : WeekAt Z G w) {N : Nat → Nat} (hN : HouseV V (w + 1) N) (hB : HouseB N) {τ : WK} {k : Nat} (hk : k < 3) (hs : τ.2.1 < 125) : CT l Z yX5_receive cX5_receive 2 (some .int) 2 0 0 [.ref w, .int (nI k)] G (wkV V w τ) (pI (nI (rcvP N τ k).1) G (wkV V w (rcvP N τ k).2)) := by
  refine CT.of (by decide +kernel) (Nat.le_of_ble_eq_true rfl) (fun X hX cx => ?_)
  subst hX
  show Wm Z X 2 G (wkV V w τ) 0 0 _ 0 [(0, some (.ref w)), (1, some (.int (nI k)))] []
  have h0 := hW.1
  have hh := hW.2.2.1
  refine x_aload_n (pc := 0) cx (dA ddX5_receive (i := 0) rfl) rfl ?_
  refine gX5_34 (pc := 1) (congrArg Value.int wkV_V.2.1) cx (dA ddX5_receive (i := 1) rfl) h0 ?_
  refine x_iload_n (pc := 4) cx (dA ddX5_receive (i := 2) rfl) rfl ?_
  refine x_SN2 (pc := 5) mX5_80 (c_X7_standing (by omega) (by omega)) cx (dA ddX5_receive (i := 3) rfl) (kI ?_)
  have dl := dig_lt τ.2.1 k
  refine x_iconst (pc := 8) (v := nI 4) cx (dA ddX5_receive (i := 4) rfl) (by decide) ?_
  refine x_icmp_ge (pc := 9) (tgt := 27) cx (dA ddX5_receive (i := 5) rfl) (by decide) (fun c9 => ?_) (fun c9 => ?_)
  · have c9 := cleT (by omega) (by omega) c9
    have e9 : rcvP N τ k = (N (5 + 5 * k + 3), τ.1, τ.2.1, τ.2.2.1, τ.2.2.2.1, τ.2.2.2.2.1, τ.2.2.2.2.2 + 1) := if_neg (by omega)
    refine x_aload_n (pc := 27) cx (dA ddX5_receive (i := 15) rfl) rfl ?_
    refine x_dup (pc := 28) cx rfl (dA ddX5_receive (i := 16) rfl) ?_
    refine gX5_46 (pc := 29) (congrArg Value.int wkV_V.2.2.2.2.2) cx (dA ddX5_receive (i := 17) rfl) h0 ?_
    refine x_iconst (pc := 32) (v := nI 1) cx (dA ddX5_receive (i := 18) rfl) (by decide) ?_
    refine x_iadd (pc := 33) cx (dA ddX5_receive (i := 19) rfl) ?_
    rw [nI_add]
    refine pX5_46 (pc := 34)  cx (dA ddX5_receive (i := 20) rfl) h0 ?_
    rw [wk_s257]
    refine x_aload_n (pc := 37) cx (dA ddX5_receive (i := 21) rfl) rfl ?_
    refine gX5_12 (pc := 38) (rfA hW.2.1) cx (dA ddX5_receive (i := 22) rfl) h0 ?_
    refine x_iload_n (pc := 41) cx (dA ddX5_receive (i := 23) rfl) rfl ?_
    refine x_iconst (pc := 42) (v := nI 3) cx (dA ddX5_receive (i := 24) rfl) (by decide) ?_
    refine x_V2 (pc := 43) mX5_74 hh (c_X0_sortNumber hW.2.2 (V := wkV V w (τ.1, τ.2.1, τ.2.2.1, τ.2.2.2.1, τ.2.2.2.2.1, τ.2.2.2.2.2 + 1)) hN hB (s := k) (w := 3) (by omega) (by omega)) cx (dA ddX5_receive (i := 25) rfl) (kI ?_)
    refine x_ireturn (pc := 46) cx (dA ddX5_receive (i := 26) rfl) (by first | exact Nat.le_of_ble_eq_true rfl | omega) (by first | exact Nat.le_of_ble_eq_true rfl | omega) ?_
    rw [e9]
    exact rI rfl
  · have c9 := cleF (by omega) (by omega) c9
    have e9 : rcvP N τ k = (0, τ.1, τ.2.1 + 5 ^ k, τ.2.2) := if_pos c9
    refine x_aload_n (pc := 12) cx (dA ddX5_receive (i := 6) rfl) rfl ?_
    refine x_dup (pc := 13) cx rfl (dA ddX5_receive (i := 7) rfl) ?_
    refine gX5_34 (pc := 14) (congrArg Value.int wkV_V.2.1) cx (dA ddX5_receive (i := 8) rfl) h0 ?_
    refine x_iload_n (pc := 17) cx (dA ddX5_receive (i := 9) rfl) rfl ?_
    refine x_SN1 (pc := 18) mX5_83 (c_X7_oneOf (by omega)) cx (dA ddX5_receive (i := 10) rfl) (kI ?_)
    refine x_iadd (pc := 21) cx (dA ddX5_receive (i := 11) rfl) ?_
    rw [nI_add]
    refine pX5_34 (pc := 22)  cx (dA ddX5_receive (i := 12) rfl) h0 ?_
    rw [wk_s253]
    refine x_iconst (pc := 25) (v := nI 0) cx (dA ddX5_receive (i := 13) rfl) (by decide) ?_
    refine x_ireturn (pc := 26) cx (dA ddX5_receive (i := 14) rfl) (by first | exact Nat.le_of_ble_eq_true rfl | omega) (by first | exact Nat.le_of_ble_eq_true rfl | omega) ?_
    rw [e9]
    exact rI rfl
theorem c_X6_draw {l : Launch} {Z : zP} {G : zG} {V : zV} {w : Nat} (hD : WorldAt Z G w) {d : Int32} (hd : V.1 302 w = d) : CT l Z yX6_draw cX6_draw 2 (some .int) 0 0 0 [.ref w, .int (nI 4)] G V (pI (nI (dvl (drw d))) G (sI V 302 w (drw d))) := by
  refine CT.of (by decide +kernel) (Nat.le_of_ble_eq_true rfl) (fun X hX cx => ?_)
  subst hX
  show Wm Z X 2 G V 0 0 _ 0 [(0, some (.ref w)), (1, some (.int (nI 4)))] []
  have h0 := hD.1
  have hA := hD.2.2.1
  refine x_aload_n (pc := 0) cx (dA ddX6_draw (i := 0) rfl) rfl ?_
  refine x_aload_n (pc := 1) cx (dA ddX6_draw (i := 1) rfl) rfl ?_
  refine gX6_17 (pc := 2) (congrArg Value.int hd) cx (dA ddX6_draw (i := 2) rfl) h0 ?_
  refine x_ldc (pc := 5) cx kcX6_39 (dA ddX6_draw (i := 3) rfl) ?_
  refine x_imul (pc := 7) cx (dA ddX6_draw (i := 4) rfl) ?_
  refine x_sipush (pc := 8) (v := nI 12345) cx (dA ddX6_draw (i := 5) rfl) (by decide) ?_
  refine x_iadd (pc := 11) cx (dA ddX6_draw (i := 6) rfl) ?_
  rw [show d * nI 1103515245 + nI 12345 = drw d from rfl]
  refine pX6_17 (pc := 12)  cx (dA ddX6_draw (i := 7) rfl) h0 ?_
  refine x_iload_n (pc := 15) cx (dA ddX6_draw (i := 8) rfl) rfl ?_
  refine x_if_le (pc := 16) (tgt := 31) cx (dA ddX6_draw (i := 9) rfl) (by decide) (fun c16 => absurd c16 (by decide)) (fun c16 => ?_)
  refine x_aload_n (pc := 19) cx (dA ddX6_draw (i := 10) rfl) rfl ?_
  refine gX6_17 (pc := 20) (congrArg Value.int sI_eq) cx (dA ddX6_draw (i := 11) rfl) h0 ?_
  refine x_bipush (pc := 23) (v := nI 16) cx (dA ddX6_draw (i := 12) rfl) (by decide) ?_
  refine x_iushr (pc := 25) cx (dA ddX6_draw (i := 13) rfl) ?_
  rw [ush16]
  refine x_iload_n (pc := 26) cx (dA ddX6_draw (i := 14) rfl) rfl ?_
  refine x_irem (pc := 27) cx (by decide) (dA ddX6_draw (i := 15) rfl) ?_
  have h32 := (drw d).toUInt32.toNat_lt
  rw [rem32 (by omega) (by omega) (by omega)]
  refine x_goto (pc := 28) (tgt := 32) cx (dA ddX6_draw (i := 16) rfl) (by decide) ?_
  refine x_ireturn (pc := 32) cx (dA ddX6_draw (i := 18) rfl) (by first | exact Nat.le_of_ble_eq_true rfl | omega) (by first | exact Nat.le_of_ble_eq_true rfl | omega) ?_
  exact rI rfl
theorem c_X6_isFull {l : Launch} {Z : zP} {G : zG} {V : zV} {w : Nat} (hD : WorldAt Z G w) {c : Nat} (hc : V.1 301 w = nI c) (c6 : c ≤ 6) : CT l Z yX6_isFull cX6_isFull 1 (some .boolean) 0 0 0 [.ref w] G V (pI (b2i (6 ≤ c)) G V) := by
  refine CT.of (by decide +kernel) (Nat.le_of_ble_eq_true rfl) (fun X hX cx => ?_)
  subst hX
  show Wm Z X 1 G V 0 0 _ 0 [(0, some (.ref w))] []
  have h0 := hD.1
  have hA := hD.2.2.1
  refine x_aload_n (pc := 0) cx (dA ddX6_isFull (i := 0) rfl) rfl ?_
  refine gX6_29 (pc := 1) (congrArg Value.int hc) cx (dA ddX6_isFull (i := 1) rfl) h0 ?_
  refine x_aload_n (pc := 4) cx (dA ddX6_isFull (i := 2) rfl) rfl ?_
  refine gX6_11 (pc := 5) (rfA hD.2.1) cx (dA ddX6_isFull (i := 3) rfl) h0 ?_
  refine x_alen (pc := 8) cx (dA ddX6_isFull (i := 4) rfl) hA (by decide) ?_
  refine x_icmp_lt (pc := 9) (tgt := 16) cx (dA ddX6_isFull (i := 5) rfl) (by decide) (fun c9 => ?_) (fun c9 => ?_)
  · have c9 := cltT (by omega) (by omega) c9
    refine x_iconst (pc := 16) (v := nI 0) cx (dA ddX6_isFull (i := 8) rfl) (by decide) ?_
    refine x_zreturn (pc := 17) cx (dA ddX6_isFull (i := 9) rfl) (by first | exact Nat.le_of_ble_eq_true rfl | omega) (by first | exact Nat.le_of_ble_eq_true rfl | omega) rfl ?_
    refine rI ?_
    first | exact (b2i_t (by omega)).symm | exact (b2i_f (by omega)).symm
  · have c9 := cltF (by omega) (by omega) c9
    refine x_iconst (pc := 12) (v := nI 1) cx (dA ddX6_isFull (i := 6) rfl) (by decide) ?_
    refine x_goto (pc := 13) (tgt := 17) cx (dA ddX6_isFull (i := 7) rfl) (by decide) ?_
    refine x_zreturn (pc := 17) cx (dA ddX6_isFull (i := 9) rfl) (by first | exact Nat.le_of_ble_eq_true rfl | omega) (by first | exact Nat.le_of_ble_eq_true rfl | omega) rfl ?_
    refine rI ?_
    first | exact (b2i_t (by omega)).symm | exact (b2i_f (by omega)).symm
theorem c_X6_houseAt {l : Launch} {Z : zP} {G : zG} {V : zV} {w : Nat} (hD : WorldAt Z G w) {c : Nat} (hc : V.1 301 w = nI c) (c6 : c ≤ 6) {x : Int32} : CT l Z yX6_houseAt cX6_houseAt 2 (some (.object "SendTheBox$House")) 0 0 0 [.ref w, .int x] G V (pR (hsA w c x) G V) := by
  refine CT.of (by decide +kernel) (Nat.le_of_ble_eq_true rfl) (fun X hX cx => ?_)
  subst hX
  show Wm Z X 2 G V 0 0 _ 0 [(0, some (.ref w)), (1, some (.int x))] []
  have h0 := hD.1
  have hA := hD.2.2.1
  refine x_iload_n (pc := 0) cx (dA ddX6_houseAt (i := 0) rfl) rfl ?_
  refine x_if_lt (pc := 1) (tgt := 30) cx (dA ddX6_houseAt (i := 1) rfl) (by decide) (fun c1 => ?_) (fun c1 => ?_)
  · have e9 : hsA w c x = none := if_neg (by rw [i32_lt, toI_0] at c1; omega)
    refine x_null (pc := 30) cx (dA ddX6_houseAt (i := 16) rfl) ?_
    refine x_areturn (pc := 31) (o := none) cx (dA ddX6_houseAt (i := 17) rfl) (by first | exact Nat.le_of_ble_eq_true rfl | omega) (by first | exact Nat.le_of_ble_eq_true rfl | omega) ?_
    rw [e9]
    exact ⟨rfl, rfl, rfl⟩
  · obtain ⟨i, hi, rfl⟩ := i32_nat c1
    have ti := nI_toInt hi
    refine x_iload_n (pc := 4) cx (dA ddX6_houseAt (i := 2) rfl) rfl ?_
    refine x_aload_n (pc := 5) cx (dA ddX6_houseAt (i := 3) rfl) rfl ?_
    refine gX6_29 (pc := 6) (congrArg Value.int hc) cx (dA ddX6_houseAt (i := 4) rfl) h0 ?_
    refine x_icmp_ge (pc := 9) (tgt := 30) cx (dA ddX6_houseAt (i := 5) rfl) (by decide) (fun c9 => ?_) (fun c9 => ?_)
    · have c9 := cleT (by omega) (by omega) c9
      have e9 : hsA w c (nI i) = none := if_neg (by omega)
      refine x_null (pc := 30) cx (dA ddX6_houseAt (i := 16) rfl) ?_
      refine x_areturn (pc := 31) (o := none) cx (dA ddX6_houseAt (i := 17) rfl) (by first | exact Nat.le_of_ble_eq_true rfl | omega) (by first | exact Nat.le_of_ble_eq_true rfl | omega) ?_
      rw [e9]
      exact ⟨rfl, rfl, rfl⟩
    · have c9 := cleF (by omega) (by omega) c9
      have e9 : hsA w c (nI i) = some (w + 5 + 2 * i) := by unfold hsA; rw [if_pos (by omega), ti]; rfl
      refine x_iload_n (pc := 12) cx (dA ddX6_houseAt (i := 6) rfl) rfl ?_
      refine x_aload_n (pc := 13) cx (dA ddX6_houseAt (i := 7) rfl) rfl ?_
      refine gX6_11 (pc := 14) (rfA hD.2.1) cx (dA ddX6_houseAt (i := 8) rfl) h0 ?_
      refine x_alen (pc := 17) cx (dA ddX6_houseAt (i := 9) rfl) hA (by decide) ?_
      refine x_icmp_ge (pc := 18) (tgt := 30) cx (dA ddX6_houseAt (i := 10) rfl) (by decide) (fun c18 => ?_) (fun c18 => ?_)
      · have c18 := cleT (by omega) (by omega) c18
        exact absurd c18 (by omega)
      · have c18 := cleF (by omega) (by omega) c18
        refine x_aload_n (pc := 21) cx (dA ddX6_houseAt (i := 11) rfl) rfl ?_
        refine gX6_11 (pc := 22) (rfA hD.2.1) cx (dA ddX6_houseAt (i := 12) rfl) h0 ?_
        refine x_iload_n (pc := 25) cx (dA ddX6_houseAt (i := 13) rfl) rfl ?_
        refine x_aaload (pc := 26) cx (dA ddX6_houseAt (i := 14) rfl) hA (by decide) (by decide) (by omega) (by decide) ?_
        rw [(hD.2.2.2.2.2 i (by omega)).1, ← e9]
        refine x_goto (pc := 27) (tgt := 31) cx (dA ddX6_houseAt (i := 15) rfl) (by decide) ?_
        refine x_areturn (pc := 31) cx (dA ddX6_houseAt (i := 17) rfl) (by first | exact Nat.le_of_ble_eq_true rfl | omega) (by first | exact Nat.le_of_ble_eq_true rfl | omega) ?_
        exact ⟨rfl, rfl, rfl⟩
theorem c_X6_add {l : Launch} {Z : zP} {G : zG} {V : zV} {w : Nat} (hD : WorldAt Z G w) {c : Nat} (hc : V.1 301 w = nI c) (c6 : c < 6) {h : Nat} (oH : HouseAt Z G h) : CT l Z yX6_add cX6_add 3 (some .int) 2 0 0 [.ref w, .ref h] G V (pI (nI c) G (sI (rAI V (w + 5 + 2 * c + 1) 0 20 (fun j => V.2.2.1 (h + 1) j)) 301 w (nI (c + 1)))) := by
  refine CT.of (by decide +kernel) (Nat.le_of_ble_eq_true rfl) (fun X hX cx => ?_)
  subst hX
  show Wm Z X 3 G V 0 0 _ 0 [(0, some (.ref w)), (1, some (.ref h))] []
  have h0 := hD.1
  have hA := hD.2.2.1
  refine x_aload_n (pc := 0) cx (dA ddX6_add (i := 0) rfl) rfl ?_
  refine gX6_29 (pc := 1) (congrArg Value.int hc) cx (dA ddX6_add (i := 1) rfl) h0 ?_
  refine x_istore_n (pc := 4) cx (dA ddX6_add (i := 2) rfl) (by decide) rfl ?_
  refine x_iload_n (pc := 5) cx (dA ddX6_add (i := 3) rfl) rfl ?_
  refine x_if_lt (pc := 6) (tgt := 47) cx (dA ddX6_add (i := 4) rfl) (by decide) (fun c6 => absurd c6 (nI_pos (by omega))) (fun c6 => ?_)
  refine x_iload_n (pc := 9) cx (dA ddX6_add (i := 5) rfl) rfl ?_
  refine x_aload_n (pc := 10) cx (dA ddX6_add (i := 6) rfl) rfl ?_
  refine gX6_11 (pc := 11) (rfA hD.2.1) cx (dA ddX6_add (i := 7) rfl) h0 ?_
  refine x_alen (pc := 14) cx (dA ddX6_add (i := 8) rfl) hA (by decide) ?_
  refine x_icmp_ge (pc := 15) (tgt := 47) cx (dA ddX6_add (i := 9) rfl) (by decide) (fun c15 => ?_) (fun c15 => ?_)
  · have c15 := cleT (by omega) (by omega) c15
    exact absurd c15 (by omega)
  · have c15 := cleF (by omega) (by omega) c15
    refine x_aload_n (pc := 18) cx (dA ddX6_add (i := 10) rfl) rfl ?_
    refine gX6_11 (pc := 19) (rfA hD.2.1) cx (dA ddX6_add (i := 11) rfl) h0 ?_
    refine x_iload_n (pc := 22) cx (dA ddX6_add (i := 12) rfl) rfl ?_
    refine x_aaload (pc := 23) cx (dA ddX6_add (i := 13) rfl) hA (by decide) (by decide) (by omega) (by decide) ?_
    rw [arA (hD.2.2.2.2.2 c (by omega)).1]
    refine x_ifnull_s (pc := 24) cx (dA ddX6_add (i := 14) rfl) ?_
    refine x_aload_n (pc := 27) cx (dA ddX6_add (i := 15) rfl) rfl ?_
    refine gX6_11 (pc := 28) (rfA hD.2.1) cx (dA ddX6_add (i := 16) rfl) h0 ?_
    refine x_iload_n (pc := 31) cx (dA ddX6_add (i := 17) rfl) rfl ?_
    refine x_aaload (pc := 32) cx (dA ddX6_add (i := 18) rfl) hA (by decide) (by decide) (by omega) (by decide) ?_
    rw [arA (hD.2.2.2.2.2 c (by omega)).1]
    refine x_aload_n (pc := 33) cx (dA ddX6_add (i := 19) rfl) rfl ?_
    refine x_V1 (pc := 34) mX6_36 ((hD.2.2.2.2.2 c (by omega)).2.1) (c_X0_become (hD.2.2.2.2.2 c (by omega)).2 oH) cx (dA ddX6_add (i := 20) rfl) (kV ?_)
    refine x_aload_n (pc := 37) cx (dA ddX6_add (i := 21) rfl) rfl ?_
    refine x_dup (pc := 38) cx rfl (dA ddX6_add (i := 22) rfl) ?_
    refine gX6_29 (pc := 39) (congrArg Value.int hc) cx (dA ddX6_add (i := 23) rfl) h0 ?_
    refine x_iconst (pc := 42) (v := nI 1) cx (dA ddX6_add (i := 24) rfl) (by decide) ?_
    refine x_iadd (pc := 43) cx (dA ddX6_add (i := 25) rfl) ?_
    rw [nI_add]
    refine pX6_29 (pc := 44)  cx (dA ddX6_add (i := 26) rfl) h0 ?_
    refine x_iload_n (pc := 47) cx (dA ddX6_add (i := 27) rfl) rfl ?_
    refine x_ireturn (pc := 48) cx (dA ddX6_add (i := 28) rfl) (by first | exact Nat.le_of_ble_eq_true rfl | omega) (by first | exact Nat.le_of_ble_eq_true rfl | omega) ?_
    exact ⟨rfl, rfl, rfl⟩
