/-- the class while it reads into the house h -/
def setN (V : zV) (h : Nat) (N : Nat → Nat) : zV := rAI V (h + 1) 0 20 (fun j => nI (N j))
def rdV (V : zV) (t h : Nat) (N : Nat → Nat) (τ : TK) : zV := tokV (setN V h N) t (nI τ.1) (nI τ.2.1) (nI τ.2.2)
theorem rd_adv {V : zV} {t h : Nat} {N : Nat → Nat} {τ τ' : TK} : tokV (rdV V t h N τ) t (nI τ'.1) (nI τ'.2.1) (nI τ'.2.2) = rdV V t h N τ' := tok_tok _ _ _ _ _ _ _ _
theorem rd_202 {V : zV} {t h : Nat} {N : Nat → Nat} {τ : TK} : (rdV V t h N τ).1 202 t = nI τ.1 := tok_g202
theorem rd_203 {V : zV} {t h : Nat} {N : Nat → Nat} {τ : TK} : (rdV V t h N τ).1 203 t = nI τ.2.1 := tok_g203
theorem rd_204 {V : zV} {t h : Nat} {N : Nat → Nat} {τ : TK} : (rdV V t h N τ).1 204 t = nI τ.2.2 := tok_g204
theorem TapeV.rd {V : zV} {t h : Nat} {B : Nat → Nat} {S : Nat} (hV : TapeV V t B S) (hth : t ≠ h) {N : Nat → Nat} {τ : TK} : TapeV (rdV V t h N τ) t B S :=
  TapeV.tok (V := setN V h N) ⟨hV.1, fun j hj => (show rw2 V.2.2.1 (h + 1) 0 20 (fun j => nI (N j)) (t + 1) j = _ from (rw2_ne (by omega) j).trans (hV.2.1 j hj)), hV.2.2⟩
theorem HouseV_rd {V : zV} {t h : Nat} {N : Nat → Nat} {τ : TK} : HouseV (rdV V t h N τ) h N := fun j hj => (show rw2 V.2.2.1 (h + 1) 0 20 (fun j => nI (N j)) (h + 1) j = _ from rw2_in0 hj)
theorem setN_put {V : zV} {h i v : Nat} {N : Nat → Nat} (hi : i < 20) : sAI (setN V h N) (h + 1) i (nI v) = setN V h (numP N i v) := by
  unfold setN sAI rAI
  dsimp only
  congr 3
  funext x j
  unfold u2 rw2 numP
  by_cases e : x = h + 1 ∧ j = i
  · rw [if_pos e, if_pos (by omega)]
    simp only [Nat.sub_zero]
    rw [if_pos e.2]
  · rw [if_neg e]
    by_cases e2 : x = h + 1 ∧ 0 ≤ j ∧ j < 0 + 20
    · rw [if_pos e2, if_pos e2]
      simp only [Nat.sub_zero]
      rw [if_neg (by omega)]
    · rw [if_neg e2, if_neg e2]
theorem rd_put {V : zV} {t h i v : Nat} {N : Nat → Nat} {τ : TK} (hi : i < 20) : sAI (rdV V t h N τ) (h + 1) i (nI v) = rdV V t h (numP N i v) τ :=
  congrArg (fun W => tokV W t (nI τ.1) (nI τ.2.1) (nI τ.2.2)) (setN_put (V := V) hi)
theorem nh_neg {o : Option Nat} (h : ∀ v, o = some v → v < 2 ^ 31) (hn : nhV o < 0) : o = none := by
  cases o with
  | none => rfl
  | some v => exact absurd hn (nI_pos (h v rfl))
theorem nh_pos {o : Option Nat} (hn : ¬ nhV o < 0) : ∃ v, o = some v ∧ nhV o = nI v := by
  cases o with
  | none => exact absurd (by decide) hn
  | some v => exact ⟨v, rfl, rfl⟩
theorem srS_fail2 {B : Nat → Nat} {S : Nat} {N : Nat → Nat} {i : Nat} {τ : TK} {j : Nat} : ∀ {n : Nat}, j ≤ n → ¬ (srS B S N i τ j).1 = true → srS B S N i τ n = srS B S N i τ j
  | 0, h, _ => by rw [show j = 0 by omega]
  | n + 1, h, hf => by
    by_cases e : j = n + 1
    · rw [e]
    · have ih := srS_fail2 (n := n) (by omega) hf
      show bnd (srS B S N i τ n) _ = _
      rw [ih, bnd_f hf]
theorem c_X4_readHouseNumber {l : Launch} {Z : zP} {G : zG} {V : zV} {t h : Nat} (hT : TapeAt Z G t) (hH : HouseAt Z G h) (hth : t ≠ h) {B : Nat → Nat} {S : Nat} (hV : TapeV V t B S) {N : Nat → Nat} {τ : TK} (hk : tk0 B S τ) {w lo hi : Nat} (hw : w < 4) (hlo : mLo1 w = (lo : Int)) (hhi : mHi1 w = (hi : Int)) : CT l Z yX4_readHouseNumber cX4_readHouseNumber 4 (some .boolean) 2 0 0 [.ref t, .ref h, .int (nI w)] G (rdV V t h N τ) (pI (b2i ((rdN B S N (w) lo hi τ).1 = true)) G (rdV V t h (rdN B S N (w) lo hi τ).2.1 (rdN B S N (w) lo hi τ).2.2)) := by
  refine CT.of (by decide +kernel) (Nat.le_of_ble_eq_true rfl) (fun X hX cx => ?_)
  subst hX
  show Wm Z X 4 G (rdV V t h N τ) 0 0 _ 0 [(0, some (.ref t)), (1, some (.ref h)), (2, some (.int (nI w)))] []
  have h0 := hT.1
  have hh := hH.1
  have rV := hV.rd hth (N := N) (τ := τ)
  have q3 := hk.2.2.1
  have τ1k := adv_tk (B := B) q3
  refine x_aload_n (pc := 0) cx (dA ddX4_readHouseNumber (i := 0) rfl) rfl ?_
  refine x_V0 (pc := 1) mX4_27 h0 (c_X4_advance hT rV q3 rd_204) cx (dA ddX4_readHouseNumber (i := 1) rfl) (kV ?_)
  rw [rd_adv]
  have r1 := hV.rd hth (N := N) (τ := adv B S τ.2.2)
  refine x_aload_n (pc := 4) cx (dA ddX4_readHouseNumber (i := 2) rfl) rfl ?_
  refine x_V0 (pc := 5) mX4_65 h0 (c_X4_numberHere hT r1 rd_202 rd_203 rd_204 τ1k) cx (dA ddX4_readHouseNumber (i := 3) rfl) (kI ?_)
  refine x_istore_n (pc := 8) cx (dA ddX4_readHouseNumber (i := 4) rfl) (by decide) rfl ?_
  refine x_iload_n (pc := 9) cx (dA ddX4_readHouseNumber (i := 5) rfl) rfl ?_
  refine x_if_lt (pc := 10) (tgt := 21) cx (dA ddX4_readHouseNumber (i := 6) rfl) (by decide) (fun c10 => ?_) (fun c10 => ?_)
  · have e := nh_neg (fun v hv => Nat.lt_of_le_of_lt (numH_lt τ1k hv).1 (by decide)) c10
    have e9 := rdN_none (N := N) (i := w) (lo := lo) (hi := hi) e
    refine x_iconst (pc := 21) (v := nI 0) cx (dA ddX4_readHouseNumber (i := 11) rfl) (by decide) ?_
    refine x_zreturn (pc := 22) cx (dA ddX4_readHouseNumber (i := 12) rfl) (by first | exact Nat.le_of_ble_eq_true rfl | omega) (by first | exact Nat.le_of_ble_eq_true rfl | omega) rfl ?_
    rw [e9]
    exact rI (b2i_f (fun q => Bool.noConfusion q)).symm
  · obtain ⟨v, e, ev⟩ := nh_pos c10
    have v99 := (numH_lt τ1k e).1
    rw [ev]
    refine x_iload_n (pc := 13) cx (dA ddX4_readHouseNumber (i := 7) rfl) rfl ?_
    refine x_iload_n (pc := 14) cx (dA ddX4_readHouseNumber (i := 8) rfl) rfl ?_
    refine x_S2 (pc := 15) mX4_68 (c_X0_mayBe hw) cx (dA ddX4_readHouseNumber (i := 9) rfl) (kI ?_)
    refine x_if_ne (pc := 18) (tgt := 23) cx (dA ddX4_readHouseNumber (i := 10) rfl) (by decide) (fun c18 => ?_) (fun c18 => ?_)
    · have e2 := b2i_ne c18
      rw [nI_toInt (by omega), hlo, hhi] at e2
      have e9 := rdN_some (N := N) (i := w) (lo := lo) (hi := hi) e (by omega)
      refine x_aload_n (pc := 23) cx (dA ddX4_readHouseNumber (i := 13) rfl) rfl ?_
      refine x_iload_n (pc := 24) cx (dA ddX4_readHouseNumber (i := 14) rfl) rfl ?_
      refine x_iload_n (pc := 25) cx (dA ddX4_readHouseNumber (i := 15) rfl) rfl ?_
      refine x_V2 (pc := 26) mX4_72 hh (c_X0_putNumber hH (by omega)) cx (dA ddX4_readHouseNumber (i := 16) rfl) (kV ?_)
      rw [rd_put (by omega)]
      have r2 := hV.rd hth (N := numP N (w) v) (τ := adv B S τ.2.2)
      refine x_aload_n (pc := 29) cx (dA ddX4_readHouseNumber (i := 17) rfl) rfl ?_
      refine x_V0 (pc := 30) mX4_27 h0 (c_X4_advance hT r2 τ1k.2.2.1 rd_204) cx (dA ddX4_readHouseNumber (i := 18) rfl) (kV ?_)
      rw [rd_adv]
      refine x_iconst (pc := 33) (v := nI 1) cx (dA ddX4_readHouseNumber (i := 19) rfl) (by decide) ?_
      refine x_zreturn (pc := 34) cx (dA ddX4_readHouseNumber (i := 20) rfl) (by first | exact Nat.le_of_ble_eq_true rfl | omega) (by first | exact Nat.le_of_ble_eq_true rfl | omega) rfl ?_
      rw [e9]
      exact rI (b2i_t rfl).symm
    · have e2 := b2i_eq c18
      rw [nI_toInt (by omega), hlo, hhi] at e2
      have e9 := rdN_bad (N := N) (i := w) (lo := lo) (hi := hi) e (by omega)
      refine x_iconst (pc := 21) (v := nI 0) cx (dA ddX4_readHouseNumber (i := 11) rfl) (by decide) ?_
      refine x_zreturn (pc := 22) cx (dA ddX4_readHouseNumber (i := 12) rfl) (by first | exact Nat.le_of_ble_eq_true rfl | omega) (by first | exact Nat.le_of_ble_eq_true rfl | omega) rfl ?_
      rw [e9]
      exact rI (b2i_f (fun q => Bool.noConfusion q)).symm
theorem c_X4_readSortNumber {l : Launch} {Z : zP} {G : zG} {V : zV} {t h : Nat} (hT : TapeAt Z G t) (hH : HouseAt Z G h) (hth : t ≠ h) {B : Nat → Nat} {S : Nat} (hV : TapeV V t B S) {N : Nat → Nat} {τ : TK} (hk : tk0 B S τ) {k w lo hi : Nat} (hk3 : k < 3) (hw : w < 5) (hlo : mLo2 w = (lo : Int)) (hhi : mHi2 w = (hi : Int)) : CT l Z yX4_readSortNumber cX4_readSortNumber 5 (some .boolean) 2 0 0 [.ref t, .ref h, .int (nI k), .int (nI w)] G (rdV V t h N τ) (pI (b2i ((rdN B S N (5 + 5 * k + w) lo hi τ).1 = true)) G (rdV V t h (rdN B S N (5 + 5 * k + w) lo hi τ).2.1 (rdN B S N (5 + 5 * k + w) lo hi τ).2.2)) := by
  refine CT.of (by decide +kernel) (Nat.le_of_ble_eq_true rfl) (fun X hX cx => ?_)
  subst hX
  show Wm Z X 5 G (rdV V t h N τ) 0 0 _ 0 [(0, some (.ref t)), (1, some (.ref h)), (2, some (.int (nI k))), (3, some (.int (nI w)))] []
  have h0 := hT.1
  have hh := hH.1
  have rV := hV.rd hth (N := N) (τ := τ)
  have q3 := hk.2.2.1
  have τ1k := adv_tk (B := B) q3
  refine x_aload_n (pc := 0) cx (dA ddX4_readSortNumber (i := 0) rfl) rfl ?_
  refine x_V0 (pc := 1) mX4_27 h0 (c_X4_advance hT rV q3 rd_204) cx (dA ddX4_readSortNumber (i := 1) rfl) (kV ?_)
  rw [rd_adv]
  have r1 := hV.rd hth (N := N) (τ := adv B S τ.2.2)
  refine x_aload_n (pc := 4) cx (dA ddX4_readSortNumber (i := 2) rfl) rfl ?_
  refine x_V0 (pc := 5) mX4_65 h0 (c_X4_numberHere hT r1 rd_202 rd_203 rd_204 τ1k) cx (dA ddX4_readSortNumber (i := 3) rfl) (kI ?_)
  refine x_istore (pc := 8) cx (dA ddX4_readSortNumber (i := 4) rfl) (by decide) rfl ?_
  refine x_iload (pc := 10) cx (dA ddX4_readSortNumber (i := 5) rfl) rfl ?_
  refine x_if_lt (pc := 12) (tgt := 24) cx (dA ddX4_readSortNumber (i := 6) rfl) (by decide) (fun c12 => ?_) (fun c12 => ?_)
  · have e := nh_neg (fun v hv => Nat.lt_of_le_of_lt (numH_lt τ1k hv).1 (by decide)) c12
    have e9 := rdN_none (N := N) (i := 5 + 5 * k + w) (lo := lo) (hi := hi) e
    refine x_iconst (pc := 24) (v := nI 0) cx (dA ddX4_readSortNumber (i := 11) rfl) (by decide) ?_
    refine x_zreturn (pc := 25) cx (dA ddX4_readSortNumber (i := 12) rfl) (by first | exact Nat.le_of_ble_eq_true rfl | omega) (by first | exact Nat.le_of_ble_eq_true rfl | omega) rfl ?_
    rw [e9]
    exact rI (b2i_f (fun q => Bool.noConfusion q)).symm
  · obtain ⟨v, e, ev⟩ := nh_pos c12
    have v99 := (numH_lt τ1k e).1
    rw [ev]
    refine x_iload_n (pc := 15) cx (dA ddX4_readSortNumber (i := 7) rfl) rfl ?_
    refine x_iload (pc := 16) cx (dA ddX4_readSortNumber (i := 8) rfl) rfl ?_
    refine x_S2 (pc := 18) mX4_84 (c_X0_mayBeOfSort hw) cx (dA ddX4_readSortNumber (i := 9) rfl) (kI ?_)
    refine x_if_ne (pc := 21) (tgt := 26) cx (dA ddX4_readSortNumber (i := 10) rfl) (by decide) (fun c21 => ?_) (fun c21 => ?_)
    · have e2 := b2i_ne c21
      rw [nI_toInt (by omega), hlo, hhi] at e2
      have e9 := rdN_some (N := N) (i := 5 + 5 * k + w) (lo := lo) (hi := hi) e (by omega)
      refine x_aload_n (pc := 26) cx (dA ddX4_readSortNumber (i := 13) rfl) rfl ?_
      refine x_iload_n (pc := 27) cx (dA ddX4_readSortNumber (i := 14) rfl) rfl ?_
      refine x_iload_n (pc := 28) cx (dA ddX4_readSortNumber (i := 15) rfl) rfl ?_
      refine x_iload (pc := 29) cx (dA ddX4_readSortNumber (i := 16) rfl) rfl ?_
      refine x_V3 (pc := 31) mX4_87 hh (c_X0_putSortNumber hH hk3 hw) cx (dA ddX4_readSortNumber (i := 17) rfl) (kV ?_)
      rw [rd_put (by omega)]
      have r2 := hV.rd hth (N := numP N (5 + 5 * k + w) v) (τ := adv B S τ.2.2)
      refine x_aload_n (pc := 34) cx (dA ddX4_readSortNumber (i := 18) rfl) rfl ?_
      refine x_V0 (pc := 35) mX4_27 h0 (c_X4_advance hT r2 τ1k.2.2.1 rd_204) cx (dA ddX4_readSortNumber (i := 19) rfl) (kV ?_)
      rw [rd_adv]
      refine x_iconst (pc := 38) (v := nI 1) cx (dA ddX4_readSortNumber (i := 20) rfl) (by decide) ?_
      refine x_zreturn (pc := 39) cx (dA ddX4_readSortNumber (i := 21) rfl) (by first | exact Nat.le_of_ble_eq_true rfl | omega) (by first | exact Nat.le_of_ble_eq_true rfl | omega) rfl ?_
      rw [e9]
      exact rI (b2i_t rfl).symm
    · have e2 := b2i_eq c21
      rw [nI_toInt (by omega), hlo, hhi] at e2
      have e9 := rdN_bad (N := N) (i := 5 + 5 * k + w) (lo := lo) (hi := hi) e (by omega)
      refine x_iconst (pc := 24) (v := nI 0) cx (dA ddX4_readSortNumber (i := 11) rfl) (by decide) ?_
      refine x_zreturn (pc := 25) cx (dA ddX4_readSortNumber (i := 12) rfl) (by first | exact Nat.le_of_ble_eq_true rfl | omega) (by first | exact Nat.le_of_ble_eq_true rfl | omega) rfl ?_
      rw [e9]
      exact rI (b2i_f (fun q => Bool.noConfusion q)).symm
theorem c_X4_sortWord {l : Launch} {Z : zP} {G : zG} {V : zV} {w : Nat} (hw : w < 5) : CT l Z yX4_sortWord cX4_sortWord 1 (some (.object "java/lang/String")) 0 0 0 [.int (nI w)] G V (pR (some (Z.2.2.2.2.1 (swI w))) G V) := by
  refine CT.of (by decide +kernel) (Nat.le_of_ble_eq_true rfl) (fun X hX cx => ?_)
  subst hX
  show Wm Z X 1 G V 0 0 _ 0 [(0, some (.int (nI w)))] []
  refine x_iload_n (pc := 0) cx (dA ddX4_sortWord (i := 0) rfl) rfl ?_
  by_cases c1_0 : nI w = 0
  · refine x_tabIn (pc := 1) (v := 0) (tgt := 32) cx (dA ddX4_sortWord (i := 1) rfl) (by rw [c1_0]; decide) (by decide) (by decide) rfl (by decide) ?_
    refine x_ldcS (pc := 32) (i := 2) (tx := "room") (by decide +kernel) cx (dA ddX4_sortWord (i := 2) rfl) ?_
    refine x_areturn (pc := 34) (o := some (Z.2.2.2.2.1 2)) cx (dA ddX4_sortWord (i := 3) rfl) (by first | exact Nat.le_of_ble_eq_true rfl | omega) (by first | exact Nat.le_of_ble_eq_true rfl | omega) ?_
    have ew : w = 0 := nI_inj (by omega) (by omega) c1_0
    subst ew
    exact ⟨rfl, rfl, rfl⟩
  by_cases c1_1 : nI w = 1
  · refine x_tabIn (pc := 1) (v := 1) (tgt := 35) cx (dA ddX4_sortWord (i := 1) rfl) (by rw [c1_1]; decide) (by decide) (by decide) rfl (by decide) ?_
    refine x_ldcS (pc := 35) (i := 5) (tx := "comes") (by decide +kernel) cx (dA ddX4_sortWord (i := 4) rfl) ?_
    refine x_areturn (pc := 37) (o := some (Z.2.2.2.2.1 5)) cx (dA ddX4_sortWord (i := 5) rfl) (by first | exact Nat.le_of_ble_eq_true rfl | omega) (by first | exact Nat.le_of_ble_eq_true rfl | omega) ?_
    have ew : w = 1 := nI_inj (by omega) (by omega) c1_1
    subst ew
    exact ⟨rfl, rfl, rfl⟩
  by_cases c1_2 : nI w = 2
  · refine x_tabIn (pc := 1) (v := 2) (tgt := 38) cx (dA ddX4_sortWord (i := 1) rfl) (by rw [c1_2]; decide) (by decide) (by decide) rfl (by decide) ?_
    refine x_ldcS (pc := 38) (i := 6) (tx := "hold") (by decide +kernel) cx (dA ddX4_sortWord (i := 6) rfl) ?_
    refine x_areturn (pc := 40) (o := some (Z.2.2.2.2.1 6)) cx (dA ddX4_sortWord (i := 7) rfl) (by first | exact Nat.le_of_ble_eq_true rfl | omega) (by first | exact Nat.le_of_ble_eq_true rfl | omega) ?_
    have ew : w = 2 := nI_inj (by omega) (by omega) c1_2
    subst ew
    exact ⟨rfl, rfl, rfl⟩
  by_cases c1_3 : nI w = 3
  · refine x_tabIn (pc := 1) (v := 3) (tgt := 41) cx (dA ddX4_sortWord (i := 1) rfl) (by rw [c1_3]; decide) (by decide) (by decide) rfl (by decide) ?_
    refine x_ldcS (pc := 41) (i := 7) (tx := "refuse") (by decide +kernel) cx (dA ddX4_sortWord (i := 8) rfl) ?_
    refine x_areturn (pc := 43) (o := some (Z.2.2.2.2.1 7)) cx (dA ddX4_sortWord (i := 9) rfl) (by first | exact Nat.le_of_ble_eq_true rfl | omega) (by first | exact Nat.le_of_ble_eq_true rfl | omega) ?_
    have ew : w = 3 := nI_inj (by omega) (by omega) c1_3
    subst ew
    exact ⟨rfl, rfl, rfl⟩
  refine x_tabOut (pc := 1) (tgt := 44) cx (dA ddX4_sortWord (i := 1) rfl) (by have t0 := lv_neT (a := 0) c1_0 (by decide); have t1 := lv_neT (a := 1) c1_1 (by decide); have t2 := lv_neT (a := 2) c1_2 (by decide); have t3 := lv_neT (a := 3) c1_3 (by decide); omega) (by decide) ?_
  refine x_ldcS (pc := 44) (i := 8) (tx := "left") (by decide +kernel) cx (dA ddX4_sortWord (i := 10) rfl) ?_
  refine x_areturn (pc := 46) (o := some (Z.2.2.2.2.1 8)) cx (dA ddX4_sortWord (i := 11) rfl) (by first | exact Nat.le_of_ble_eq_true rfl | omega) (by first | exact Nat.le_of_ble_eq_true rfl | omega) ?_
  have ew : w = 4 := by
    rcases (show w = 0 ∨ w = 1 ∨ w = 2 ∨ w = 3 ∨ w = 4 by omega) with h | h | h | h | h
    · exact absurd (by rw [h]; rfl) c1_0
    · exact absurd (by rw [h]; rfl) c1_1
    · exact absurd (by rw [h]; rfl) c1_2
    · exact absurd (by rw [h]; rfl) c1_3
    · exact h
  subst ew
  exact ⟨rfl, rfl, rfl⟩
theorem c_X4_readSort {l : Launch} {Z : zP} {G : zG} {V : zV} {t h : Nat} (hT : TapeAt Z G t) (hH : HouseAt Z G h) (hth : t ≠ h) {B : Nat → Nat} {S : Nat} (hV : TapeV V t B S) {N : Nat → Nat} {τ : TK} (hk : tk0 B S τ) (hB : HouseB N) (h4 : N 4 < 3) (hz : N (5 + 5 * N 4 + 3) = 0 ∧ N (5 + 5 * N 4 + 4) = 0) : CT l Z yX4_readSort cX4_readSort 5 (some .boolean) 5 0 0 [.ref t, .ref h] G (rdV V t h N τ) (pI (b2i ((bnd (srS B S N (5 + 5 * N 4) (adv B S τ.2.2) 5) fun N τ => (true, numP N 4 (N 4 + 1), τ)).1 = true)) G (rdV V t h (bnd (srS B S N (5 + 5 * N 4) (adv B S τ.2.2) 5) fun N τ => (true, numP N 4 (N 4 + 1), τ)).2.1 (bnd (srS B S N (5 + 5 * N 4) (adv B S τ.2.2) 5) fun N τ => (true, numP N 4 (N 4 + 1), τ)).2.2)) := by
  refine CT.of (by decide +kernel) (Nat.le_of_ble_eq_true rfl) (fun X hX cx => ?_)
  subst hX
  show Wm Z X 5 G (rdV V t h N τ) 0 0 _ 0 [(0, some (.ref t)), (1, some (.ref h))] []
  have h0 := hT.1
  have hh := hH.1
  have rV := hV.rd hth (N := N) (τ := τ)
  have q3 := hk.2.2.1
  have τ1k := adv_tk (B := B) q3
  refine x_aload_n (pc := 0) cx (dA ddX4_readSort (i := 0) rfl) rfl ?_
  refine x_V0 (pc := 1) mX4_27 h0 (c_X4_advance hT rV q3 rd_204) cx (dA ddX4_readSort (i := 1) rfl) (kV ?_)
  rw [rd_adv]
  refine x_aload_n (pc := 4) cx (dA ddX4_readSort (i := 2) rfl) rfl ?_
  refine x_V0 (pc := 5) mX4_40 hh (c_X0_sorts hH HouseV_rd hB) cx (dA ddX4_readSort (i := 3) rfl) (kI ?_)
  refine x_istore_n (pc := 8) cx (dA ddX4_readSort (i := 4) rfl) (by decide) rfl ?_
  refine x_iconst (pc := 9) (v := nI 0) cx (dA ddX4_readSort (i := 5) rfl) (by decide) ?_
  refine x_istore_n (pc := 10) cx (dA ddX4_readSort (i := 6) rfl) (by decide) rfl ?_
  have L11 : ∀ j, j ≤ 5 → (srS B S N (5 + 5 * N 4) (adv B S τ.2.2) j).1 = true → Wm Z X 5 G (rdV V t h (srS B S N (5 + 5 * N 4) (adv B S τ.2.2) j).2.1 (srS B S N (5 + 5 * N 4) (adv B S τ.2.2) j).2.2) 0 0 (rQ Z X 0 0 (pI (b2i ((bnd (srS B S N (5 + 5 * N 4) (adv B S τ.2.2) 5) fun N τ => (true, numP N 4 (N 4 + 1), τ)).1 = true)) G (rdV V t h (bnd (srS B S N (5 + 5 * N 4) (adv B S τ.2.2) 5) fun N τ => (true, numP N 4 (N 4 + 1), τ)).2.1 (bnd (srS B S N (5 + 5 * N 4) (adv B S τ.2.2) 5) fun N τ => (true, numP N 4 (N 4 + 1), τ)).2.2))) 11 [(0, some (.ref t)), (1, some (.ref h)), (2, some (.int (nI (N 4)))), (3, some (.int (nI j)))] [] := by
    refine lpU 5 (fun j hj ih => ?_)
    intro ok
    refine x_iload_n (pc := 11) cx (dA ddX4_readSort (i := 7) rfl) rfl ?_
    refine x_iconst (pc := 12) (v := nI 5) cx (dA ddX4_readSort (i := 8) rfl) (by decide) ?_
    refine x_icmp_ge (pc := 13) (tgt := 61) cx (dA ddX4_readSort (i := 9) rfl) (by decide) (fun c13 => ?_) (fun c13 => ?_)
    · have c13 := cleT (by omega) (by omega) c13
      have ej : j = 5 := by omega
      subst ej
      refine x_aload_n (pc := 61) cx (dA ddX4_readSort (i := 34) rfl) rfl ?_
      refine x_iconst (pc := 62) (v := nI 4) cx (dA ddX4_readSort (i := 35) rfl) (by decide) ?_
      refine x_iload_n (pc := 63) cx (dA ddX4_readSort (i := 36) rfl) rfl ?_
      refine x_iconst (pc := 64) (v := nI 1) cx (dA ddX4_readSort (i := 37) rfl) (by decide) ?_
      refine x_iadd (pc := 65) cx (dA ddX4_readSort (i := 38) rfl) ?_
      rw [nI_add]
      refine x_V2 (pc := 66) mX4_72 hh (c_X0_putNumber hH (by omega)) cx (dA ddX4_readSort (i := 39) rfl) (kV ?_)
      rw [rd_put (by omega)]
      refine x_iconst (pc := 69) (v := nI 1) cx (dA ddX4_readSort (i := 40) rfl) (by decide) ?_
      refine x_zreturn (pc := 70) cx (dA ddX4_readSort (i := 41) rfl) (by first | exact Nat.le_of_ble_eq_true rfl | omega) (by first | exact Nat.le_of_ble_eq_true rfl | omega) rfl ?_
      rw [bnd_t ok]
      have i4 : (srS B S N (5 + 5 * N 4) (adv B S τ.2.2) 5).2.1 4 = N 4 := ((srS_inv (N := N) (i := 5 + 5 * N 4) τ1k hz 5 (Nat.le_refl _)).2.2 ok).1 4 (by omega)
      show pI (b2i (true = true)) G (rdV V t h (numP (srS B S N (5 + 5 * N 4) (adv B S τ.2.2) 5).2.1 4 ((srS B S N (5 + 5 * N 4) (adv B S τ.2.2) 5).2.1 4 + 1)) (srS B S N (5 + 5 * N 4) (adv B S τ.2.2) 5).2.2) _ _ _
      rw [i4]
      exact rI (b2i_t rfl).symm
    · have c13 := cleF (by omega) (by omega) c13
      have rj := hV.rd hth (N := (srS B S N (5 + 5 * N 4) (adv B S τ.2.2) j).2.1) (τ := (srS B S N (5 + 5 * N 4) (adv B S τ.2.2) j).2.2)
      obtain ⟨kj, -, -⟩ := srS_inv (N := N) (i := 5 + 5 * N 4) τ1k hz j (by omega)
      have es : srS B S N (5 + 5 * N 4) (adv B S τ.2.2) (j + 1) = bnd (srS B S N (5 + 5 * N 4) (adv B S τ.2.2) j) fun N0 τ => if j < 3 then tdN B S (swI j) N0 (5 + 5 * N 4 + j) (sLo j) (sHi j) τ else opN B S (swI j) N0 (5 + 5 * N 4 + j) (sLo j) (sHi j) τ := rfl
      rw [bnd_t ok] at es
      refine x_aload_n (pc := 16) cx (dA ddX4_readSort (i := 10) rfl) rfl ?_
      refine x_iload_n (pc := 17) cx (dA ddX4_readSort (i := 11) rfl) rfl ?_
      refine x_S1 (pc := 18) mX4_76 (c_X4_sortWord (by omega)) cx (dA ddX4_readSort (i := 12) rfl) (kR (o := some (Z.2.2.2.2.1 (swI j))) ?_)
      refine x_V1 (pc := 21) mX4_46 h0 (c_X4_isWord (i := swI j) hT rj rd_202 rd_203 rd_204 kj (by unfold swI; split <;> omega)) cx (dA ddX4_readSort (i := 13) rfl) (kI ?_)
      refine x_istore (pc := 24) cx (dA ddX4_readSort (i := 14) rfl) (by decide) rfl ?_
      refine x_iload (pc := 26) cx (dA ddX4_readSort (i := 15) rfl) rfl ?_
      refine x_if_ne (pc := 28) (tgt := 38) cx (dA ddX4_readSort (i := 16) rfl) (by decide) (fun c28 => ?_) (fun c28 => ?_)
      · have cw := b2i_ne c28
        refine x_iload (pc := 38) cx (dA ddX4_readSort (i := 22) rfl) rfl ?_
        refine x_if_eq (pc := 40) (tgt := 55) cx (dA ddX4_readSort (i := 23) rfl) (by decide) (fun c40 => absurd c40 (fun q => (b2i_eq q) cw)) (fun c40 => ?_)
        have e7 : srS B S N (5 + 5 * N 4) (adv B S τ.2.2) (j + 1) = rdN B S (srS B S N (5 + 5 * N 4) (adv B S τ.2.2) j).2.1 (5 + 5 * N 4 + j) (sLo j) (sHi j) (srS B S N (5 + 5 * N 4) (adv B S τ.2.2) j).2.2 := by
          rw [es]
          unfold tdN opN
          rw [if_pos cw, if_pos cw]
          split <;> rfl
        refine x_aload_n (pc := 43) cx (dA ddX4_readSort (i := 24) rfl) rfl ?_
        refine x_aload_n (pc := 44) cx (dA ddX4_readSort (i := 25) rfl) rfl ?_
        refine x_iload_n (pc := 45) cx (dA ddX4_readSort (i := 26) rfl) rfl ?_
        refine x_iload_n (pc := 46) cx (dA ddX4_readSort (i := 27) rfl) rfl ?_
        refine x_V3 (pc := 47) mX4_80 h0 (c_X4_readSortNumber (k := N 4) (w := j) (lo := sLo j) (hi := sHi j) hT hH hth hV kj (by omega) (by omega) (sLo_eq j).symm (sHi_eq j).symm) cx (dA ddX4_readSort (i := 28) rfl) (kI ?_)
        refine x_if_ne (pc := 50) (tgt := 55) cx (dA ddX4_readSort (i := 29) rfl) (by decide) (fun c50 => ?_) (fun c50 => ?_)
        · have ok2 := b2i_ne c50
          refine x_iinc (pc := 55) cx (dA ddX4_readSort (i := 32) rfl) rfl (iinc1 _) (by decide) rfl ?_
          refine x_goto (pc := 58) (tgt := 11) cx (dA ddX4_readSort (i := 33) rfl) (by decide) ?_
          have L := ih (by omega) (by rw [e7]; exact ok2)
          rw [e7] at L
          exact x_enter L ⟨.inr rfl, .inr rfl, .inr rfl, .inr rfl, trivial⟩
        · have nok := b2i_eq c50
          rw [← e7] at nok
          have e8 := srS_fail2 (n := 5) (j := j + 1) (N := N) (i := 5 + 5 * N 4) (τ := adv B S τ.2.2) (B := B) (S := S) (by omega) nok
          refine x_iconst (pc := 53) (v := nI 0) cx (dA ddX4_readSort (i := 30) rfl) (by decide) ?_
          refine x_zreturn (pc := 54) cx (dA ddX4_readSort (i := 31) rfl) (by first | exact Nat.le_of_ble_eq_true rfl | omega) (by first | exact Nat.le_of_ble_eq_true rfl | omega) rfl ?_
          rw [bnd_f (by rw [e8]; exact nok), e8, ← e7]
          exact rI (b2i_f nok).symm
      · have cw := b2i_eq c28
        refine x_iload_n (pc := 31) cx (dA ddX4_readSort (i := 17) rfl) rfl ?_
        refine x_iconst (pc := 32) (v := nI 3) cx (dA ddX4_readSort (i := 18) rfl) (by decide) ?_
        refine x_icmp_ge (pc := 33) (tgt := 38) cx (dA ddX4_readSort (i := 19) rfl) (by decide) (fun c33 => ?_) (fun c33 => ?_)
        · have c33 := cleT (by omega) (by omega) c33
          refine x_iload (pc := 38) cx (dA ddX4_readSort (i := 22) rfl) rfl ?_
          refine x_if_eq (pc := 40) (tgt := 55) cx (dA ddX4_readSort (i := 23) rfl) (by decide) (fun c40 => ?_) (fun c40 => absurd (b2i_f cw) c40)
          have e6 : srS B S N (5 + 5 * N 4) (adv B S τ.2.2) (j + 1) = (true, (srS B S N (5 + 5 * N 4) (adv B S τ.2.2) j).2.1, (srS B S N (5 + 5 * N 4) (adv B S τ.2.2) j).2.2) := by
            rw [es, if_neg (by omega)]
            exact if_neg cw
          refine x_iinc (pc := 55) cx (dA ddX4_readSort (i := 32) rfl) rfl (iinc1 _) (by decide) rfl ?_
          refine x_goto (pc := 58) (tgt := 11) cx (dA ddX4_readSort (i := 33) rfl) (by decide) ?_
          have L := ih (by omega) (by rw [e6])
          rw [e6] at L
          exact x_enter L ⟨.inr rfl, .inr rfl, .inr rfl, .inr rfl, trivial⟩
        · have c33 := cleF (by omega) (by omega) c33
          rw [if_pos c33] at es
          have e9 : srS B S N (5 + 5 * N 4) (adv B S τ.2.2) (j + 1) = (false, (srS B S N (5 + 5 * N 4) (adv B S τ.2.2) j).2.1, (srS B S N (5 + 5 * N 4) (adv B S τ.2.2) j).2.2) := by rw [es]; exact if_neg cw
          refine x_iconst (pc := 36) (v := nI 0) cx (dA ddX4_readSort (i := 20) rfl) (by decide) ?_
          refine x_zreturn (pc := 37) cx (dA ddX4_readSort (i := 21) rfl) (by first | exact Nat.le_of_ble_eq_true rfl | omega) (by first | exact Nat.le_of_ble_eq_true rfl | omega) rfl ?_
          have nok : ¬ (srS B S N (5 + 5 * N 4) (adv B S τ.2.2) (j + 1)).1 = true := by rw [e9]; exact fun q => Bool.noConfusion q
          have e8 := srS_fail2 (n := 5) (j := j + 1) (N := N) (i := 5 + 5 * N 4) (τ := adv B S τ.2.2) (B := B) (S := S) (by omega) nok
          rw [bnd_f (by rw [e8]; exact nok), e8, e9]
          exact rI (b2i_f (fun q => Bool.noConfusion q)).symm
  exact x_enter (L11 0 (Nat.zero_le _) rfl) ⟨.inr rfl, .inr rfl, .inr rfl, .inr rfl, trivial⟩
