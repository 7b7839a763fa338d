def setA (V : zV) (a : Nat) (N : Nat → Nat) : zV := rAI V a 0 20 (fun j => nI (N j))
/-- the reference while it reads into a row -/
def mrV (V : zV) (y a : Nat) (B N : Nat → Nat) (τ : TK) : zV := mtV (setA V a N) y τ (fgP B τ)
def rdS (V : zV) (y a : Nat) (B : Nat → Nat) (r : PR) : zV := if r.1 = true then mrV V y a B r.2.1 r.2.2 else sI (mrV V y a B r.2.1 r.2.2) 427 y (nI r.2.2.2.1)
theorem rdS_t {V : zV} {y a : Nat} {B : Nat → Nat} {r : PR} (h : r.1 = true) : rdS V y a B r = mrV V y a B r.2.1 r.2.2 := if_pos h
theorem setA_put {V : zV} {a i v : Nat} {N : Nat → Nat} (hi : i < 20) : sAI (setA V a N) a i (nI v) = setA V a (numP N i v) := by
  unfold setA sAI rAI
  dsimp only
  congr 3
  funext x j
  unfold u2 rw2 numP
  by_cases e : x = a ∧ j = i
  · rw [if_pos e, if_pos (by omega)]
    simp only [Nat.sub_zero]
    rw [if_pos e.2]
  · rw [if_neg e]
    by_cases e2 : x = a ∧ 0 ≤ j ∧ j < 0 + 20
    · rw [if_pos e2, if_pos e2]
      simp only [Nat.sub_zero]
      rw [if_neg (by omega)]
    · rw [if_neg e2, if_neg e2]
theorem m_put {V : zV} {y a i v : Nat} {B N : Nat → Nat} {τ : TK} (hi : i < 20) : sAI (mrV V y a B N τ) a i (nI v) = mrV V y a B (numP N i v) τ :=
  congrArg (fun W => mtV W y τ (fgP B τ)) (setA_put (V := V) hi)
theorem m_ga {V : zV} {y a i : Nat} {B N : Nat → Nat} {τ : TK} (hi : i < 20) : (mrV V y a B N τ).2.2.1 a i = nI (N i) := (show rw2 V.2.2.1 a 0 20 (fun j => nI (N j)) a i = _ from rw2_in0 hi)
theorem MTape.sa {V : zV} {y a S : Nat} {B N : Nat → Nat} (h : MTape V y B S) (ha : a ≠ y + 27) : MTape (setA V a N) y B S := ⟨h.1, fun j hj => (show rw2 V.2.2.1 a 0 20 (fun j => nI (N j)) (y + 27) j = _ from (rw2_ne (fun e => ha e.symm) j).trans (h.2.1 j hj)), h.2.2⟩
theorem MTape.mr {V : zV} {y a S : Nat} {B N : Nat → Nat} {τ : TK} (h : MTape V y B S) (ha : a ≠ y + 27) : MTape (mrV V y a B N τ) y B S := (h.sa ha).mt
theorem fg_num {B : Nat → Nat} {τ : TK} (h : τ.1 = 2) : numH B τ = some (fgP B τ) ∨ numH B τ = none ∧ fgP B τ = 100000 := by
  unfold numH fgP
  by_cases q : τ.2.2 - τ.2.1 ≤ 2
  · rw [if_pos ⟨h, q⟩, if_pos h, if_pos q]
    exact Or.inl rfl
  · rw [if_neg (fun z => q z.2), if_pos h, if_neg q]
    exact Or.inr ⟨rfl, rfl⟩
theorem numH_n2 {B : Nat → Nat} {τ : TK} (h : τ.1 ≠ 2) : numH B τ = none := if_neg (fun q => h q.1)
theorem tdN_tk {B : Nat → Nat} {S w i lo hi : Nat} {N : Nat → Nat} {τ : TK} (hk : tk0 B S τ) : tk0 B S (tdN B S w N i lo hi τ).2.2 := by
  unfold tdN
  split
  · exact (rdN_inv hk).1
  · exact hk
theorem c_X8_told {l : Launch} {Z : zP} {G : zG} {V : zV} {y : Nat} (hM : ModelAt Z G y) {a : Nat} (ha : isA Z G a 1 20) (ha2 : a ≠ y + 27) {B : Nat → Nat} {S : Nat} (hT : MTape V y B S) {N : Nat → Nat} {τ : TK} (hk : tk0 B S τ) {w i lo hi : Nat} (hw : w < 9) (hi20 : i < 20) (hlo : lo ≤ 99) (hhi : hi ≤ 99) : CT l Z yX8_told cX8_told 6 (some .boolean) 5 0 0 [.ref y, .ref (Z.2.2.2.2.1 w), .ref a, .int (nI i), .int (nI lo), .int (nI hi)] G (mrV V y a B N τ) (pI (b2i ((tdN B S w N (i) lo hi τ).1 = true)) G (rdS V y a B (tdN B S w N (i) lo hi τ))) := by
  refine CT.of (by decide +kernel) (Nat.le_of_ble_eq_true rfl) (fun X hX cx => ?_)
  subst hX
  show Wm Z X 6 G (mrV V y a B N τ) 0 0 _ 0 [(0, some (.ref y)), (1, some (.ref (Z.2.2.2.2.1 w))), (2, some (.ref a)), (3, some (.int (nI i))), (4, some (.int (nI lo))), (5, some (.int (nI hi)))] []
  have h0 := hM.1
  have q3 := hk.2.2.1
  have τ1k := adv_tk (B := B) q3
  refine x_aload_n (pc := 0) cx (dA ddX8_told (i := 0) rfl) rfl ?_
  refine x_aload_n (pc := 1) cx (dA ddX8_told (i := 1) rfl) rfl ?_
  refine x_V1 (pc := 2) mX8_177 h0 (c_X8_isWord hM (hT.mr ha2) m_g24 m_g25 m_g23 hk hw) cx (dA ddX8_told (i := 2) rfl) (kI ?_)
  refine x_if_ne (pc := 5) (tgt := 13) cx (dA ddX8_told (i := 3) rfl) (by decide) (fun c5 => ?_) (fun c5 => ?_)
  · have w0 := b2i_ne c5
    have e8 : tdN B S w N i lo hi τ = rdN B S N i lo hi τ := if_pos w0
    refine x_aload_n (pc := 13) cx (dA ddX8_told (i := 7) rfl) rfl ?_
    refine x_V0 (pc := 14) mX8_185 h0 (c_X8_look (V := setA V a N) hM (hT.sa ha2) (τ := τ) (g := fgP B τ) q3) cx (dA ddX8_told (i := 8) rfl) (kV ?_)
    rw [show mtV (setA V a N) y (adv B S τ.2.2) (fgP B (adv B S τ.2.2)) = mrV V y a B N (adv B S τ.2.2) from rfl]
    refine x_aload_n (pc := 17) cx (dA ddX8_told (i := 9) rfl) rfl ?_
    refine gX8_149 (pc := 18) (congrArg Value.int (show (mrV V y a B N (adv B S τ.2.2)).1 424 y = nI (adv B S τ.2.2).1 from m_g24)) cx (dA ddX8_told (i := 10) rfl) h0 ?_
    refine x_iconst (pc := 21) (v := nI 2) cx (dA ddX8_told (i := 11) rfl) (by decide) ?_
    have k4 := τ1k.2.2.2.1
    refine x_icmp_ne (pc := 22) (tgt := 41) cx (dA ddX8_told (i := 12) rfl) (by decide) (fun c22 => ?_) (fun c22 => ?_)
    · have c22 := ceqF (by omega) (by omega) c22
      have e9 := e8.trans (rdN_none (N := N) (i := i) (lo := lo) (hi := hi) (numH_n2 c22))
      refine x_aload_n (pc := 41) cx (dA ddX8_told (i := 21) rfl) rfl ?_
      refine x_V0 (pc := 42) mX8_181 h0 (c_X8_wrong hM) cx (dA ddX8_told (i := 22) rfl) (kI ?_)
      rw [show (mrV V y a B N (adv B S τ.2.2)).1 425 y = nI (adv B S τ.2.2).2.1 from m_g25]
      refine x_zreturn (pc := 45) cx (dA ddX8_told (i := 23) rfl) (by first | exact Nat.le_of_ble_eq_true rfl | omega) (by first | exact Nat.le_of_ble_eq_true rfl | omega) rfl ?_
      rw [e9]
      exact ⟨congrArg (fun z => some (Value.int z)) (b2i_f (fun q => Bool.noConfusion q)).symm, rfl, (if_neg (fun q => Bool.noConfusion q)).symm⟩
    · have c22 := ceqT (by omega) (by omega) c22
      have fn := fg_num (B := B) c22
      refine x_aload_n (pc := 25) cx (dA ddX8_told (i := 13) rfl) rfl ?_
      refine gX8_145 (pc := 26) (congrArg Value.long (show (mrV V y a B N (adv B S τ.2.2)).2.1 426 y = lN (fgP B (adv B S τ.2.2)) from m_g26)) cx (dA ddX8_told (i := 14) rfl) h0 ?_
      refine x_iload (pc := 29) cx (dA ddX8_told (i := 15) rfl) rfl ?_
      refine x_i2l (pc := 31) cx (dA ddX8_told (i := 16) rfl) ?_
      rw [nI_l (by omega)]
      refine x_iload (pc := 32) cx (dA ddX8_told (i := 17) rfl) rfl ?_
      refine x_i2l (pc := 34) cx (dA ddX8_told (i := 18) rfl) ?_
      rw [nI_l (by omega)]
      have f31 : fgP B (adv B S τ.2.2) < 2 ^ 31 := by rcases fn with h | h; exact Nat.lt_of_le_of_lt (numH_lt τ1k h).1 (by decide); rw [h.2]; decide
      refine x_S3 (pc := 35) mX8_94 c_X8_in cx (dA ddX8_told (i := 19) rfl) (kI ?_)
      rw [lN_toInt (by omega), lN_toInt (by omega), lN_toInt (by omega)]
      refine x_if_ne (pc := 38) (tgt := 46) cx (dA ddX8_told (i := 20) rfl) (by decide) (fun c38 => ?_) (fun c38 => ?_)
      · have c38 := b2i_ne c38
        have hn : numH B (adv B S τ.2.2) = some (fgP B (adv B S τ.2.2)) := by rcases fn with h | h; exact h; rw [h.2] at c38; omega
        have v99 := (numH_lt τ1k hn).1
        have e9 := e8.trans (rdN_some (N := N) (i := i) (lo := lo) (hi := hi) hn (by omega))
        refine x_aload_n (pc := 46) cx (dA ddX8_told (i := 24) rfl) rfl ?_
        refine x_iload_n (pc := 47) cx (dA ddX8_told (i := 25) rfl) rfl ?_
        refine x_aload_n (pc := 48) cx (dA ddX8_told (i := 26) rfl) rfl ?_
        refine gX8_145 (pc := 49) (congrArg Value.long (show (mrV V y a B N (adv B S τ.2.2)).2.1 426 y = lN (fgP B (adv B S τ.2.2)) from m_g26)) cx (dA ddX8_told (i := 27) rfl) h0 ?_
        refine x_l2i (pc := 52) cx (dA ddX8_told (i := 28) rfl) ?_
        rw [show (lN (fgP B (adv B S τ.2.2))).toInt32 = nI (fgP B (adv B S τ.2.2)) from l2iA ⟨fgP B (adv B S τ.2.2), by omega⟩]
        refine x_iastore (pc := 53) cx (dA ddX8_told (i := 29) rfl) ha hi20 (by decide) ?_
        rw [m_put hi20]
        refine x_aload_n (pc := 54) cx (dA ddX8_told (i := 30) rfl) rfl ?_
        refine x_V0 (pc := 55) mX8_185 h0 (c_X8_look (V := setA V a (numP N i (fgP B (adv B S τ.2.2)))) hM (hT.sa ha2) (τ := (adv B S τ.2.2)) (g := fgP B (adv B S τ.2.2)) τ1k.2.2.1) cx (dA ddX8_told (i := 31) rfl) (kV ?_)
        rw [show mtV (setA V a (numP N i (fgP B (adv B S τ.2.2)))) y (adv B S (adv B S τ.2.2).2.2) (fgP B (adv B S (adv B S τ.2.2).2.2)) = mrV V y a B (numP N i (fgP B (adv B S τ.2.2))) (adv B S (adv B S τ.2.2).2.2) from rfl]
        refine x_iconst (pc := 58) (v := nI 1) cx (dA ddX8_told (i := 32) rfl) (by decide) ?_
        refine x_zreturn (pc := 59) cx (dA ddX8_told (i := 33) rfl) (by first | exact Nat.le_of_ble_eq_true rfl | omega) (by first | exact Nat.le_of_ble_eq_true rfl | omega) rfl ?_
        rw [e9]
        exact ⟨congrArg (fun z => some (Value.int z)) (b2i_t rfl).symm, rfl, (if_pos rfl).symm⟩
      · have c38 := b2i_eq c38
        have e9 : tdN B S w N i lo hi τ = (false, N, (adv B S τ.2.2)) := e8.trans (by rcases fn with h | h; exact rdN_bad h (by omega); exact rdN_none h.1)
        refine x_aload_n (pc := 41) cx (dA ddX8_told (i := 21) rfl) rfl ?_
        refine x_V0 (pc := 42) mX8_181 h0 (c_X8_wrong hM) cx (dA ddX8_told (i := 22) rfl) (kI ?_)
        rw [show (mrV V y a B N (adv B S τ.2.2)).1 425 y = nI (adv B S τ.2.2).2.1 from m_g25]
        refine x_zreturn (pc := 45) cx (dA ddX8_told (i := 23) rfl) (by first | exact Nat.le_of_ble_eq_true rfl | omega) (by first | exact Nat.le_of_ble_eq_true rfl | omega) rfl ?_
        rw [e9]
        exact ⟨congrArg (fun z => some (Value.int z)) (b2i_f (fun q => Bool.noConfusion q)).symm, rfl, (if_neg (fun q => Bool.noConfusion q)).symm⟩
  · have w0 := b2i_eq c5
    have e8 : tdN B S w N i lo hi τ = (false, N, τ) := if_neg w0
    refine x_aload_n (pc := 8) cx (dA ddX8_told (i := 4) rfl) rfl ?_
    refine x_V0 (pc := 9) mX8_181 h0 (c_X8_wrong hM) cx (dA ddX8_told (i := 5) rfl) (kI ?_)
    rw [show (mrV V y a B N τ).1 425 y = nI τ.2.1 from m_g25]
    refine x_zreturn (pc := 12) cx (dA ddX8_told (i := 6) rfl) (by first | exact Nat.le_of_ble_eq_true rfl | omega) (by first | exact Nat.le_of_ble_eq_true rfl | omega) rfl ?_
    rw [e8]
    exact ⟨congrArg (fun z => some (Value.int z)) (b2i_f (fun q => Bool.noConfusion q)).symm, rfl, (if_neg (fun q => Bool.noConfusion q)).symm⟩
theorem c_X8_statement {l : Launch} {Z : zP} {G : zG} {V : zV} {y : Nat} (hM : ModelAt Z G y) {a : Nat} (ha : isA Z G a 1 20) (ha2 : a ≠ y + 27) {B : Nat → Nat} {S : Nat} (hT : MTape V y B S) {N : Nat → Nat} {τ : TK} (hk : tk0 B S τ) (h4 : N 4 ≤ 3) : CT l Z yX8_statement cX8_statement 3 (some .boolean) 6 0 0 [.ref y, .ref a] G (mrV V y a B N τ) (pI (b2i ((stP B S N τ).1 = true)) G (rdS V y a B (stP B S N τ))) := by
  refine CT.of (by decide +kernel) (Nat.le_of_ble_eq_true rfl) (fun X hX cx => ?_)
  subst hX
  show Wm Z X 3 G (mrV V y a B N τ) 0 0 _ 0 [(0, some (.ref y)), (1, some (.ref a))] []
  have h0 := hM.1
  have q3 := hk.2.2.1
  have τ1k := adv_tk (B := B) q3
  refine x_aload_n (pc := 0) cx (dA ddX8_statement (i := 0) rfl) rfl ?_
  refine x_ldcS (pc := 1) (i := 0) (tx := "days") (by decide +kernel) cx (dA ddX8_statement (i := 1) rfl) ?_
  refine x_V1 (pc := 3) mX8_177 h0 (c_X8_isWord (i := 0) hM (hT.mr (N := N) (τ := τ) ha2) m_g24 m_g25 m_g23 hk (by omega)) cx (dA ddX8_statement (i := 2) rfl) (kI ?_)
  refine x_if_eq (pc := 6) (tgt := 21) cx (dA ddX8_statement (i := 3) rfl) (by decide) (fun c6 => ?_) (fun c6 => ?_)
  · have w0 := b2i_eq c6
    refine x_aload_n (pc := 21) cx (dA ddX8_statement (i := 12) rfl) rfl ?_
    refine x_ldcS (pc := 22) (i := 1) (tx := "box") (by decide +kernel) cx (dA ddX8_statement (i := 13) rfl) ?_
    refine x_V1 (pc := 24) mX8_177 h0 (c_X8_isWord (i := 1) hM (hT.mr (N := N) (τ := τ) ha2) m_g24 m_g25 m_g23 hk (by omega)) cx (dA ddX8_statement (i := 14) rfl) (kI ?_)
    refine x_if_eq (pc := 27) (tgt := 64) cx (dA ddX8_statement (i := 15) rfl) (by decide) (fun c27 => ?_) (fun c27 => ?_)
    · have w1 := b2i_eq c27
      refine x_aload_n (pc := 64) cx (dA ddX8_statement (i := 36) rfl) rfl ?_
      refine x_ldcS (pc := 65) (i := 3) (tx := "full") (by decide +kernel) cx (dA ddX8_statement (i := 37) rfl) ?_
      refine x_V1 (pc := 67) mX8_177 h0 (c_X8_isWord (i := 3) hM (hT.mr (N := N) (τ := τ) ha2) m_g24 m_g25 m_g23 hk (by omega)) cx (dA ddX8_statement (i := 38) rfl) (kI ?_)
      refine x_if_eq (pc := 70) (tgt := 84) cx (dA ddX8_statement (i := 39) rfl) (by decide) (fun c70 => ?_) (fun c70 => ?_)
      · have w3 := b2i_eq c70
        refine x_aload_n (pc := 84) cx (dA ddX8_statement (i := 48) rfl) rfl ?_
        refine x_ldcS (pc := 85) (i := 4) (tx := "sort") (by decide +kernel) cx (dA ddX8_statement (i := 49) rfl) ?_
        refine x_V1 (pc := 87) mX8_177 h0 (c_X8_isWord (i := 4) hM (hT.mr (N := N) (τ := τ) ha2) m_g24 m_g25 m_g23 hk (by omega)) cx (dA ddX8_statement (i := 50) rfl) (kI ?_)
        refine x_if_eq (pc := 90) (tgt := 100) cx (dA ddX8_statement (i := 51) rfl) (by decide) (fun c90 => ?_) (fun c90 => ?_)
        · have w4 := b2i_eq c90
          have e9 : stP B S N τ = (false, N, τ) := by unfold stP; rw [if_neg w0, if_neg w1, if_neg w3, if_neg (fun q => w4 q.1)]
          refine x_aload_n (pc := 100) cx (dA ddX8_statement (i := 57) rfl) rfl ?_
          refine x_V0 (pc := 101) mX8_181 h0 (c_X8_wrong hM) cx (dA ddX8_statement (i := 58) rfl) (kI ?_)
          rw [show (mrV V y a B N τ).1 425 y = nI τ.2.1 from m_g25]
          refine x_zreturn (pc := 104) cx (dA ddX8_statement (i := 59) rfl) (by first | exact Nat.le_of_ble_eq_true rfl | omega) (by first | exact Nat.le_of_ble_eq_true rfl | omega) rfl ?_
          rw [e9]
          exact ⟨congrArg (fun z => some (Value.int z)) (b2i_f (fun q => Bool.noConfusion q)).symm, rfl, (if_neg (fun q => Bool.noConfusion q)).symm⟩
        · have w4 := b2i_ne c90
          refine x_aload_n (pc := 93) cx (dA ddX8_statement (i := 52) rfl) rfl ?_
          refine x_iconst (pc := 94) (v := nI 4) cx (dA ddX8_statement (i := 53) rfl) (by decide) ?_
          refine x_iaload (pc := 95) cx (dA ddX8_statement (i := 54) rfl) ha (by decide) (by decide) ?_
          rw [m_ga (by decide)]
          refine x_iconst (pc := 96) (v := nI 3) cx (dA ddX8_statement (i := 55) rfl) (by decide) ?_
          refine x_icmp_ne (pc := 97) (tgt := 105) cx (dA ddX8_statement (i := 56) rfl) (by decide) (fun c97 => ?_) (fun c97 => ?_)
          · have c97 := ceqF (by omega) (by omega) c97
            have n3 : N 4 < 3 := by omega
            obtain ⟨R, hR⟩ : ∃ R : Nat → PR, R = srS B S (numP (numP N (5 + 5 * N 4 + 3) 0) (5 + 5 * N 4 + 4) 0) (5 + 5 * N 4) (adv B S τ.2.2) := ⟨_, rfl⟩
            have e1 : R 1 = tdN B S 2 (numP (numP N (5 + 5 * N 4 + 3) 0) (5 + 5 * N 4 + 4) 0) (5 + 5 * N 4) 1 9 (adv B S τ.2.2) := by rw [hR]; rfl
            have e2 : (R 1).1 = true → R 2 = tdN B S 5 (R 1).2.1 (5 + 5 * N 4 + 1) 0 4 (R 1).2.2 := fun h => by rw [hR] at h ⊢; exact bnd_t h
            have e3 : (R 2).1 = true → R 3 = tdN B S 6 (R 2).2.1 (5 + 5 * N 4 + 2) 0 9 (R 2).2.2 := fun h => by rw [hR] at h ⊢; exact bnd_t h
            have e4 : (R 3).1 = true → R 4 = opN B S 7 (R 3).2.1 (5 + 5 * N 4 + 3) 0 99 (R 3).2.2 := fun h => by rw [hR] at h ⊢; exact bnd_t h
            have e5 : (R 4).1 = true → R 5 = opN B S 8 (R 4).2.1 (5 + 5 * N 4 + 4) 0 99 (R 4).2.2 := fun h => by rw [hR] at h ⊢; exact bnd_t h
            have hz : (numP (numP N (5 + 5 * N 4 + 3) 0) (5 + 5 * N 4 + 4) 0) (5 + 5 * N 4 + 3) = 0 ∧ (numP (numP N (5 + 5 * N 4 + 3) 0) (5 + 5 * N 4 + 4) 0) (5 + 5 * N 4 + 4) = 0 := ⟨by rw [numP_ne (by omega), numP_eq], numP_eq⟩
            have kR : ∀ j, j ≤ 5 → tk0 B S (R j).2.2 := fun j hj => by rw [hR]; exact (srS_inv τ1k hz j hj).1
            have fl : ∀ j, j ≤ 5 → ¬ (R j).1 = true → R 5 = R j := fun j hj h => by rw [hR] at h ⊢; exact srS_fail2 hj h
            have est : stP B S N τ = bnd (R 5) fun N τ => (true, numP N 4 (N 4 + 1), τ) := by rw [hR]; unfold stP; rw [if_neg w0, if_neg w1, if_neg w3, if_pos ⟨w4, n3⟩]
            refine x_aload_n (pc := 105) cx (dA ddX8_statement (i := 60) rfl) rfl ?_
            refine x_V0 (pc := 106) mX8_185 h0 (c_X8_look (V := setA V a N) hM (hT.sa ha2) (τ := τ) (g := fgP B τ) q3) cx (dA ddX8_statement (i := 61) rfl) (kV ?_)
            rw [show mtV (setA V a N) y (adv B S τ.2.2) (fgP B (adv B S τ.2.2)) = mrV V y a B N (adv B S τ.2.2) from rfl]
            refine x_iconst (pc := 109) (v := nI 5) cx (dA ddX8_statement (i := 62) rfl) (by decide) ?_
            refine x_iconst (pc := 110) (v := nI 5) cx (dA ddX8_statement (i := 63) rfl) (by decide) ?_
            refine x_aload_n (pc := 111) cx (dA ddX8_statement (i := 64) rfl) rfl ?_
            refine x_iconst (pc := 112) (v := nI 4) cx (dA ddX8_statement (i := 65) rfl) (by decide) ?_
            refine x_iaload (pc := 113) cx (dA ddX8_statement (i := 66) rfl) ha (by decide) (by decide) ?_
            rw [m_ga (by decide)]
            refine x_imul (pc := 114) cx (dA ddX8_statement (i := 67) rfl) ?_
            rw [nI_cmul]
            refine x_iadd (pc := 115) cx (dA ddX8_statement (i := 68) rfl) ?_
            rw [nI_add]
            refine x_istore_n (pc := 116) cx (dA ddX8_statement (i := 69) rfl) (by decide) rfl ?_
            refine x_aload_n (pc := 117) cx (dA ddX8_statement (i := 70) rfl) rfl ?_
            refine x_iload_n (pc := 118) cx (dA ddX8_statement (i := 71) rfl) rfl ?_
            refine x_iconst (pc := 119) (v := nI 3) cx (dA ddX8_statement (i := 72) rfl) (by decide) ?_
            refine x_iadd (pc := 120) cx (dA ddX8_statement (i := 73) rfl) ?_
            rw [nI_add]
            refine x_iconst (pc := 121) (v := nI 0) cx (dA ddX8_statement (i := 74) rfl) (by decide) ?_
            refine x_iastore (pc := 122) cx (dA ddX8_statement (i := 75) rfl) ha (by omega) (by decide) ?_
            rw [m_put (by omega)]
            refine x_aload_n (pc := 123) cx (dA ddX8_statement (i := 76) rfl) rfl ?_
            refine x_iload_n (pc := 124) cx (dA ddX8_statement (i := 77) rfl) rfl ?_
            refine x_iconst (pc := 125) (v := nI 4) cx (dA ddX8_statement (i := 78) rfl) (by decide) ?_
            refine x_iadd (pc := 126) cx (dA ddX8_statement (i := 79) rfl) ?_
            rw [nI_add]
            refine x_iconst (pc := 127) (v := nI 0) cx (dA ddX8_statement (i := 80) rfl) (by decide) ?_
            refine x_iastore (pc := 128) cx (dA ddX8_statement (i := 81) rfl) ha (by omega) (by decide) ?_
            rw [m_put (by omega)]
            refine x_aload_n (pc := 129) cx (dA ddX8_statement (i := 82) rfl) rfl ?_
            refine x_ldcS (pc := 130) (i := 2) (tx := "room") (by decide +kernel) cx (dA ddX8_statement (i := 83) rfl) ?_
            refine x_aload_n (pc := 132) cx (dA ddX8_statement (i := 84) rfl) rfl ?_
            refine x_iload_n (pc := 133) cx (dA ddX8_statement (i := 85) rfl) rfl ?_
            refine x_iconst (pc := 134) (v := nI 1) cx (dA ddX8_statement (i := 86) rfl) (by decide) ?_
            refine x_bipush (pc := 135) (v := nI 9) cx (dA ddX8_statement (i := 87) rfl) (by decide) ?_
            refine x_V5 (pc := 137) mX8_190 h0 (c_X8_told hM ha ha2 hT (N := (numP (numP N (5 + 5 * N 4 + 3) 0) (5 + 5 * N 4 + 4) 0)) (τ := (adv B S τ.2.2)) τ1k (w := 2) (i := 5 + 5 * N 4) (lo := 1) (hi := 9) (by omega) (by omega) (by omega) (by omega)) cx (dA ddX8_statement (i := 88) rfl) (kI ?_)
            rw [← e1]
            refine x_if_eq (pc := 140) (tgt := 174) cx (dA ddX8_statement (i := 89) rfl) (by decide) (fun c140 => ?_) (fun c140 => ?_)
            · have nk := b2i_eq c140
              have e8 := fl 1 (by decide) nk
              refine x_iconst (pc := 174) (v := nI 0) cx (dA ddX8_statement (i := 110) rfl) (by decide) ?_
              refine x_zreturn (pc := 175) cx (dA ddX8_statement (i := 111) rfl) (by first | exact Nat.le_of_ble_eq_true rfl | omega) (by first | exact Nat.le_of_ble_eq_true rfl | omega) rfl ?_
              rw [est, bnd_f (by rw [e8]; exact nk), e8]
              exact ⟨congrArg (fun z => some (Value.int z)) (b2i_f nk).symm, rfl, rfl⟩
            · have ok1 := b2i_ne c140
              rw [rdS_t ok1]
              have e2 := e2 ok1
              refine x_aload_n (pc := 143) cx (dA ddX8_statement (i := 90) rfl) rfl ?_
              refine x_ldcS (pc := 144) (i := 5) (tx := "comes") (by decide +kernel) cx (dA ddX8_statement (i := 91) rfl) ?_
              refine x_aload_n (pc := 146) cx (dA ddX8_statement (i := 92) rfl) rfl ?_
              refine x_iload_n (pc := 147) cx (dA ddX8_statement (i := 93) rfl) rfl ?_
              refine x_iconst (pc := 148) (v := nI 1) cx (dA ddX8_statement (i := 94) rfl) (by decide) ?_
              refine x_iadd (pc := 149) cx (dA ddX8_statement (i := 95) rfl) ?_
              rw [nI_add]
              refine x_iconst (pc := 150) (v := nI 0) cx (dA ddX8_statement (i := 96) rfl) (by decide) ?_
              refine x_iconst (pc := 151) (v := nI 4) cx (dA ddX8_statement (i := 97) rfl) (by decide) ?_
              refine x_V5 (pc := 152) mX8_190 h0 (c_X8_told hM ha ha2 hT (N := (R 1).2.1) (τ := (R 1).2.2) (kR 1 (by decide)) (w := 5) (i := 5 + 5 * N 4 + 1) (lo := 0) (hi := 4) (by omega) (by omega) (by omega) (by omega)) cx (dA ddX8_statement (i := 98) rfl) (kI ?_)
              rw [← e2]
              refine x_if_eq (pc := 155) (tgt := 174) cx (dA ddX8_statement (i := 99) rfl) (by decide) (fun c155 => ?_) (fun c155 => ?_)
              · have nk := b2i_eq c155
                have e8 := fl 2 (by decide) nk
                refine x_iconst (pc := 174) (v := nI 0) cx (dA ddX8_statement (i := 110) rfl) (by decide) ?_
                refine x_zreturn (pc := 175) cx (dA ddX8_statement (i := 111) rfl) (by first | exact Nat.le_of_ble_eq_true rfl | omega) (by first | exact Nat.le_of_ble_eq_true rfl | omega) rfl ?_
                rw [est, bnd_f (by rw [e8]; exact nk), e8]
                exact ⟨congrArg (fun z => some (Value.int z)) (b2i_f nk).symm, rfl, rfl⟩
              · have ok2 := b2i_ne c155
                rw [rdS_t ok2]
                have e3 := e3 ok2
                refine x_aload_n (pc := 158) cx (dA ddX8_statement (i := 100) rfl) rfl ?_
                refine x_ldcS (pc := 159) (i := 6) (tx := "hold") (by decide +kernel) cx (dA ddX8_statement (i := 101) rfl) ?_
                refine x_aload_n (pc := 161) cx (dA ddX8_statement (i := 102) rfl) rfl ?_
                refine x_iload_n (pc := 162) cx (dA ddX8_statement (i := 103) rfl) rfl ?_
                refine x_iconst (pc := 163) (v := nI 2) cx (dA ddX8_statement (i := 104) rfl) (by decide) ?_
                refine x_iadd (pc := 164) cx (dA ddX8_statement (i := 105) rfl) ?_
                rw [nI_add]
                refine x_iconst (pc := 165) (v := nI 0) cx (dA ddX8_statement (i := 106) rfl) (by decide) ?_
                refine x_bipush (pc := 166) (v := nI 9) cx (dA ddX8_statement (i := 107) rfl) (by decide) ?_
                refine x_V5 (pc := 168) mX8_190 h0 (c_X8_told hM ha ha2 hT (N := (R 2).2.1) (τ := (R 2).2.2) (kR 2 (by decide)) (w := 6) (i := 5 + 5 * N 4 + 2) (lo := 0) (hi := 9) (by omega) (by omega) (by omega) (by omega)) cx (dA ddX8_statement (i := 108) rfl) (kI ?_)
                rw [← e3]
                refine x_if_ne (pc := 171) (tgt := 176) cx (dA ddX8_statement (i := 109) rfl) (by decide) (fun c171 => ?_) (fun c171 => ?_)
                · have ok3 := b2i_ne c171
                  rw [rdS_t ok3]
                  have e4 := e4 ok3
                  refine x_aload_n (pc := 176) cx (dA ddX8_statement (i := 112) rfl) rfl ?_
                  refine x_ldcS (pc := 177) (i := 7) (tx := "refuse") (by decide +kernel) cx (dA ddX8_statement (i := 113) rfl) ?_
                  refine x_V1 (pc := 179) mX8_177 h0 (c_X8_isWord (i := 7) hM (hT.mr (N := (R 3).2.1) (τ := (R 3).2.2) ha2) m_g24 m_g25 m_g23 (kR 3 (by decide)) (by omega)) cx (dA ddX8_statement (i := 114) rfl) (kI ?_)
                  have J203 : (R 4).1 = true → Wm Z X 3 G (mrV V y a B (R 4).2.1 (R 4).2.2) 0 0 (rQ Z X 0 0 (pI (b2i ((stP B S N τ).1 = true)) G (rdS V y a B (stP B S N τ)))) 203 [(0, some (.ref y)), (1, some (.ref a)), (2, some (.int (nI (5 + 5 * N 4))))] [] := by
                    intro ok4
                    have e5 := e5 ok4
                    refine x_aload_n (pc := 203) cx (dA ddX8_statement (i := 128) rfl) rfl ?_
                    refine x_ldcS (pc := 204) (i := 8) (tx := "left") (by decide +kernel) cx (dA ddX8_statement (i := 129) rfl) ?_
                    refine x_V1 (pc := 206) mX8_177 h0 (c_X8_isWord (i := 8) hM (hT.mr (N := (R 4).2.1) (τ := (R 4).2.2) ha2) m_g24 m_g25 m_g23 (kR 4 (by decide)) (by omega)) cx (dA ddX8_statement (i := 130) rfl) (kI ?_)
                    have J230 : (R 5).1 = true → Wm Z X 3 G (mrV V y a B (R 5).2.1 (R 5).2.2) 0 0 (rQ Z X 0 0 (pI (b2i ((stP B S N τ).1 = true)) G (rdS V y a B (stP B S N τ)))) 230 [(0, some (.ref y)), (1, some (.ref a)), (2, some (.int (nI (5 + 5 * N 4))))] [] := by
                      intro ok5
                      refine x_aload_n (pc := 230) cx (dA ddX8_statement (i := 144) rfl) rfl ?_
                      refine x_iconst (pc := 231) (v := nI 4) cx (dA ddX8_statement (i := 145) rfl) (by decide) ?_
                      refine x_dup2 (pc := 232) cx rfl rfl (dA ddX8_statement (i := 146) rfl) ?_
                      refine x_iaload (pc := 233) cx (dA ddX8_statement (i := 147) rfl) ha (by decide) (by decide) ?_
                      rw [m_ga (by decide)]
                      refine x_iconst (pc := 234) (v := nI 1) cx (dA ddX8_statement (i := 148) rfl) (by decide) ?_
                      refine x_iadd (pc := 235) cx (dA ddX8_statement (i := 149) rfl) ?_
                      rw [nI_add]
                      refine x_iastore (pc := 236) cx (dA ddX8_statement (i := 150) rfl) ha (by decide) (by decide) ?_
                      rw [m_put (by decide)]
                      refine x_iconst (pc := 237) (v := nI 1) cx (dA ddX8_statement (i := 151) rfl) (by decide) ?_
                      refine x_zreturn (pc := 238) cx (dA ddX8_statement (i := 152) rfl) (by first | exact Nat.le_of_ble_eq_true rfl | omega) (by first | exact Nat.le_of_ble_eq_true rfl | omega) rfl ?_
                      rw [est, bnd_t ok5]
                      exact ⟨congrArg (fun z => some (Value.int z)) (b2i_t rfl).symm, rfl, (if_pos rfl).symm⟩
                    refine x_if_eq (pc := 209) (tgt := 230) cx (dA ddX8_statement (i := 131) rfl) (by decide) (fun c209 => ?_) (fun c209 => ?_)
                    · have w8 := b2i_eq c209
                      have e7 : R 5 = (true, (R 4).2.1, (R 4).2.2) := e5.trans (if_neg w8)
                      have J := J230 (by rw [e7])
                      rw [show (R 5).2.1 = (R 4).2.1 by rw [e7], show (R 5).2.2 = (R 4).2.2 by rw [e7]] at J
                      exact x_enter J ⟨.inr rfl, .inr rfl, .inr rfl, trivial⟩
                    · have w8 := b2i_ne c209
                      have e7 : R 5 = tdN B S 8 (R 4).2.1 (5 + 5 * N 4 + 4) 0 99 (R 4).2.2 := e5.trans ((if_pos w8).trans (if_pos w8).symm)
                      refine x_aload_n (pc := 212) cx (dA ddX8_statement (i := 132) rfl) rfl ?_
                      refine x_ldcS (pc := 213) (i := 8) (tx := "left") (by decide +kernel) cx (dA ddX8_statement (i := 133) rfl) ?_
                      refine x_aload_n (pc := 215) cx (dA ddX8_statement (i := 134) rfl) rfl ?_
                      refine x_iload_n (pc := 216) cx (dA ddX8_statement (i := 135) rfl) rfl ?_
                      refine x_iconst (pc := 217) (v := nI 4) cx (dA ddX8_statement (i := 136) rfl) (by decide) ?_
                      refine x_iadd (pc := 218) cx (dA ddX8_statement (i := 137) rfl) ?_
                      rw [nI_add]
                      refine x_iconst (pc := 219) (v := nI 0) cx (dA ddX8_statement (i := 138) rfl) (by decide) ?_
                      refine x_bipush (pc := 220) (v := nI 99) cx (dA ddX8_statement (i := 139) rfl) (by decide) ?_
                      refine x_V5 (pc := 222) mX8_190 h0 (c_X8_told hM ha ha2 hT (N := (R 4).2.1) (τ := (R 4).2.2) (kR 4 (by decide)) (w := 8) (i := 5 + 5 * N 4 + 4) (lo := 0) (hi := 99) (by omega) (by omega) (by omega) (by omega)) cx (dA ddX8_statement (i := 140) rfl) (kI ?_)
                      rw [← e7]
                      refine x_if_ne (pc := 225) (tgt := 230) cx (dA ddX8_statement (i := 141) rfl) (by decide) (fun c225 => ?_) (fun c225 => ?_)
                      · have ok5 := b2i_ne c225
                        rw [rdS_t ok5]
                        exact x_enter (J230 ok5) ⟨.inr rfl, .inr rfl, .inr rfl, trivial⟩
                      · have nk := b2i_eq c225
                        have e8 := fl 5 (by decide) nk
                        refine x_iconst (pc := 228) (v := nI 0) cx (dA ddX8_statement (i := 142) rfl) (by decide) ?_
                        refine x_zreturn (pc := 229) cx (dA ddX8_statement (i := 143) rfl) (by first | exact Nat.le_of_ble_eq_true rfl | omega) (by first | exact Nat.le_of_ble_eq_true rfl | omega) rfl ?_
                        rw [est, bnd_f nk]
                        exact ⟨congrArg (fun z => some (Value.int z)) (b2i_f nk).symm, rfl, rfl⟩
                  refine x_if_eq (pc := 182) (tgt := 203) cx (dA ddX8_statement (i := 115) rfl) (by decide) (fun c182 => ?_) (fun c182 => ?_)
                  · have w7 := b2i_eq c182
                    have e6 : R 4 = (true, (R 3).2.1, (R 3).2.2) := e4.trans (if_neg w7)
                    have J := J203 (by rw [e6])
                    rw [show (R 4).2.1 = (R 3).2.1 by rw [e6], show (R 4).2.2 = (R 3).2.2 by rw [e6]] at J
                    exact x_enter J ⟨.inr rfl, .inr rfl, .inr rfl, trivial⟩
                  · have w7 := b2i_ne c182
                    have e6 : R 4 = tdN B S 7 (R 3).2.1 (5 + 5 * N 4 + 3) 0 99 (R 3).2.2 := e4.trans ((if_pos w7).trans (if_pos w7).symm)
                    refine x_aload_n (pc := 185) cx (dA ddX8_statement (i := 116) rfl) rfl ?_
                    refine x_ldcS (pc := 186) (i := 7) (tx := "refuse") (by decide +kernel) cx (dA ddX8_statement (i := 117) rfl) ?_
                    refine x_aload_n (pc := 188) cx (dA ddX8_statement (i := 118) rfl) rfl ?_
                    refine x_iload_n (pc := 189) cx (dA ddX8_statement (i := 119) rfl) rfl ?_
                    refine x_iconst (pc := 190) (v := nI 3) cx (dA ddX8_statement (i := 120) rfl) (by decide) ?_
                    refine x_iadd (pc := 191) cx (dA ddX8_statement (i := 121) rfl) ?_
                    rw [nI_add]
                    refine x_iconst (pc := 192) (v := nI 0) cx (dA ddX8_statement (i := 122) rfl) (by decide) ?_
                    refine x_bipush (pc := 193) (v := nI 99) cx (dA ddX8_statement (i := 123) rfl) (by decide) ?_
                    refine x_V5 (pc := 195) mX8_190 h0 (c_X8_told hM ha ha2 hT (N := (R 3).2.1) (τ := (R 3).2.2) (kR 3 (by decide)) (w := 7) (i := 5 + 5 * N 4 + 3) (lo := 0) (hi := 99) (by omega) (by omega) (by omega) (by omega)) cx (dA ddX8_statement (i := 124) rfl) (kI ?_)
                    rw [← e6]
                    refine x_if_ne (pc := 198) (tgt := 203) cx (dA ddX8_statement (i := 125) rfl) (by decide) (fun c198 => ?_) (fun c198 => ?_)
                    · have ok4 := b2i_ne c198
                      rw [rdS_t ok4]
                      exact x_enter (J203 ok4) ⟨.inr rfl, .inr rfl, .inr rfl, trivial⟩
                    · have nk := b2i_eq c198
                      have e8 := fl 4 (by decide) nk
                      refine x_iconst (pc := 201) (v := nI 0) cx (dA ddX8_statement (i := 126) rfl) (by decide) ?_
                      refine x_zreturn (pc := 202) cx (dA ddX8_statement (i := 127) rfl) (by first | exact Nat.le_of_ble_eq_true rfl | omega) (by first | exact Nat.le_of_ble_eq_true rfl | omega) rfl ?_
                      rw [est, bnd_f (by rw [e8]; exact nk), e8]
                      exact ⟨congrArg (fun z => some (Value.int z)) (b2i_f nk).symm, rfl, rfl⟩
                · have nk := b2i_eq c171
                  have e8 := fl 3 (by decide) nk
                  refine x_iconst (pc := 174) (v := nI 0) cx (dA ddX8_statement (i := 110) rfl) (by decide) ?_
                  refine x_zreturn (pc := 175) cx (dA ddX8_statement (i := 111) rfl) (by first | exact Nat.le_of_ble_eq_true rfl | omega) (by first | exact Nat.le_of_ble_eq_true rfl | omega) rfl ?_
                  rw [est, bnd_f (by rw [e8]; exact nk), e8]
                  exact ⟨congrArg (fun z => some (Value.int z)) (b2i_f nk).symm, rfl, rfl⟩
          · have c97 := ceqT (by omega) (by omega) c97
            have e9 : stP B S N τ = (false, N, τ) := by unfold stP; rw [if_neg w0, if_neg w1, if_neg w3, if_neg (fun q => absurd q.2 (by omega))]
            refine x_aload_n (pc := 100) cx (dA ddX8_statement (i := 57) rfl) rfl ?_
            refine x_V0 (pc := 101) mX8_181 h0 (c_X8_wrong hM) cx (dA ddX8_statement (i := 58) rfl) (kI ?_)
            rw [show (mrV V y a B N τ).1 425 y = nI τ.2.1 from m_g25]
            refine x_zreturn (pc := 104) cx (dA ddX8_statement (i := 59) rfl) (by first | exact Nat.le_of_ble_eq_true rfl | omega) (by first | exact Nat.le_of_ble_eq_true rfl | omega) rfl ?_
            rw [e9]
            exact ⟨congrArg (fun z => some (Value.int z)) (b2i_f (fun q => Bool.noConfusion q)).symm, rfl, (if_neg (fun q => Bool.noConfusion q)).symm⟩
      · have w3 := b2i_ne c70
        refine x_aload_n (pc := 73) cx (dA ddX8_statement (i := 40) rfl) rfl ?_
        refine x_ldcS (pc := 74) (i := 3) (tx := "full") (by decide +kernel) cx (dA ddX8_statement (i := 41) rfl) ?_
        refine x_aload_n (pc := 76) cx (dA ddX8_statement (i := 42) rfl) rfl ?_
        refine x_iconst (pc := 77) (v := nI 3) cx (dA ddX8_statement (i := 43) rfl) (by decide) ?_
        refine x_iconst (pc := 78) (v := nI 0) cx (dA ddX8_statement (i := 44) rfl) (by decide) ?_
        refine x_iconst (pc := 79) (v := nI 3) cx (dA ddX8_statement (i := 45) rfl) (by decide) ?_
        refine x_V5 (pc := 80) mX8_190 h0 (c_X8_told hM ha ha2 hT (N := N) (τ := τ) hk (w := 3) (i := 3) (lo := 0) (hi := 3) (by omega) (by omega) (by omega) (by omega)) cx (dA ddX8_statement (i := 46) rfl) (kI ?_)
        refine x_zreturn (pc := 83) cx (dA ddX8_statement (i := 47) rfl) (by first | exact Nat.le_of_ble_eq_true rfl | omega) (by first | exact Nat.le_of_ble_eq_true rfl | omega) b2i_nar ?_
        have e9 : stP B S N τ = tdN B S 3 N 3 0 3 τ := by unfold stP tdN; rw [if_neg w0, if_neg w1, if_pos w3, if_pos w3]
        rw [e9]
        exact rI rfl
    · have w1 := b2i_ne c27
      have e8 : stP B S N τ = bnd (tdN B S 1 N (1) 0 99 τ) fun N τ => tdN B S 2 N 2 1 40 τ := by unfold stP; rw [if_neg w0, if_pos w1, show (tdN B S 1 N (1) 0 99 τ) = rdN B S N 1 0 99 τ from if_pos w1]
      refine x_aload_n (pc := 30) cx (dA ddX8_statement (i := 16) rfl) rfl ?_
      refine x_ldcS (pc := 31) (i := 1) (tx := "box") (by decide +kernel) cx (dA ddX8_statement (i := 17) rfl) ?_
      refine x_aload_n (pc := 33) cx (dA ddX8_statement (i := 18) rfl) rfl ?_
      refine x_iconst (pc := 34) (v := nI 1) cx (dA ddX8_statement (i := 19) rfl) (by decide) ?_
      refine x_iconst (pc := 35) (v := nI 0) cx (dA ddX8_statement (i := 20) rfl) (by decide) ?_
      refine x_bipush (pc := 36) (v := nI 99) cx (dA ddX8_statement (i := 21) rfl) (by decide) ?_
      refine x_V5 (pc := 38) mX8_190 h0 (c_X8_told hM ha ha2 hT (N := N) (τ := τ) hk (w := 1) (i := 1) (lo := 0) (hi := 99) (by omega) (by omega) (by omega) (by omega)) cx (dA ddX8_statement (i := 22) rfl) (kI ?_)
      have k1 := tdN_tk (w := 1) (N := N) (i := 1) (lo := 0) (hi := 99) hk
      refine x_if_eq (pc := 41) (tgt := 62) cx (dA ddX8_statement (i := 23) rfl) (by decide) (fun c41 => ?_) (fun c41 => ?_)
      · have b1 := b2i_eq c41
        have e9 : stP B S N τ = (tdN B S 1 N (1) 0 99 τ) := e8.trans (bnd_f b1)
        refine x_iconst (pc := 62) (v := nI 0) cx (dA ddX8_statement (i := 34) rfl) (by decide) ?_
        refine x_zreturn (pc := 63) cx (dA ddX8_statement (i := 35) rfl) (by first | exact Nat.le_of_ble_eq_true rfl | omega) (by first | exact Nat.le_of_ble_eq_true rfl | omega) rfl ?_
        rw [e9]
        exact ⟨congrArg (fun z => some (Value.int z)) (b2i_f b1).symm, rfl, rfl⟩
      · have b1 := b2i_ne c41
        have e9 : stP B S N τ = tdN B S 2 (tdN B S 1 N (1) 0 99 τ).2.1 2 1 40 (tdN B S 1 N (1) 0 99 τ).2.2 := e8.trans (bnd_t b1)
        rw [rdS_t b1]
        refine x_aload_n (pc := 44) cx (dA ddX8_statement (i := 24) rfl) rfl ?_
        refine x_ldcS (pc := 45) (i := 2) (tx := "room") (by decide +kernel) cx (dA ddX8_statement (i := 25) rfl) ?_
        refine x_aload_n (pc := 47) cx (dA ddX8_statement (i := 26) rfl) rfl ?_
        refine x_iconst (pc := 48) (v := nI 2) cx (dA ddX8_statement (i := 27) rfl) (by decide) ?_
        refine x_iconst (pc := 49) (v := nI 1) cx (dA ddX8_statement (i := 28) rfl) (by decide) ?_
        refine x_bipush (pc := 50) (v := nI 40) cx (dA ddX8_statement (i := 29) rfl) (by decide) ?_
        refine x_V5 (pc := 52) mX8_190 h0 (c_X8_told hM ha ha2 hT (N := (tdN B S 1 N (1) 0 99 τ).2.1) (τ := (tdN B S 1 N (1) 0 99 τ).2.2) k1 (w := 2) (i := 2) (lo := 1) (hi := 40) (by omega) (by omega) (by omega) (by omega)) cx (dA ddX8_statement (i := 30) rfl) (kI ?_)
        refine x_if_eq (pc := 55) (tgt := 62) cx (dA ddX8_statement (i := 31) rfl) (by decide) (fun c55 => ?_) (fun c55 => ?_)
        · have b2 := b2i_eq c55
          refine x_iconst (pc := 62) (v := nI 0) cx (dA ddX8_statement (i := 34) rfl) (by decide) ?_
          refine x_zreturn (pc := 63) cx (dA ddX8_statement (i := 35) rfl) (by first | exact Nat.le_of_ble_eq_true rfl | omega) (by first | exact Nat.le_of_ble_eq_true rfl | omega) rfl ?_
          rw [e9]
          exact ⟨congrArg (fun z => some (Value.int z)) (b2i_f b2).symm, rfl, rfl⟩
        · have b2 := b2i_ne c55
          refine x_iconst (pc := 58) (v := nI 1) cx (dA ddX8_statement (i := 32) rfl) (by decide) ?_
          refine x_goto (pc := 59) (tgt := 63) cx (dA ddX8_statement (i := 33) rfl) (by decide) ?_
          refine x_zreturn (pc := 63) cx (dA ddX8_statement (i := 35) rfl) (by first | exact Nat.le_of_ble_eq_true rfl | omega) (by first | exact Nat.le_of_ble_eq_true rfl | omega) rfl ?_
          rw [e9]
          exact ⟨congrArg (fun z => some (Value.int z)) (b2i_t b2).symm, rfl, rfl⟩
  · have w0 := b2i_ne c6
    refine x_aload_n (pc := 9) cx (dA ddX8_statement (i := 4) rfl) rfl ?_
    refine x_ldcS (pc := 10) (i := 0) (tx := "days") (by decide +kernel) cx (dA ddX8_statement (i := 5) rfl) ?_
    refine x_aload_n (pc := 12) cx (dA ddX8_statement (i := 6) rfl) rfl ?_
    refine x_iconst (pc := 13) (v := nI 0) cx (dA ddX8_statement (i := 7) rfl) (by decide) ?_
    refine x_iconst (pc := 14) (v := nI 1) cx (dA ddX8_statement (i := 8) rfl) (by decide) ?_
    refine x_bipush (pc := 15) (v := nI 6) cx (dA ddX8_statement (i := 9) rfl) (by decide) ?_
    refine x_V5 (pc := 17) mX8_190 h0 (c_X8_told hM ha ha2 hT (N := N) (τ := τ) hk (w := 0) (i := 0) (lo := 1) (hi := 6) (by omega) (by omega) (by omega) (by omega)) cx (dA ddX8_statement (i := 10) rfl) (kI ?_)
    refine x_zreturn (pc := 20) cx (dA ddX8_statement (i := 11) rfl) (by first | exact Nat.le_of_ble_eq_true rfl | omega) (by first | exact Nat.le_of_ble_eq_true rfl | omega) b2i_nar ?_
    have e9 : stP B S N τ = tdN B S 0 N 0 1 6 τ := by unfold stP tdN; rw [if_pos w0, if_pos w0]
    rw [e9]
    exact rI rfl
