/-! RULES: of a kind κ, by b; one told has m elements, f says which are not 0 -/
def RuleAt (Z : zP) (G : zG) (V : zV) (q κ b m : Nat) (f : Nat → Bool) : Prop := isK Z G q 3 ∧ V.1 150 q = nI κ ∧ (1 ≤ κ ∧ κ ≤ 5) ∧ (κ = 1 → V.1 151 q = nI b ∧ b ≤ 99) ∧ (κ = 2 → V.1 152 q = nI b ∧ 1 ≤ b ∧ b ≤ 6) ∧
  (κ = 3 → V.1 151 q = nI (b / 10) ∧ V.1 152 q = nI (b % 10) ∧ b / 10 ≤ 99 ∧ 1 ≤ b % 10 ∧ b % 10 ≤ 6) ∧ (κ = 5 → ∃ t, G.2.2.1 153 q = some t ∧ RowAt Z G t m ∧ ∀ i, i < m → (V.2.2.2 (t + 1) i = 0 ↔ f i = false))
def saysP (κ b m w : Nat) : Nat := match w with
  | 0 => 0
  | 1 => if κ = 3 then b / 10 else b
  | 2 => b
  | 3 => b % 10
  | 4 => 1
  | _ => m
/-- whether the box is filled: with a days left, in state s, c room standing -/
def fillsP (κ b m : Nat) (f : Nat → Bool) (a s c : Nat) : Bool := match κ with
  | 1 => decide (b ≤ c)
  | 2 => decide (a % b = 0)
  | 3 => decide (b / 10 ≤ c) || decide (a % (b % 10) = 0)
  | 5 => decide (s < m) && f s
  | _ => false
theorem c_X3_init_n {l : Launch} {Z : zP} {G : zG} {V : zV} {q : Nat} (h0 : isK Z G q 3) {κ : Nat} {x : Int32} (h6 : κ < 6) (hk : κ ≠ 3) : CT l Z yX3_init cX3_init 4 none 3 3 131 [.ref q, .int (nI κ), .int x, .null] G V (pV (sR G 153 q none) (sI (sI (sI V 150 q (nI κ)) 151 q x) 152 q x)) := by
  refine CT.of (by decide +kernel) (Nat.le_of_ble_eq_true rfl) (fun X hX cx => ?_)
  subst hX
  show Wm Z X 4 G V 0 0 _ 0 [(0, some (.ref q)), (1, some (.int (nI κ))), (2, some (.int x)), (3, some (.null))] []
  refine x_aload_n (pc := 0) cx (dA ddX3_init (i := 0) rfl) rfl ?_
  refine x_objInit (pc := 1) koX3_3 ko_i ko_c cx (dA ddX3_init (i := 1) rfl) (by decide) (Nat.le_of_ble_eq_true rfl) ?_
  refine x_aload_n (pc := 4) cx (dA ddX3_init (i := 2) rfl) rfl ?_
  refine x_iload_n (pc := 5) cx (dA ddX3_init (i := 3) rfl) rfl ?_
  refine pX3_9 (pc := 6)  cx (dA ddX3_init (i := 4) rfl) h0 ?_
  refine x_aload_n (pc := 9) cx (dA ddX3_init (i := 5) rfl) rfl ?_
  refine x_iload_n (pc := 10) cx (dA ddX3_init (i := 6) rfl) rfl ?_
  refine x_iconst (pc := 11) (v := nI 3) cx (dA ddX3_init (i := 7) rfl) (by decide) ?_
  refine x_icmp_ne (pc := 12) (tgt := 22) cx (dA ddX3_init (i := 8) rfl) (by decide) (fun c12 => ?_) (fun c12 => absurd c12 (fun e => hk (nI_inj (by omega) (by omega) e)))
  refine x_iload_n (pc := 22) cx (dA ddX3_init (i := 13) rfl) rfl ?_
  refine pX3_15 (pc := 23)  cx (dA ddX3_init (i := 14) rfl) h0 ?_
  refine x_aload_n (pc := 26) cx (dA ddX3_init (i := 15) rfl) rfl ?_
  refine x_iload_n (pc := 27) cx (dA ddX3_init (i := 16) rfl) rfl ?_
  refine x_iconst (pc := 28) (v := nI 3) cx (dA ddX3_init (i := 17) rfl) (by decide) ?_
  refine x_icmp_ne (pc := 29) (tgt := 39) cx (dA ddX3_init (i := 18) rfl) (by decide) (fun c29 => ?_) (fun c29 => absurd c29 (fun e => hk (nI_inj (by omega) (by omega) e)))
  refine x_iload_n (pc := 39) cx (dA ddX3_init (i := 23) rfl) rfl ?_
  refine pX3_18 (pc := 40)  cx (dA ddX3_init (i := 24) rfl) h0 ?_
  refine x_aload_n (pc := 43) cx (dA ddX3_init (i := 25) rfl) rfl ?_
  refine x_aload_nN (pc := 44) cx (dA ddX3_init (i := 26) rfl) rfl ?_
  refine x_ifnonnull_n (pc := 45) cx (dA ddX3_init (i := 27) rfl) ?_
  refine x_null (pc := 48) cx (dA ddX3_init (i := 28) rfl) ?_
  refine x_goto (pc := 49) (tgt := 56) cx (dA ddX3_init (i := 29) rfl) (by decide) ?_
  refine pX3_27 (pc := 56) (x := none) cx (dA ddX3_init (i := 32) rfl) h0 ?_
  refine x_return (pc := 59) cx (dA ddX3_init (i := 33) rfl) (by first | exact Nat.le_of_ble_eq_true rfl | omega) (by first | exact Nat.le_of_ble_eq_true rfl | omega) ?_
  exact ⟨rfl, rfl, rfl⟩
theorem c_X3_init_b {l : Launch} {Z : zP} {G : zG} {V : zV} {q : Nat} (h0 : isK Z G q 3) {b : Nat} (hb : b < 1000) : CT l Z yX3_init cX3_init 4 none 3 3 131 [.ref q, .int (nI 3), .int (nI b), .null] G V (pV (sR G 153 q none) (sI (sI (sI V 150 q (nI 3)) 151 q (nI (b / 10))) 152 q (nI (b % 10)))) := by
  refine CT.of (by decide +kernel) (Nat.le_of_ble_eq_true rfl) (fun X hX cx => ?_)
  subst hX
  show Wm Z X 4 G V 0 0 _ 0 [(0, some (.ref q)), (1, some (.int (nI 3))), (2, some (.int (nI b))), (3, some (.null))] []
  refine x_aload_n (pc := 0) cx (dA ddX3_init (i := 0) rfl) rfl ?_
  refine x_objInit (pc := 1) koX3_3 ko_i ko_c cx (dA ddX3_init (i := 1) rfl) (by decide) (Nat.le_of_ble_eq_true rfl) ?_
  refine x_aload_n (pc := 4) cx (dA ddX3_init (i := 2) rfl) rfl ?_
  refine x_iload_n (pc := 5) cx (dA ddX3_init (i := 3) rfl) rfl ?_
  refine pX3_9 (pc := 6)  cx (dA ddX3_init (i := 4) rfl) h0 ?_
  refine x_aload_n (pc := 9) cx (dA ddX3_init (i := 5) rfl) rfl ?_
  refine x_iload_n (pc := 10) cx (dA ddX3_init (i := 6) rfl) rfl ?_
  refine x_iconst (pc := 11) (v := nI 3) cx (dA ddX3_init (i := 7) rfl) (by decide) ?_
  refine x_icmp_ne (pc := 12) (tgt := 22) cx (dA ddX3_init (i := 8) rfl) (by decide) (fun c12 => absurd rfl c12) (fun c12 => ?_)
  refine x_iload_n (pc := 15) cx (dA ddX3_init (i := 9) rfl) rfl ?_
  refine x_bipush (pc := 16) (v := nI 10) cx (dA ddX3_init (i := 10) rfl) (by decide) ?_
  refine x_idiv (pc := 18) cx (by decide) (dA ddX3_init (i := 11) rfl) ?_
  refine x_goto (pc := 19) (tgt := 23) cx (dA ddX3_init (i := 12) rfl) (by decide) ?_
  rw [div32 (by omega) (by omega) (by omega)]
  refine pX3_15 (pc := 23)  cx (dA ddX3_init (i := 14) rfl) h0 ?_
  refine x_aload_n (pc := 26) cx (dA ddX3_init (i := 15) rfl) rfl ?_
  refine x_iload_n (pc := 27) cx (dA ddX3_init (i := 16) rfl) rfl ?_
  refine x_iconst (pc := 28) (v := nI 3) cx (dA ddX3_init (i := 17) rfl) (by decide) ?_
  refine x_icmp_ne (pc := 29) (tgt := 39) cx (dA ddX3_init (i := 18) rfl) (by decide) (fun c29 => absurd rfl c29) (fun c29 => ?_)
  refine x_iload_n (pc := 32) cx (dA ddX3_init (i := 19) rfl) rfl ?_
  refine x_bipush (pc := 33) (v := nI 10) cx (dA ddX3_init (i := 20) rfl) (by decide) ?_
  refine x_irem (pc := 35) cx (by decide) (dA ddX3_init (i := 21) rfl) ?_
  refine x_goto (pc := 36) (tgt := 40) cx (dA ddX3_init (i := 22) rfl) (by decide) ?_
  rw [rem32 (by omega) (by omega) (by omega)]
  refine pX3_18 (pc := 40)  cx (dA ddX3_init (i := 24) rfl) h0 ?_
  refine x_aload_n (pc := 43) cx (dA ddX3_init (i := 25) rfl) rfl ?_
  refine x_aload_nN (pc := 44) cx (dA ddX3_init (i := 26) rfl) rfl ?_
  refine x_ifnonnull_n (pc := 45) cx (dA ddX3_init (i := 27) rfl) ?_
  refine x_null (pc := 48) cx (dA ddX3_init (i := 28) rfl) ?_
  refine x_goto (pc := 49) (tgt := 56) cx (dA ddX3_init (i := 29) rfl) (by decide) ?_
  refine pX3_27 (pc := 56) (x := none) cx (dA ddX3_init (i := 32) rfl) h0 ?_
  refine x_return (pc := 59) cx (dA ddX3_init (i := 33) rfl) (by first | exact Nat.le_of_ble_eq_true rfl | omega) (by first | exact Nat.le_of_ble_eq_true rfl | omega) ?_
  exact ⟨rfl, rfl, rfl⟩
theorem c_X3_init_t {l : Launch} {Z : zP} {G : zG} {V : zV} {q : Nat} (h0 : isK Z G q 3) {x : Int32} {r m t : Nat} (hT : RowAt Z G r m) (ht : V.1 100 r = nI t) : CT l Z yX3_init cX3_init 4 none 3 3 131 [.ref q, .int (nI 5), .int x, .ref r] G V (pV (sR (sR (nG (nG G 2 0) (9 + 2) m) 101 G.1 (some (G.1 + 1))) 153 q (some G.1)) (rAJ (sI (sI (sI (sI V 150 q (nI 5)) 151 q x) 152 q x) 100 G.1 (nI t)) (G.1 + 1) 0 m (fun z => V.2.2.2 (r + 1) z))) := by
  refine CT.of (by decide +kernel) (Nat.le_of_ble_eq_true rfl) (fun X hX cx => ?_)
  subst hX
  show Wm Z X 4 G V 0 0 _ 0 [(0, some (.ref q)), (1, some (.int (nI 5))), (2, some (.int x)), (3, some (.ref r))] []
  have ht : (sI (sI (sI V 150 q (nI 5)) 151 q x) 152 q x).1 100 r = nI t := by
    show u2 (u2 (u2 V.1 150 q (nI 5)) 151 q x) 152 q x 100 r = nI t
    rw [u2_fst _ _ (by decide), u2_fst _ _ (by decide), u2_fst _ _ (by decide)]
    exact ht
  refine x_aload_n (pc := 0) cx (dA ddX3_init (i := 0) rfl) rfl ?_
  refine x_objInit (pc := 1) koX3_3 ko_i ko_c cx (dA ddX3_init (i := 1) rfl) (by decide) (Nat.le_of_ble_eq_true rfl) ?_
  refine x_aload_n (pc := 4) cx (dA ddX3_init (i := 2) rfl) rfl ?_
  refine x_iload_n (pc := 5) cx (dA ddX3_init (i := 3) rfl) rfl ?_
  refine pX3_9 (pc := 6)  cx (dA ddX3_init (i := 4) rfl) h0 ?_
  refine x_aload_n (pc := 9) cx (dA ddX3_init (i := 5) rfl) rfl ?_
  refine x_iload_n (pc := 10) cx (dA ddX3_init (i := 6) rfl) rfl ?_
  refine x_iconst (pc := 11) (v := nI 3) cx (dA ddX3_init (i := 7) rfl) (by decide) ?_
  refine x_icmp_ne (pc := 12) (tgt := 22) cx (dA ddX3_init (i := 8) rfl) (by decide) (fun c12 => ?_) (fun c12 => absurd c12 (by decide))
  refine x_iload_n (pc := 22) cx (dA ddX3_init (i := 13) rfl) rfl ?_
  refine pX3_15 (pc := 23)  cx (dA ddX3_init (i := 14) rfl) h0 ?_
  refine x_aload_n (pc := 26) cx (dA ddX3_init (i := 15) rfl) rfl ?_
  refine x_iload_n (pc := 27) cx (dA ddX3_init (i := 16) rfl) rfl ?_
  refine x_iconst (pc := 28) (v := nI 3) cx (dA ddX3_init (i := 17) rfl) (by decide) ?_
  refine x_icmp_ne (pc := 29) (tgt := 39) cx (dA ddX3_init (i := 18) rfl) (by decide) (fun c29 => ?_) (fun c29 => absurd c29 (by decide))
  refine x_iload_n (pc := 39) cx (dA ddX3_init (i := 23) rfl) rfl ?_
  refine pX3_18 (pc := 40)  cx (dA ddX3_init (i := 24) rfl) h0 ?_
  refine x_aload_n (pc := 43) cx (dA ddX3_init (i := 25) rfl) rfl ?_
  refine x_aload_n (pc := 44) cx (dA ddX3_init (i := 26) rfl) rfl ?_
  refine x_ifnonnull_s (pc := 45) (tgt := 52) cx (dA ddX3_init (i := 27) rfl) (by decide) ?_
  refine x_aload_n (pc := 52) cx (dA ddX3_init (i := 30) rfl) rfl ?_
  refine x_V0 (pc := 53) mX3_21 hT.1 (c_X2_twin (V := (sI (sI (sI V 150 q (nI 5)) 151 q x) 152 q x)) hT ht) cx (dA ddX3_init (i := 31) rfl) (kR ?_)
  have gq := h0.2.1
  refine pX3_27 (pc := 56) (x := some G.1) cx (dA ddX3_init (i := 32) rfl) (isK_nG (isK_nG h0)) ?_
  refine x_return (pc := 59) cx (dA ddX3_init (i := 33) rfl) (by first | exact Nat.le_of_ble_eq_true rfl | omega) (by first | exact Nat.le_of_ble_eq_true rfl | omega) ?_
  exact ⟨rfl, rfl, rfl⟩
theorem c_X3_isItsDay {l : Launch} {Z : zP} {G : zG} {V : zV} {q : Nat} (h0 : isK Z G q 3) {e w : Nat} (he : V.1 152 q = nI e) (h6 : e < 10) (hw : w < 10) : CT l Z yX3_isItsDay cX3_isItsDay 2 (some .boolean) 0 0 0 [.ref q, .int (nI w)] G V (pI (b2i (0 < e ∧ w % e = 0)) G V) := by
  refine CT.of (by decide +kernel) (Nat.le_of_ble_eq_true rfl) (fun X hX cx => ?_)
  subst hX
  show Wm Z X 2 G V 0 0 _ 0 [(0, some (.ref q)), (1, some (.int (nI w)))] []
  refine x_aload_n (pc := 0) cx (dA ddX3_isItsDay (i := 0) rfl) rfl ?_
  refine gX3_18 (pc := 1) (congrArg Value.int he) cx (dA ddX3_isItsDay (i := 1) rfl) h0 ?_
  refine x_if_le (pc := 4) (tgt := 20) cx (dA ddX3_isItsDay (i := 2) rfl) (by decide) (fun c4 => ?_) (fun c4 => ?_)
  · have c4 := cleT (b := 0) (by omega) (by omega) c4
    refine x_iconst (pc := 20) (v := nI 0) cx (dA ddX3_isItsDay (i := 10) rfl) (by decide) ?_
    refine x_zreturn (pc := 21) cx (dA ddX3_isItsDay (i := 11) rfl) (by first | exact Nat.le_of_ble_eq_true rfl | omega) (by first | exact Nat.le_of_ble_eq_true rfl | omega) rfl ?_
    refine rI ?_
    first | exact (b2i_t ⟨by omega, by omega⟩).symm | exact (b2i_f (fun h => by first | omega | exact absurd h.2 c13)).symm
  · have c4 := cleF (b := 0) (by omega) (by omega) c4
    refine x_iload_n (pc := 7) cx (dA ddX3_isItsDay (i := 3) rfl) rfl ?_
    refine x_aload_n (pc := 8) cx (dA ddX3_isItsDay (i := 4) rfl) rfl ?_
    refine gX3_18 (pc := 9) (congrArg Value.int he) cx (dA ddX3_isItsDay (i := 5) rfl) h0 ?_
    refine x_irem (pc := 12) cx (nI_ne0 (by omega) (by omega)) (dA ddX3_isItsDay (i := 6) rfl) ?_
    rw [rem32 (by omega) (by omega) (by omega)]
    have lm := Nat.mod_lt w c4
    refine x_if_ne (pc := 13) (tgt := 20) cx (dA ddX3_isItsDay (i := 7) rfl) (by decide) (fun c13 => ?_) (fun c13 => ?_)
    · have c13 : w % e ≠ 0 := fun e => c13 (by rw [e]; rfl)
      refine x_iconst (pc := 20) (v := nI 0) cx (dA ddX3_isItsDay (i := 10) rfl) (by decide) ?_
      refine x_zreturn (pc := 21) cx (dA ddX3_isItsDay (i := 11) rfl) (by first | exact Nat.le_of_ble_eq_true rfl | omega) (by first | exact Nat.le_of_ble_eq_true rfl | omega) rfl ?_
      refine rI ?_
      first | exact (b2i_t ⟨by omega, by omega⟩).symm | exact (b2i_f (fun h => by first | omega | exact absurd h.2 c13)).symm
    · have c13 : w % e = 0 := nI_inj (by omega) (by omega) c13
      refine x_iconst (pc := 16) (v := nI 1) cx (dA ddX3_isItsDay (i := 8) rfl) (by decide) ?_
      refine x_goto (pc := 17) (tgt := 21) cx (dA ddX3_isItsDay (i := 9) rfl) (by decide) ?_
      refine x_zreturn (pc := 21) cx (dA ddX3_isItsDay (i := 11) rfl) (by first | exact Nat.le_of_ble_eq_true rfl | omega) (by first | exact Nat.le_of_ble_eq_true rfl | omega) rfl ?_
      refine rI ?_
      first | exact (b2i_t ⟨by omega, by omega⟩).symm | exact (b2i_f (fun h => by first | omega | exact absurd h.2 c13)).symm
theorem c_X3_fills {l : Launch} {Z : zP} {G : zG} {V : zV} {q : Nat} {κ b m : Nat} {f : Nat → Bool} (hR : RuleAt Z G V q κ b m f) {a s c : Nat} (ha : a < 10) (hs : s < 125) (hc : c < 2000) : CT l Z yX3_fills cX3_fills 4 (some .boolean) 2 0 0 [.ref q, .int (nI a), .int (nI s), .int (nI c)] G V (pI (b2i (fillsP κ b m f a s c = true)) G V) := by
  refine CT.of (by decide +kernel) (Nat.le_of_ble_eq_true rfl) (fun X hX cx => ?_)
  subst hX
  show Wm Z X 4 G V 0 0 _ 0 [(0, some (.ref q)), (1, some (.int (nI a))), (2, some (.int (nI s))), (3, some (.int (nI c)))] []
  have h0 := hR.1
  have hκ := hR.2.1
  have k1 := hR.2.2.1
  refine x_aload_n (pc := 0) cx (dA ddX3_fills (i := 0) rfl) rfl ?_
  refine gX3_9 (pc := 1) (congrArg Value.int hκ) cx (dA ddX3_fills (i := 1) rfl) h0 ?_
  by_cases c4_0 : nI κ = 1
  · refine x_tabIn (pc := 4) (v := 1) (tgt := 40) cx (dA ddX3_fills (i := 2) rfl) (by rw [c4_0]; decide) (by decide) (by decide) rfl (by decide) ?_
    have ek : κ = 1 := nI_inj (by omega) (by omega) c4_0
    subst ek
    obtain ⟨e1, e2⟩ := hR.2.2.2.1 rfl
    refine x_iload_n (pc := 40) cx (dA ddX3_fills (i := 3) rfl) rfl ?_
    refine x_aload_n (pc := 41) cx (dA ddX3_fills (i := 4) rfl) rfl ?_
    refine gX3_15 (pc := 42) (congrArg Value.int e1) cx (dA ddX3_fills (i := 5) rfl) h0 ?_
    refine x_icmp_lt (pc := 45) (tgt := 52) cx (dA ddX3_fills (i := 6) rfl) (by decide) (fun c45 => ?_) (fun c45 => ?_)
    · have c45 := cltT (by omega) (by omega) c45
      refine x_iconst (pc := 52) (v := nI 0) cx (dA ddX3_fills (i := 9) rfl) (by decide) ?_
      refine x_zreturn (pc := 53) cx (dA ddX3_fills (i := 10) rfl) (by first | exact Nat.le_of_ble_eq_true rfl | omega) (by first | exact Nat.le_of_ble_eq_true rfl | omega) rfl ?_
      refine rI ?_
      simp only [fillsP, decide_eq_true_eq]
      first | exact (b2i_t (by omega)).symm | exact (b2i_f (by omega)).symm
    · have c45 := cltF (by omega) (by omega) c45
      refine x_iconst (pc := 48) (v := nI 1) cx (dA ddX3_fills (i := 7) rfl) (by decide) ?_
      refine x_goto (pc := 49) (tgt := 53) cx (dA ddX3_fills (i := 8) rfl) (by decide) ?_
      refine x_zreturn (pc := 53) cx (dA ddX3_fills (i := 10) rfl) (by first | exact Nat.le_of_ble_eq_true rfl | omega) (by first | exact Nat.le_of_ble_eq_true rfl | omega) rfl ?_
      refine rI ?_
      simp only [fillsP, decide_eq_true_eq]
      first | exact (b2i_t (by omega)).symm | exact (b2i_f (by omega)).symm
  by_cases c4_1 : nI κ = 2
  · refine x_tabIn (pc := 4) (v := 2) (tgt := 54) cx (dA ddX3_fills (i := 2) rfl) (by rw [c4_1]; decide) (by decide) (by decide) rfl (by decide) ?_
    have ek : κ = 2 := nI_inj (by omega) (by omega) c4_1
    subst ek
    obtain ⟨e1, e2, e3⟩ := hR.2.2.2.2.1 rfl
    refine x_aload_n (pc := 54) cx (dA ddX3_fills (i := 11) rfl) rfl ?_
    refine x_iload_n (pc := 55) cx (dA ddX3_fills (i := 12) rfl) rfl ?_
    refine x_V1 (pc := 56) mX3_39 h0 (c_X3_isItsDay h0 e1 (by omega) ha) cx (dA ddX3_fills (i := 13) rfl) (kI ?_)
    refine x_zreturn (pc := 59) cx (dA ddX3_fills (i := 14) rfl) (by first | exact Nat.le_of_ble_eq_true rfl | omega) (by first | exact Nat.le_of_ble_eq_true rfl | omega) b2i_nar ?_
    refine rI ?_
    simp only [fillsP, decide_eq_true_eq]
    by_cases hd : a % b = 0
    · rw [b2i_t ⟨by omega, hd⟩, b2i_t hd]
    · rw [b2i_f (fun h => hd h.2), b2i_f hd]
  by_cases c4_2 : nI κ = 3
  · refine x_tabIn (pc := 4) (v := 3) (tgt := 60) cx (dA ddX3_fills (i := 2) rfl) (by rw [c4_2]; decide) (by decide) (by decide) rfl (by decide) ?_
    have ek : κ = 3 := nI_inj (by omega) (by omega) c4_2
    subst ek
    obtain ⟨e1, e4, e5, e2, e3⟩ := hR.2.2.2.2.2.1 rfl
    refine x_iload_n (pc := 60) cx (dA ddX3_fills (i := 15) rfl) rfl ?_
    refine x_aload_n (pc := 61) cx (dA ddX3_fills (i := 16) rfl) rfl ?_
    refine gX3_15 (pc := 62) (congrArg Value.int e1) cx (dA ddX3_fills (i := 17) rfl) h0 ?_
    refine x_icmp_ge (pc := 65) (tgt := 76) cx (dA ddX3_fills (i := 18) rfl) (by decide) (fun c65 => ?_) (fun c65 => ?_)
    · have c65 := cleT (by omega) (by omega) c65
      refine x_iconst (pc := 76) (v := nI 1) cx (dA ddX3_fills (i := 23) rfl) (by decide) ?_
      refine x_goto (pc := 77) (tgt := 81) cx (dA ddX3_fills (i := 24) rfl) (by decide) ?_
      refine x_zreturn (pc := 81) cx (dA ddX3_fills (i := 26) rfl) (by first | exact Nat.le_of_ble_eq_true rfl | omega) (by first | exact Nat.le_of_ble_eq_true rfl | omega) rfl ?_
      refine rI ?_
      simp only [fillsP, Bool.or_eq_true, decide_eq_true_eq]
      first | exact (b2i_t (Or.inl (by omega))).symm | exact (b2i_t (Or.inr c73.2)).symm | exact (b2i_f (fun h => h.elim (fun h => by omega) (fun h => c73 ⟨by omega, h⟩))).symm
    · have c65 := cleF (by omega) (by omega) c65
      refine x_aload_n (pc := 68) cx (dA ddX3_fills (i := 19) rfl) rfl ?_
      refine x_iload_n (pc := 69) cx (dA ddX3_fills (i := 20) rfl) rfl ?_
      refine x_V1 (pc := 70) mX3_39 h0 (c_X3_isItsDay h0 e4 (by omega) ha) cx (dA ddX3_fills (i := 21) rfl) (kI ?_)
      refine x_if_eq (pc := 73) (tgt := 80) cx (dA ddX3_fills (i := 22) rfl) (by decide) (fun c73 => ?_) (fun c73 => ?_)
      · have c73 := b2i_eq c73
        refine x_iconst (pc := 80) (v := nI 0) cx (dA ddX3_fills (i := 25) rfl) (by decide) ?_
        refine x_zreturn (pc := 81) cx (dA ddX3_fills (i := 26) rfl) (by first | exact Nat.le_of_ble_eq_true rfl | omega) (by first | exact Nat.le_of_ble_eq_true rfl | omega) rfl ?_
        refine rI ?_
        simp only [fillsP, Bool.or_eq_true, decide_eq_true_eq]
        first | exact (b2i_t (Or.inl (by omega))).symm | exact (b2i_t (Or.inr c73.2)).symm | exact (b2i_f (fun h => h.elim (fun h => by omega) (fun h => c73 ⟨by omega, h⟩))).symm
      · have c73 := b2i_ne c73
        refine x_iconst (pc := 76) (v := nI 1) cx (dA ddX3_fills (i := 23) rfl) (by decide) ?_
        refine x_goto (pc := 77) (tgt := 81) cx (dA ddX3_fills (i := 24) rfl) (by decide) ?_
        refine x_zreturn (pc := 81) cx (dA ddX3_fills (i := 26) rfl) (by first | exact Nat.le_of_ble_eq_true rfl | omega) (by first | exact Nat.le_of_ble_eq_true rfl | omega) rfl ?_
        refine rI ?_
        simp only [fillsP, Bool.or_eq_true, decide_eq_true_eq]
        first | exact (b2i_t (Or.inl (by omega))).symm | exact (b2i_t (Or.inr c73.2)).symm | exact (b2i_f (fun h => h.elim (fun h => by omega) (fun h => c73 ⟨by omega, h⟩))).symm
  by_cases c4_3 : nI κ = 4
  · refine x_tabIn (pc := 4) (v := 4) (tgt := 108) cx (dA ddX3_fills (i := 2) rfl) (by rw [c4_3]; decide) (by decide) (by decide) rfl (by decide) ?_
    have ek : κ = 4 := by
      first
      | exact nI_inj (by omega) (by omega) c4_3
      | (rcases (show κ = 1 ∨ κ = 2 ∨ κ = 3 ∨ κ = 4 ∨ κ = 5 by omega) with h | h | h | h | h; exact absurd (by rw [h]; rfl) c4_0; exact absurd (by rw [h]; rfl) c4_1; exact absurd (by rw [h]; rfl) c4_2; exact h; exact absurd (by rw [h]; rfl) c4_4)
    subst ek
    refine x_iconst (pc := 108) (v := nI 0) cx (dA ddX3_fills (i := 41) rfl) (by decide) ?_
    refine x_zreturn (pc := 109) cx (dA ddX3_fills (i := 42) rfl) (by first | exact Nat.le_of_ble_eq_true rfl | omega) (by first | exact Nat.le_of_ble_eq_true rfl | omega) rfl ?_
    refine rI ?_
    exact (b2i_f (by simp [fillsP])).symm
  by_cases c4_4 : nI κ = 5
  · refine x_tabIn (pc := 4) (v := 5) (tgt := 82) cx (dA ddX3_fills (i := 2) rfl) (by rw [c4_4]; decide) (by decide) (by decide) rfl (by decide) ?_
    have ek : κ = 5 := nI_inj (by omega) (by omega) c4_4
    subst ek
    obtain ⟨t, ht, hT, hf⟩ := hR.2.2.2.2.2.2 rfl
    refine x_aload_n (pc := 82) cx (dA ddX3_fills (i := 27) rfl) rfl ?_
    refine gX3_27 (pc := 83) (rfA ht) cx (dA ddX3_fills (i := 28) rfl) h0 ?_
    refine x_ifnull_s (pc := 86) cx (dA ddX3_fills (i := 29) rfl) ?_
    refine x_aload_n (pc := 89) cx (dA ddX3_fills (i := 30) rfl) rfl ?_
    refine gX3_27 (pc := 90) (rfA ht) cx (dA ddX3_fills (i := 31) rfl) h0 ?_
    refine x_iload_n (pc := 93) cx (dA ddX3_fills (i := 32) rfl) rfl ?_
    refine x_V1 (pc := 94) mX3_42 hT.1 (c_X2_valueAt hT) cx (dA ddX3_fills (i := 33) rfl) (kJ ?_)
    refine x_lconst (pc := 97) (v := lN 0) cx (dA ddX3_fills (i := 34) rfl) rfl ?_
    refine x_lc_eq (pc := 98) (tgt := 106) cx (dA ddX3_fills (i := 35) rfl) (dA ddX3_fills (i := 36) rfl) (by decide) (fun c98 => ?_) (fun c98 => ?_)
    · have c98 := c98
      refine x_iconst (pc := 106) (v := nI 0) cx (dA ddX3_fills (i := 39) rfl) (by decide) ?_
      refine x_zreturn (pc := 107) cx (dA ddX3_fills (i := 40) rfl) (by first | exact Nat.le_of_ble_eq_true rfl | omega) (by first | exact Nat.le_of_ble_eq_true rfl | omega) rfl ?_
      refine rI ?_
      simp only [fillsP, Bool.and_eq_true, decide_eq_true_eq]
      have hm := hT.2.2.2
      by_cases hsm : s < m
      · rw [atL_in hsm (by omega)] at c98
        cases hfs : f s
        · first | exact (b2i_f (fun h => by cases h.2)).symm | exact absurd ((hf s hsm).mpr hfs) c98
        · first | exact (b2i_t ⟨hsm, rfl⟩).symm | exact absurd ((hf s hsm).mp c98) (by rw [hfs]; decide)
      · rw [atL_out (Or.inr (nI_le (by omega) (by omega)))] at c98
        first | exact (b2i_f (fun h => hsm h.1)).symm | exact absurd rfl c98
    · have c98 := c98
      refine x_iconst (pc := 102) (v := nI 1) cx (dA ddX3_fills (i := 37) rfl) (by decide) ?_
      refine x_goto (pc := 103) (tgt := 107) cx (dA ddX3_fills (i := 38) rfl) (by decide) ?_
      refine x_zreturn (pc := 107) cx (dA ddX3_fills (i := 40) rfl) (by first | exact Nat.le_of_ble_eq_true rfl | omega) (by first | exact Nat.le_of_ble_eq_true rfl | omega) rfl ?_
      refine rI ?_
      simp only [fillsP, Bool.and_eq_true, decide_eq_true_eq]
      have hm := hT.2.2.2
      by_cases hsm : s < m
      · rw [atL_in hsm (by omega)] at c98
        cases hfs : f s
        · first | exact (b2i_f (fun h => by cases h.2)).symm | exact absurd ((hf s hsm).mpr hfs) c98
        · first | exact (b2i_t ⟨hsm, rfl⟩).symm | exact absurd ((hf s hsm).mp c98) (by rw [hfs]; decide)
      · rw [atL_out (Or.inr (nI_le (by omega) (by omega)))] at c98
        first | exact (b2i_f (fun h => hsm h.1)).symm | exact absurd rfl c98
  refine x_tabOut (pc := 4) (tgt := 108) cx (dA ddX3_fills (i := 2) rfl) (by have t0 := lv_neT (a := 1) c4_0 (by decide); have t1 := lv_neT (a := 2) c4_1 (by decide); have t2 := lv_neT (a := 3) c4_2 (by decide); have t3 := lv_neT (a := 4) c4_3 (by decide); have t4 := lv_neT (a := 5) c4_4 (by decide); omega) (by decide) ?_
  have ek : κ = 4 := by
    first
    | exact nI_inj (by omega) (by omega) c4_3
    | (rcases (show κ = 1 ∨ κ = 2 ∨ κ = 3 ∨ κ = 4 ∨ κ = 5 by omega) with h | h | h | h | h; exact absurd (by rw [h]; rfl) c4_0; exact absurd (by rw [h]; rfl) c4_1; exact absurd (by rw [h]; rfl) c4_2; exact h; exact absurd (by rw [h]; rfl) c4_4)
  subst ek
  refine x_iconst (pc := 108) (v := nI 0) cx (dA ddX3_fills (i := 41) rfl) (by decide) ?_
  refine x_zreturn (pc := 109) cx (dA ddX3_fills (i := 42) rfl) (by first | exact Nat.le_of_ble_eq_true rfl | omega) (by first | exact Nat.le_of_ble_eq_true rfl | omega) rfl ?_
  refine rI ?_
  exact (b2i_f (by simp [fillsP])).symm
