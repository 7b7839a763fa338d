def pRx (o : Option Nat) (G1 : zG) (R : zV → Prop) (r : Option Value) (G' : zG) (V' : zV) : Prop := r = some (va_rf o) ∧ G' = G1 ∧ R V'
theorem kRx {Z : zP} {X : xP} {nL : Nat} {k n : Nat} {Q : State → Prop} {pc : Nat} {lw : List (Nat × Option Value)} {G1 : zG} {R : zV → Prop} {rest : List Value} {o : Option Nat} (h : ∀ V', R V' → Wm Z X nL G1 V' k n Q pc lw (va_rf o :: rest)) : ∀ (r : Option Value) (G' : zG) (V' : zV), pRx o G1 R r G' V' → Wm Z X nL G' V' k n Q pc lw (r.toList ++ rest) := by
  rintro r G' V' ⟨rfl, rfl, h2⟩
  exact h V' h2
theorem rf_sub {r : Int32} {i : Nat} (hi : i < 5) (hr : r.toInt = -2 - (i : Int)) : (-2 : Int32) - r = nI i := by
  have e : r = (-2 : Int32) - nI i := by
    rcases (show i = 0 ∨ i = 1 ∨ i = 2 ∨ i = 3 ∨ i = 4 by omega) with h | h | h | h | h <;> subst h <;> exact Int32.toInt_inj.mp (by rw [hr]; decide)
  rw [e]
  rcases (show i = 0 ∨ i = 1 ∨ i = 2 ∨ i = 3 ∨ i = 4 by omega) with h | h | h | h | h <;> subst h <;> decide
/-- what stands at a place of a shelf of references -/
def slA (G : zG) (a : Nat) (s : Int32) : Option Nat := if 0 ≤ s.toInt ∧ s.toInt < 8 then G.2.2.2 a s.toInt.toNat else none
theorem slA_n {G : zG} {a i : Nat} (h : i < 8) : slA G a (nI i) = G.2.2.2 a i := by
  unfold slA
  rw [nI_toInt (by omega), if_pos (by omega)]
  rfl
/-- shelves in use -/
def usA (G : zG) (x : Nat) : Nat → Nat
  | 0 => 0
  | s + 1 => if G.2.2.2 (x + 37) s = none ∧ G.2.2.2 (x + 38) s = none then usA G x s else usA G x s + 1
/-- days pass -/
def pdA (D : Int32 → Int32) (vl : Int32 → Nat) (N : Nat → Nat) (L : Nat → Nat → Nat) (τ : WK) (d : Int32) : Nat → Nat × WK × Int32
  | 0 => (0, τ, d)
  | i + 1 => if (pdA D vl N L τ d i).2.1.1 = 0 then pdA D vl N L τ d i else ((pdA D vl N L τ d i).1 + (dayP D vl N L (pdA D vl N L τ d i).2.2 (pdA D vl N L τ d i).2.1).1, (dayP D vl N L (pdA D vl N L τ d i).2.2 (pdA D vl N L τ d i).2.1).2)
theorem dayP_st {D : Int32 → Int32} {vl : Int32 → Nat} {N : Nat → Nat} {L : Nat → Nat → Nat} {d : Int32} {τ : WK} (h4 : N 4 ≤ 3) (hs : τ.2.1 < 5 ^ N 4) : (dayP D vl N L d τ).2.1.1 = τ.1 - 1 ∧ (dayP D vl N L d τ).2.1.2.1 < 5 ^ N 4 := by
  have ms := sendP_st (N := N) (q := if vl (D d) < N 3 then 0 else L τ.1 τ.2.1) hs
  have rs := rcA_st (D := D) (vl := vl) (x := ((dayM D vl N L d τ).1 + sumP N (dayM D vl N L d τ).2.2.1 2, (dayM D vl N L d τ).2, D d)) h4 ms.1 (N 4) (Nat.le_refl _)
  exact ⟨congrArg (fun z => z - 1) (rs.2.trans ms.2), rs.1⟩
theorem pdA_st {D : Int32 → Int32} {vl : Int32 → Nat} {N : Nat → Nat} {L : Nat → Nat → Nat} {d : Int32} {τ : WK} (h4 : N 4 ≤ 3) (hs : τ.2.1 < 5 ^ N 4) : ∀ i, (pdA D vl N L τ d i).2.1.1 ≤ τ.1 ∧ (pdA D vl N L τ d i).2.1.2.1 < 5 ^ N 4
  | 0 => ⟨Nat.le_refl _, hs⟩
  | i + 1 => by
    have ih := pdA_st (D := D) (vl := vl) (L := L) (d := d) h4 hs i
    unfold pdA
    split
    · exact ih
    · have h := dayP_st (D := D) (vl := vl) (L := L) (d := (pdA D vl N L τ d i).2.2) h4 ih.2
      exact ⟨by show (dayP D vl N L _ _).2.1.1 ≤ _; omega, h.2⟩
theorem pdA_stay {D : Int32 → Int32} {vl : Int32 → Nat} {N : Nat → Nat} {L : Nat → Nat → Nat} {d : Int32} {τ : WK} {i : Nat} (h : (pdA D vl N L τ d i).2.1.1 = 0) : ∀ {n : Nat}, i ≤ n → pdA D vl N L τ d n = pdA D vl N L τ d i
  | 0, q => by rw [show i = 0 by omega]
  | n + 1, q => by
    by_cases e : i = n + 1
    · rw [e]
    · have ih := pdA_stay h (n := n) (by omega)
      show (if (pdA D vl N L τ d n).2.1.1 = 0 then _ else _) = _
      rw [ih, if_pos h]
theorem dsV_id {V : zV} {w wd : Nat} {τ : WK} {d : Int32} (hV : WeekV V w τ) (hd : V.1 302 wd = d) : dsV V w wd τ d = V := by
  unfold dsV
  rw [sI_id hd, wkV_id hV]
theorem c_X7_refuse {l : Launch} {Z : zP} {G : zG} {V : zV} {x : Nat} (hX : STBAt Z G x) {r : Int32} {i : Nat} (hi : i < 5) (hr : r.toInt = -2 - (i : Int)) : CT l Z yX7_refuse cX7_refuse 3 (some .int) 0 0 0 [.ref x, .int r] G V (pI r G (sAI V (x + 39) i (V.2.2.1 (x + 39) i + nI 1))) := by
  refine CT.of (by decide +kernel) (Nat.le_of_ble_eq_true rfl) (fun X hX cx => ?_)
  subst hX
  show Wm Z X 3 G V 0 0 _ 0 [(0, some (.ref x)), (1, some (.int r))] []
  have h0 := hX.1
  have aRw := hX.2.2.2.2.1.2
  have aRu := hX.2.2.2.2.2.1.2
  have aRf := hX.2.2.2.2.2.2.1.2
  have aPl := hX.2.2.2.2.2.2.2.1.2
  refine x_bipush (pc := 0) (v := -2) cx (dA ddX7_refuse (i := 0) rfl) (by decide) ?_
  refine x_iload_n (pc := 2) cx (dA ddX7_refuse (i := 1) rfl) rfl ?_
  refine x_isub (pc := 3) cx (dA ddX7_refuse (i := 2) rfl) ?_
  rw [rf_sub hi hr]
  refine x_istore_n (pc := 4) cx (dA ddX7_refuse (i := 3) rfl) (by decide) rfl ?_
  refine x_iload_n (pc := 5) cx (dA ddX7_refuse (i := 4) rfl) rfl ?_
  refine x_if_lt (pc := 6) (tgt := 28) cx (dA ddX7_refuse (i := 5) rfl) (by decide) (fun c6 => absurd c6 (nI_pos (by omega))) (fun c6 => ?_)
  refine x_iload_n (pc := 9) cx (dA ddX7_refuse (i := 6) rfl) rfl ?_
  refine x_aload_n (pc := 10) cx (dA ddX7_refuse (i := 7) rfl) rfl ?_
  refine gX7_38 (pc := 11) (rfA hX.2.2.2.2.2.2.1.1) cx (dA ddX7_refuse (i := 8) rfl) h0 ?_
  refine x_alen (pc := 14) cx (dA ddX7_refuse (i := 9) rfl) aRf (by decide) ?_
  refine x_icmp_ge (pc := 15) (tgt := 28) cx (dA ddX7_refuse (i := 10) rfl) (by decide) (fun c15 => absurd c15 (nI_ge (by omega) (by omega))) (fun c15 => ?_)
  refine x_aload_n (pc := 18) cx (dA ddX7_refuse (i := 11) rfl) rfl ?_
  refine gX7_38 (pc := 19) (rfA hX.2.2.2.2.2.2.1.1) cx (dA ddX7_refuse (i := 12) rfl) h0 ?_
  refine x_iload_n (pc := 22) cx (dA ddX7_refuse (i := 13) rfl) rfl ?_
  refine x_dup2 (pc := 23) cx rfl rfl (dA ddX7_refuse (i := 14) rfl) ?_
  refine x_iaload (pc := 24) cx (dA ddX7_refuse (i := 15) rfl) aRf (by omega) (by decide) ?_
  refine x_iconst (pc := 25) (v := nI 1) cx (dA ddX7_refuse (i := 16) rfl) (by decide) ?_
  refine x_iadd (pc := 26) cx (dA ddX7_refuse (i := 17) rfl) ?_
  refine x_iastore (pc := 27) cx (dA ddX7_refuse (i := 18) rfl) aRf (by omega) (by decide) ?_
  refine x_iload_n (pc := 28) cx (dA ddX7_refuse (i := 19) rfl) rfl ?_
  refine x_ireturn (pc := 29) cx (dA ddX7_refuse (i := 20) rfl) (by first | exact Nat.le_of_ble_eq_true rfl | omega) (by first | exact Nat.le_of_ble_eq_true rfl | omega) ?_
  exact ⟨rfl, rfl, rfl⟩
theorem c_X7_rowAt {l : Launch} {Z : zP} {G : zG} {V : zV} {x : Nat} (hX : STBAt Z G x) {s : Int32} : CT l Z yX7_rowAt cX7_rowAt 2 (some (.object "SendTheBox$Row")) 0 0 0 [.ref x, .int s] G V (pR (slA G (x + 37) s) G V) := by
  refine CT.of (by decide +kernel) (Nat.le_of_ble_eq_true rfl) (fun X hX cx => ?_)
  subst hX
  show Wm Z X 2 G V 0 0 _ 0 [(0, some (.ref x)), (1, some (.int s))] []
  have h0 := hX.1
  have aRw := hX.2.2.2.2.1.2
  have aRu := hX.2.2.2.2.2.1.2
  have aRf := hX.2.2.2.2.2.2.1.2
  have aPl := hX.2.2.2.2.2.2.2.1.2
  refine x_iload_n (pc := 0) cx (dA ddX7_rowAt (i := 0) rfl) rfl ?_
  refine x_if_lt (pc := 1) (tgt := 22) cx (dA ddX7_rowAt (i := 1) rfl) (by decide) (fun c1 => ?_) (fun c1 => ?_)
  · have e9 : slA G (x + 37) s = none := if_neg (by rw [i32_lt, toI_0] at c1; omega)
    refine x_null (pc := 22) cx (dA ddX7_rowAt (i := 12) rfl) ?_
    refine x_areturn (pc := 23) (o := none) cx (dA ddX7_rowAt (i := 13) rfl) (by first | exact Nat.le_of_ble_eq_true rfl | omega) (by first | exact Nat.le_of_ble_eq_true rfl | omega) ?_
    rw [e9]
    exact ⟨rfl, rfl, rfl⟩
  · obtain ⟨i, hi, rfl⟩ := i32_nat c1
    refine x_iload_n (pc := 4) cx (dA ddX7_rowAt (i := 2) rfl) rfl ?_
    refine x_aload_n (pc := 5) cx (dA ddX7_rowAt (i := 3) rfl) rfl ?_
    refine gX7_28 (pc := 6) (rfA hX.2.2.2.2.1.1) cx (dA ddX7_rowAt (i := 4) rfl) h0 ?_
    refine x_alen (pc := 9) cx (dA ddX7_rowAt (i := 5) rfl) aRw (by decide) ?_
    refine x_icmp_ge (pc := 10) (tgt := 22) cx (dA ddX7_rowAt (i := 6) rfl) (by decide) (fun c10 => ?_) (fun c10 => ?_)
    · have c10 := cleT (by omega) (by omega) c10
      have e9 : slA G (x + 37) (nI i) = none := if_neg (by rw [nI_toInt hi]; omega)
      refine x_null (pc := 22) cx (dA ddX7_rowAt (i := 12) rfl) ?_
      refine x_areturn (pc := 23) (o := none) cx (dA ddX7_rowAt (i := 13) rfl) (by first | exact Nat.le_of_ble_eq_true rfl | omega) (by first | exact Nat.le_of_ble_eq_true rfl | omega) ?_
      rw [e9]
      exact ⟨rfl, rfl, rfl⟩
    · have c10 := cleF (by omega) (by omega) c10
      refine x_aload_n (pc := 13) cx (dA ddX7_rowAt (i := 7) rfl) rfl ?_
      refine gX7_28 (pc := 14) (rfA hX.2.2.2.2.1.1) cx (dA ddX7_rowAt (i := 8) rfl) h0 ?_
      refine x_iload_n (pc := 17) cx (dA ddX7_rowAt (i := 9) rfl) rfl ?_
      refine x_aaload (pc := 18) cx (dA ddX7_rowAt (i := 10) rfl) aRw (by decide) (by decide) (by omega) (by decide) ?_
      rw [← slA_n (by omega)]
      refine x_goto (pc := 19) (tgt := 23) cx (dA ddX7_rowAt (i := 11) rfl) (by decide) ?_
      refine x_areturn (pc := 23) cx (dA ddX7_rowAt (i := 13) rfl) (by first | exact Nat.le_of_ble_eq_true rfl | omega) (by first | exact Nat.le_of_ble_eq_true rfl | omega) ?_
      exact ⟨rfl, rfl, rfl⟩
theorem c_X7_ruleAt {l : Launch} {Z : zP} {G : zG} {V : zV} {x : Nat} (hX : STBAt Z G x) {s : Int32} : CT l Z yX7_ruleAt cX7_ruleAt 2 (some (.object "SendTheBox$Rule")) 0 0 0 [.ref x, .int s] G V (pR (slA G (x + 38) s) G V) := by
  refine CT.of (by decide +kernel) (Nat.le_of_ble_eq_true rfl) (fun X hX cx => ?_)
  subst hX
  show Wm Z X 2 G V 0 0 _ 0 [(0, some (.ref x)), (1, some (.int s))] []
  have h0 := hX.1
  have aRw := hX.2.2.2.2.1.2
  have aRu := hX.2.2.2.2.2.1.2
  have aRf := hX.2.2.2.2.2.2.1.2
  have aPl := hX.2.2.2.2.2.2.2.1.2
  refine x_iload_n (pc := 0) cx (dA ddX7_ruleAt (i := 0) rfl) rfl ?_
  refine x_if_lt (pc := 1) (tgt := 22) cx (dA ddX7_ruleAt (i := 1) rfl) (by decide) (fun c1 => ?_) (fun c1 => ?_)
  · have e9 : slA G (x + 38) s = none := if_neg (by rw [i32_lt, toI_0] at c1; omega)
    refine x_null (pc := 22) cx (dA ddX7_ruleAt (i := 12) rfl) ?_
    refine x_areturn (pc := 23) (o := none) cx (dA ddX7_ruleAt (i := 13) rfl) (by first | exact Nat.le_of_ble_eq_true rfl | omega) (by first | exact Nat.le_of_ble_eq_true rfl | omega) ?_
    rw [e9]
    exact ⟨rfl, rfl, rfl⟩
  · obtain ⟨i, hi, rfl⟩ := i32_nat c1
    refine x_iload_n (pc := 4) cx (dA ddX7_ruleAt (i := 2) rfl) rfl ?_
    refine x_aload_n (pc := 5) cx (dA ddX7_ruleAt (i := 3) rfl) rfl ?_
    refine gX7_34 (pc := 6) (rfA hX.2.2.2.2.2.1.1) cx (dA ddX7_ruleAt (i := 4) rfl) h0 ?_
    refine x_alen (pc := 9) cx (dA ddX7_ruleAt (i := 5) rfl) aRu (by decide) ?_
    refine x_icmp_ge (pc := 10) (tgt := 22) cx (dA ddX7_ruleAt (i := 6) rfl) (by decide) (fun c10 => ?_) (fun c10 => ?_)
    · have c10 := cleT (by omega) (by omega) c10
      have e9 : slA G (x + 38) (nI i) = none := if_neg (by rw [nI_toInt hi]; omega)
      refine x_null (pc := 22) cx (dA ddX7_ruleAt (i := 12) rfl) ?_
      refine x_areturn (pc := 23) (o := none) cx (dA ddX7_ruleAt (i := 13) rfl) (by first | exact Nat.le_of_ble_eq_true rfl | omega) (by first | exact Nat.le_of_ble_eq_true rfl | omega) ?_
      rw [e9]
      exact ⟨rfl, rfl, rfl⟩
    · have c10 := cleF (by omega) (by omega) c10
      refine x_aload_n (pc := 13) cx (dA ddX7_ruleAt (i := 7) rfl) rfl ?_
      refine gX7_34 (pc := 14) (rfA hX.2.2.2.2.2.1.1) cx (dA ddX7_ruleAt (i := 8) rfl) h0 ?_
      refine x_iload_n (pc := 17) cx (dA ddX7_ruleAt (i := 9) rfl) rfl ?_
      refine x_aaload (pc := 18) cx (dA ddX7_ruleAt (i := 10) rfl) aRu (by decide) (by decide) (by omega) (by decide) ?_
      rw [← slA_n (by omega)]
      refine x_goto (pc := 19) (tgt := 23) cx (dA ddX7_ruleAt (i := 11) rfl) (by decide) ?_
      refine x_areturn (pc := 23) cx (dA ddX7_ruleAt (i := 13) rfl) (by first | exact Nat.le_of_ble_eq_true rfl | omega) (by first | exact Nat.le_of_ble_eq_true rfl | omega) ?_
      exact ⟨rfl, rfl, rfl⟩
theorem c_X7_lackOnShelf {l : Launch} {Z : zP} {G : zG} {V : zV} {x : Nat} (hX : STBAt Z G x) {s : Int32} : CT l Z yX7_lackOnShelf cX7_lackOnShelf 2 (some .int) 1 0 0 [.ref x, .int s] G V (pI (if slA G (x + 37) s = none ∧ slA G (x + 38) s = none then -4 else -3) G V) := by
  refine CT.of (by decide +kernel) (Nat.le_of_ble_eq_true rfl) (fun X hX cx => ?_)
  subst hX
  show Wm Z X 2 G V 0 0 _ 0 [(0, some (.ref x)), (1, some (.int s))] []
  have h0 := hX.1
  have aRw := hX.2.2.2.2.1.2
  have aRu := hX.2.2.2.2.2.1.2
  have aRf := hX.2.2.2.2.2.2.1.2
  have aPl := hX.2.2.2.2.2.2.2.1.2
  refine x_aload_n (pc := 0) cx (dA ddX7_lackOnShelf (i := 0) rfl) rfl ?_
  refine x_iload_n (pc := 1) cx (dA ddX7_lackOnShelf (i := 1) rfl) rfl ?_
  refine x_V1 (pc := 2) mX7_85 h0 (c_X7_rowAt hX) cx (dA ddX7_lackOnShelf (i := 2) rfl) (kR ?_)
  refine x_ifnonnull (pc := 5) (tgt := 21) cx (dA ddX7_lackOnShelf (i := 3) rfl) (by decide) (fun b5 c5 => ?_) (fun c5 => ?_)
  · refine x_bipush (pc := 21) (v := -3) cx (dA ddX7_lackOnShelf (i := 10) rfl) (by decide) ?_
    refine x_ireturn (pc := 23) cx (dA ddX7_lackOnShelf (i := 11) rfl) (by first | exact Nat.le_of_ble_eq_true rfl | omega) (by first | exact Nat.le_of_ble_eq_true rfl | omega) ?_
    refine rI ?_
    first | exact (if_pos ⟨by assumption, by assumption⟩).symm | (rw [if_neg]; intro q; simp_all)
  · refine x_aload_n (pc := 8) cx (dA ddX7_lackOnShelf (i := 4) rfl) rfl ?_
    refine x_iload_n (pc := 9) cx (dA ddX7_lackOnShelf (i := 5) rfl) rfl ?_
    refine x_V1 (pc := 10) mX7_99 h0 (c_X7_ruleAt hX) cx (dA ddX7_lackOnShelf (i := 6) rfl) (kR ?_)
    refine x_ifnonnull (pc := 13) (tgt := 21) cx (dA ddX7_lackOnShelf (i := 7) rfl) (by decide) (fun b13 c13 => ?_) (fun c13 => ?_)
    · refine x_bipush (pc := 21) (v := -3) cx (dA ddX7_lackOnShelf (i := 10) rfl) (by decide) ?_
      refine x_ireturn (pc := 23) cx (dA ddX7_lackOnShelf (i := 11) rfl) (by first | exact Nat.le_of_ble_eq_true rfl | omega) (by first | exact Nat.le_of_ble_eq_true rfl | omega) ?_
      refine rI ?_
      first | exact (if_pos ⟨by assumption, by assumption⟩).symm | (rw [if_neg]; intro q; simp_all)
    · refine x_bipush (pc := 16) (v := -4) cx (dA ddX7_lackOnShelf (i := 8) rfl) (by decide) ?_
      refine x_goto (pc := 18) (tgt := 23) cx (dA ddX7_lackOnShelf (i := 9) rfl) (by decide) ?_
      refine x_ireturn (pc := 23) cx (dA ddX7_lackOnShelf (i := 11) rfl) (by first | exact Nat.le_of_ble_eq_true rfl | omega) (by first | exact Nat.le_of_ble_eq_true rfl | omega) ?_
      refine rI ?_
      first | exact (if_pos ⟨by assumption, by assumption⟩).symm | (rw [if_neg]; intro q; simp_all)
theorem c_X7_putOnShelf_r {l : Launch} {Z : zP} {G : zG} {V : zV} {x : Nat} (hX : STBAt Z G x) {s r : Nat} (hs : s < 8) (hr : isK Z G r 2) : CT l Z yX7_putOnShelf cX7_putOnShelf 4 none 0 0 0 [.ref x, .int (nI s), .ref r, .null] G V (pV (sAR (sAR G (x + 37) s (some r)) (x + 38) s none) V) := by
  refine CT.of (by decide +kernel) (Nat.le_of_ble_eq_true rfl) (fun X hX cx => ?_)
  subst hX
  show Wm Z X 4 G V 0 0 _ 0 [(0, some (.ref x)), (1, some (.int (nI s))), (2, some (.ref r)), (3, some (.null))] []
  have h0 := hX.1
  have aRw := hX.2.2.2.2.1.2
  have aRu := hX.2.2.2.2.2.1.2
  have aRf := hX.2.2.2.2.2.2.1.2
  have aPl := hX.2.2.2.2.2.2.2.1.2
  refine x_iload_n (pc := 0) cx (dA ddX7_putOnShelf (i := 0) rfl) rfl ?_
  refine x_if_lt (pc := 1) (tgt := 36) cx (dA ddX7_putOnShelf (i := 1) rfl) (by decide) (fun c1 => absurd c1 (nI_pos (by omega))) (fun c1 => ?_)
  refine x_iload_n (pc := 4) cx (dA ddX7_putOnShelf (i := 2) rfl) rfl ?_
  refine x_aload_n (pc := 5) cx (dA ddX7_putOnShelf (i := 3) rfl) rfl ?_
  refine gX7_28 (pc := 6) (rfA hX.2.2.2.2.1.1) cx (dA ddX7_putOnShelf (i := 4) rfl) h0 ?_
  refine x_alen (pc := 9) cx (dA ddX7_putOnShelf (i := 5) rfl) aRw (by decide) ?_
  refine x_icmp_ge (pc := 10) (tgt := 36) cx (dA ddX7_putOnShelf (i := 6) rfl) (by decide) (fun c10 => absurd c10 (nI_ge (by omega) (by omega))) (fun c10 => ?_)
  refine x_iload_n (pc := 13) cx (dA ddX7_putOnShelf (i := 7) rfl) rfl ?_
  refine x_aload_n (pc := 14) cx (dA ddX7_putOnShelf (i := 8) rfl) rfl ?_
  refine gX7_34 (pc := 15) (rfA hX.2.2.2.2.2.1.1) cx (dA ddX7_putOnShelf (i := 9) rfl) h0 ?_
  refine x_alen (pc := 18) cx (dA ddX7_putOnShelf (i := 10) rfl) aRu (by decide) ?_
  refine x_icmp_ge (pc := 19) (tgt := 36) cx (dA ddX7_putOnShelf (i := 11) rfl) (by decide) (fun c19 => absurd c19 (nI_ge (by omega) (by omega))) (fun c19 => ?_)
  refine x_aload_n (pc := 22) cx (dA ddX7_putOnShelf (i := 12) rfl) rfl ?_
  refine gX7_28 (pc := 23) (rfA hX.2.2.2.2.1.1) cx (dA ddX7_putOnShelf (i := 13) rfl) h0 ?_
  refine x_iload_n (pc := 26) cx (dA ddX7_putOnShelf (i := 14) rfl) rfl ?_
  refine x_aload_n (pc := 27) cx (dA ddX7_putOnShelf (i := 15) rfl) rfl ?_
  refine x_aastore (pc := 28) cx (c := 2) (t := 5) rfl rfl (by decide) (dA ddX7_putOnShelf (i := 16) rfl) aRw (by decide) (by decide) hs (by decide) hr ?_
  refine x_aload_n (pc := 29) cx (dA ddX7_putOnShelf (i := 17) rfl) rfl ?_
  refine gX7_34 (pc := 30) (rfA hX.2.2.2.2.2.1.1) cx (dA ddX7_putOnShelf (i := 18) rfl) h0 ?_
  refine x_iload_n (pc := 33) cx (dA ddX7_putOnShelf (i := 19) rfl) rfl ?_
  refine x_aload_nN (pc := 34) cx (dA ddX7_putOnShelf (i := 20) rfl) rfl ?_
  refine x_aastoreN (pc := 35) cx (t := 6) rfl (dA ddX7_putOnShelf (i := 21) rfl) (show isA Z (sAR G (x + 37) s (some r)) (x + 38) 6 8 from aRu) (by decide) (by decide) hs (by decide) ?_
  refine x_return (pc := 36) cx (dA ddX7_putOnShelf (i := 22) rfl) (by first | exact Nat.le_of_ble_eq_true rfl | omega) (by first | exact Nat.le_of_ble_eq_true rfl | omega) ?_
  exact ⟨rfl, rfl, rfl⟩
theorem c_X7_putOnShelf_q {l : Launch} {Z : zP} {G : zG} {V : zV} {x : Nat} (hX : STBAt Z G x) {s q : Nat} (hs : s < 8) (hq : isK Z G q 3) : CT l Z yX7_putOnShelf cX7_putOnShelf 4 none 0 0 0 [.ref x, .int (nI s), .null, .ref q] G V (pV (sAR (sAR G (x + 37) s none) (x + 38) s (some q)) V) := by
  refine CT.of (by decide +kernel) (Nat.le_of_ble_eq_true rfl) (fun X hX cx => ?_)
  subst hX
  show Wm Z X 4 G V 0 0 _ 0 [(0, some (.ref x)), (1, some (.int (nI s))), (2, some (.null)), (3, some (.ref q))] []
  have h0 := hX.1
  have aRw := hX.2.2.2.2.1.2
  have aRu := hX.2.2.2.2.2.1.2
  have aRf := hX.2.2.2.2.2.2.1.2
  have aPl := hX.2.2.2.2.2.2.2.1.2
  refine x_iload_n (pc := 0) cx (dA ddX7_putOnShelf (i := 0) rfl) rfl ?_
  refine x_if_lt (pc := 1) (tgt := 36) cx (dA ddX7_putOnShelf (i := 1) rfl) (by decide) (fun c1 => absurd c1 (nI_pos (by omega))) (fun c1 => ?_)
  refine x_iload_n (pc := 4) cx (dA ddX7_putOnShelf (i := 2) rfl) rfl ?_
  refine x_aload_n (pc := 5) cx (dA ddX7_putOnShelf (i := 3) rfl) rfl ?_
  refine gX7_28 (pc := 6) (rfA hX.2.2.2.2.1.1) cx (dA ddX7_putOnShelf (i := 4) rfl) h0 ?_
  refine x_alen (pc := 9) cx (dA ddX7_putOnShelf (i := 5) rfl) aRw (by decide) ?_
  refine x_icmp_ge (pc := 10) (tgt := 36) cx (dA ddX7_putOnShelf (i := 6) rfl) (by decide) (fun c10 => absurd c10 (nI_ge (by omega) (by omega))) (fun c10 => ?_)
  refine x_iload_n (pc := 13) cx (dA ddX7_putOnShelf (i := 7) rfl) rfl ?_
  refine x_aload_n (pc := 14) cx (dA ddX7_putOnShelf (i := 8) rfl) rfl ?_
  refine gX7_34 (pc := 15) (rfA hX.2.2.2.2.2.1.1) cx (dA ddX7_putOnShelf (i := 9) rfl) h0 ?_
  refine x_alen (pc := 18) cx (dA ddX7_putOnShelf (i := 10) rfl) aRu (by decide) ?_
  refine x_icmp_ge (pc := 19) (tgt := 36) cx (dA ddX7_putOnShelf (i := 11) rfl) (by decide) (fun c19 => absurd c19 (nI_ge (by omega) (by omega))) (fun c19 => ?_)
  refine x_aload_n (pc := 22) cx (dA ddX7_putOnShelf (i := 12) rfl) rfl ?_
  refine gX7_28 (pc := 23) (rfA hX.2.2.2.2.1.1) cx (dA ddX7_putOnShelf (i := 13) rfl) h0 ?_
  refine x_iload_n (pc := 26) cx (dA ddX7_putOnShelf (i := 14) rfl) rfl ?_
  refine x_aload_nN (pc := 27) cx (dA ddX7_putOnShelf (i := 15) rfl) rfl ?_
  refine x_aastoreN (pc := 28) cx (t := 5) rfl (dA ddX7_putOnShelf (i := 16) rfl) aRw (by decide) (by decide) hs (by decide) ?_
  refine x_aload_n (pc := 29) cx (dA ddX7_putOnShelf (i := 17) rfl) rfl ?_
  refine gX7_34 (pc := 30) (rfA hX.2.2.2.2.2.1.1) cx (dA ddX7_putOnShelf (i := 18) rfl) h0 ?_
  refine x_iload_n (pc := 33) cx (dA ddX7_putOnShelf (i := 19) rfl) rfl ?_
  refine x_aload_n (pc := 34) cx (dA ddX7_putOnShelf (i := 20) rfl) rfl ?_
  refine x_aastore (pc := 35) cx (c := 3) (t := 6) rfl rfl (by decide) (dA ddX7_putOnShelf (i := 21) rfl) (show isA Z (sAR G (x + 37) s none) (x + 38) 6 8 from aRu) (by decide) (by decide) hs (by decide) hq ?_
  refine x_return (pc := 36) cx (dA ddX7_putOnShelf (i := 22) rfl) (by first | exact Nat.le_of_ble_eq_true rfl | omega) (by first | exact Nat.le_of_ble_eq_true rfl | omega) ?_
  exact ⟨rfl, rfl, rfl⟩
theorem c_X7_shelvesInUse {l : Launch} {Z : zP} {G : zG} {V : zV} {x : Nat} (hX : STBAt Z G x) : CT l Z yX7_shelvesInUse cX7_shelvesInUse 3 (some .int) 1 0 0 [.ref x] G V (pI (nI (usA G x 8)) G V) := by
  refine CT.of (by decide +kernel) (Nat.le_of_ble_eq_true rfl) (fun X hX cx => ?_)
  subst hX
  show Wm Z X 3 G V 0 0 _ 0 [(0, some (.ref x))] []
  have h0 := hX.1
  have aRw := hX.2.2.2.2.1.2
  have aRu := hX.2.2.2.2.2.1.2
  have aRf := hX.2.2.2.2.2.2.1.2
  have aPl := hX.2.2.2.2.2.2.2.1.2
  refine x_iconst (pc := 0) (v := nI 0) cx (dA ddX7_shelvesInUse (i := 0) rfl) (by decide) ?_
  refine x_istore_n (pc := 1) cx (dA ddX7_shelvesInUse (i := 1) rfl) (by decide) rfl ?_
  refine x_iconst (pc := 2) (v := nI 0) cx (dA ddX7_shelvesInUse (i := 2) rfl) (by decide) ?_
  refine x_istore_n (pc := 3) cx (dA ddX7_shelvesInUse (i := 3) rfl) (by decide) rfl ?_
  have L4 : ∀ s, s ≤ 8 → Wm Z X 3 G V 0 0 (rQ Z X 0 0 (pI (nI (usA G x 8)) G V)) 4 [(0, some (.ref x)), (1, some (.int (nI (usA G x s)))), (2, some (.int (nI s)))] [] := by
    refine lpU 8 (fun s hs ih => ?_)
    refine x_iload_n (pc := 4) cx (dA ddX7_shelvesInUse (i := 4) rfl) rfl ?_
    refine x_bipush (pc := 5) (v := nI 8) cx (dA ddX7_shelvesInUse (i := 5) rfl) (by decide) ?_
    refine x_icmp_ge (pc := 7) (tgt := 35) cx (dA ddX7_shelvesInUse (i := 6) rfl) (by decide) (fun c7 => ?_) (fun c7 => ?_)
    · have c7 := cleT (by omega) (by omega) c7
      have es : s = 8 := by omega
      subst es
      refine x_iload_n (pc := 35) cx (dA ddX7_shelvesInUse (i := 18) rfl) rfl ?_
      refine x_ireturn (pc := 36) cx (dA ddX7_shelvesInUse (i := 19) rfl) (by first | exact Nat.le_of_ble_eq_true rfl | omega) (by first | exact Nat.le_of_ble_eq_true rfl | omega) ?_
      exact ⟨rfl, rfl, rfl⟩
    · have c7 := cleF (by omega) (by omega) c7
      refine x_aload_n (pc := 10) cx (dA ddX7_shelvesInUse (i := 7) rfl) rfl ?_
      refine x_iload_n (pc := 11) cx (dA ddX7_shelvesInUse (i := 8) rfl) rfl ?_
      refine x_V1 (pc := 12) mX7_85 h0 (c_X7_rowAt hX) cx (dA ddX7_shelvesInUse (i := 9) rfl) (kR ?_)
      rw [slA_n (by omega)]
      refine x_ifnonnull (pc := 15) (tgt := 26) cx (dA ddX7_shelvesInUse (i := 10) rfl) (by decide) (fun b15 c15 => ?_) (fun c15 => ?_)
      · have e9 : usA G x (s + 1) = usA G x s + 1 := if_neg (by intro q; simp_all)
        refine x_iinc (pc := 26) cx (dA ddX7_shelvesInUse (i := 15) rfl) rfl (iinc1 _) (by decide) rfl ?_
        try have e9 : usA G x (s + 1) = usA G x s := if_pos ⟨by assumption, by assumption⟩
        refine x_iinc (pc := 29) cx (dA ddX7_shelvesInUse (i := 16) rfl) rfl (iinc1 _) (by decide) rfl ?_
        refine x_goto (pc := 32) (tgt := 4) cx (dA ddX7_shelvesInUse (i := 17) rfl) (by decide) ?_
        have L := ih (by omega)
        rw [e9] at L
        exact x_enter L ⟨.inr rfl, .inr rfl, .inr rfl, trivial⟩
      · refine x_aload_n (pc := 18) cx (dA ddX7_shelvesInUse (i := 11) rfl) rfl ?_
        refine x_iload_n (pc := 19) cx (dA ddX7_shelvesInUse (i := 12) rfl) rfl ?_
        refine x_V1 (pc := 20) mX7_99 h0 (c_X7_ruleAt hX) cx (dA ddX7_shelvesInUse (i := 13) rfl) (kR ?_)
        rw [slA_n (by omega)]
        refine x_ifnull (pc := 23) (tgt := 29) cx (dA ddX7_shelvesInUse (i := 14) rfl) (by decide) (fun c23 => ?_) (fun b23 c23 => ?_)
        · try have e9 : usA G x (s + 1) = usA G x s := if_pos ⟨by assumption, by assumption⟩
          refine x_iinc (pc := 29) cx (dA ddX7_shelvesInUse (i := 16) rfl) rfl (iinc1 _) (by decide) rfl ?_
          refine x_goto (pc := 32) (tgt := 4) cx (dA ddX7_shelvesInUse (i := 17) rfl) (by decide) ?_
          have L := ih (by omega)
          rw [e9] at L
          exact x_enter L ⟨.inr rfl, .inr rfl, .inr rfl, trivial⟩
        · have e9 : usA G x (s + 1) = usA G x s + 1 := if_neg (by intro q; simp_all)
          refine x_iinc (pc := 26) cx (dA ddX7_shelvesInUse (i := 15) rfl) rfl (iinc1 _) (by decide) rfl ?_
          try have e9 : usA G x (s + 1) = usA G x s := if_pos ⟨by assumption, by assumption⟩
          refine x_iinc (pc := 29) cx (dA ddX7_shelvesInUse (i := 16) rfl) rfl (iinc1 _) (by decide) rfl ?_
          refine x_goto (pc := 32) (tgt := 4) cx (dA ddX7_shelvesInUse (i := 17) rfl) (by decide) ?_
          have L := ih (by omega)
          rw [e9] at L
          exact x_enter L ⟨.inr rfl, .inr rfl, .inr rfl, trivial⟩
  exact x_enter (L4 0 (Nat.zero_le _)) ⟨.inr rfl, .inr rfl, .inr rfl, trivial⟩
theorem c_X7_ruleFor_n {l : Launch} {Z : zP} {G : zG} {V : zV} {x : Nat} (hX : STBAt Z G x) {p : Nat} (hP : PlanAt Z G p) {N : Nat → Nat} (hH : PlanH V p N) {s : Int32} (hs : slA G (x + 38) s = none) : CT l Z yX7_ruleFor cX7_ruleFor 4 (some (.object "SendTheBox$Rule")) 5 0 0 [.ref x, .ref p, .int s] G V (pR none G V) := by
  refine CT.of (by decide +kernel) (Nat.le_of_ble_eq_true rfl) (fun X hX cx => ?_)
  subst hX
  show Wm Z X 4 G V 0 0 _ 0 [(0, some (.ref x)), (1, some (.ref p)), (2, some (.int s))] []
  have h0 := hX.1
  have aRw := hX.2.2.2.2.1.2
  have aRu := hX.2.2.2.2.2.1.2
  have aRf := hX.2.2.2.2.2.2.1.2
  have aPl := hX.2.2.2.2.2.2.2.1.2
  refine x_aload_n (pc := 0) cx (dA ddX7_ruleFor (i := 0) rfl) rfl ?_
  refine x_iload_n (pc := 1) cx (dA ddX7_ruleFor (i := 1) rfl) rfl ?_
  refine x_V1 (pc := 2) mX7_99 h0 (c_X7_ruleAt hX) cx (dA ddX7_ruleFor (i := 2) rfl) (kR ?_)
  rw [hs]
  refine x_astore_nN (pc := 5) cx (dA ddX7_ruleFor (i := 3) rfl) (by decide) rfl ?_
  refine x_aload_n (pc := 6) cx (dA ddX7_ruleFor (i := 4) rfl) rfl ?_
  refine x_aload_nN (pc := 7) cx (dA ddX7_ruleFor (i := 5) rfl) rfl ?_
  refine x_V1 (pc := 8) mX7_325 hP.1 (c_X1_getReadyFor_n hP hH) cx (dA ddX7_ruleFor (i := 6) rfl) (kV ?_)
  refine x_aload_nN (pc := 11) cx (dA ddX7_ruleFor (i := 7) rfl) rfl ?_
  refine x_areturn (pc := 12) (o := none) cx (dA ddX7_ruleFor (i := 8) rfl) (by first | exact Nat.le_of_ble_eq_true rfl | omega) (by first | exact Nat.le_of_ble_eq_true rfl | omega) ?_
  exact ⟨rfl, rfl, rfl⟩
theorem c_X7_ruleFor {l : Launch} {Z : zP} {G : zG} {V : zV} {x : Nat} (hX : STBAt Z G x) {p : Nat} (hP : PlanAt Z G p) {N : Nat → Nat} (hH : PlanH V p N) {K : Nat} (hC : PlanC V p N K) {q κ b m : Nat} {rf : Nat → Bool} (hR : RuleAt Z G V q κ b m rf) {s : Int32} (hs : slA G (x + 38) s = some q) : CT l Z yX7_ruleFor cX7_ruleFor 4 (some (.object "SendTheBox$Rule")) 5 0 0 [.ref x, .ref p, .int s] G V (pRx (some q) G (fun V' => ∃ K2, K ≤ K2 ∧ (κ = 4 → N 0 + 1 ≤ K2) ∧ PW V V' p N K2)) := by
  refine CT.of (by decide +kernel) (Nat.le_of_ble_eq_true rfl) (fun X hX cx => ?_)
  subst hX
  show Wm Z X 4 G V 0 0 _ 0 [(0, some (.ref x)), (1, some (.ref p)), (2, some (.int s))] []
  have h0 := hX.1
  have aRw := hX.2.2.2.2.1.2
  have aRu := hX.2.2.2.2.2.1.2
  have aRf := hX.2.2.2.2.2.2.1.2
  have aPl := hX.2.2.2.2.2.2.2.1.2
  refine x_aload_n (pc := 0) cx (dA ddX7_ruleFor (i := 0) rfl) rfl ?_
  refine x_iload_n (pc := 1) cx (dA ddX7_ruleFor (i := 1) rfl) rfl ?_
  refine x_V1 (pc := 2) mX7_99 h0 (c_X7_ruleAt hX) cx (dA ddX7_ruleFor (i := 2) rfl) (kR ?_)
  rw [hs, show va_rf (some q) = .ref q from rfl]
  refine x_astore_n (pc := 5) cx (dA ddX7_ruleFor (i := 3) rfl) (by decide) rfl ?_
  refine x_aload_n (pc := 6) cx (dA ddX7_ruleFor (i := 4) rfl) rfl ?_
  refine x_aload_n (pc := 7) cx (dA ddX7_ruleFor (i := 5) rfl) rfl ?_
  refine x_V1 (pc := 8) mX7_325 hP.1 (c_X1_getReadyFor hP hH hC hR) cx (dA ddX7_ruleFor (i := 6) rfl) (kVx fun V2 h2 => ?_)
  refine x_aload_n (pc := 11) cx (dA ddX7_ruleFor (i := 7) rfl) rfl ?_
  refine x_areturn (pc := 12) (o := some q) cx (dA ddX7_ruleFor (i := 8) rfl) (by first | exact Nat.le_of_ble_eq_true rfl | omega) (by first | exact Nat.le_of_ble_eq_true rfl | omega) ?_
  exact ⟨rfl, rfl, h2⟩
theorem c_X7_planOf_n {l : Launch} {Z : zP} {G : zG} {V : zV} {x : Nat} (hX : STBAt Z G x) {c : Nat} (hc : V.1 301 (x + 1) = nI c) (c6 : c ≤ 6) {v : Int32} (hv : hsA (x + 1) c v = none) : CT l Z yX7_planOf cX7_planOf 4 (some (.object "SendTheBox$Plan")) 4 0 0 [.ref x, .int v] G V (pR none G V) := by
  refine CT.of (by decide +kernel) (Nat.le_of_ble_eq_true rfl) (fun X hX cx => ?_)
  subst hX
  show Wm Z X 4 G V 0 0 _ 0 [(0, some (.ref x)), (1, some (.int v))] []
  have h0 := hX.1
  have aRw := hX.2.2.2.2.1.2
  have aRu := hX.2.2.2.2.2.1.2
  have aRf := hX.2.2.2.2.2.2.1.2
  have aPl := hX.2.2.2.2.2.2.2.1.2
  refine x_aload_n (pc := 0) cx (dA ddX7_planOf (i := 0) rfl) rfl ?_
  refine gX7_10 (pc := 1) (rfA hX.2.1.1) cx (dA ddX7_planOf (i := 1) rfl) h0 ?_
  refine x_iload_n (pc := 4) cx (dA ddX7_planOf (i := 2) rfl) rfl ?_
  refine x_V1 (pc := 5) mX7_156 hX.2.1.2.1 (c_X6_houseAt hX.2.1.2 hc c6) cx (dA ddX7_planOf (i := 3) rfl) (kR ?_)
  rw [hv]
  refine x_astore_nN (pc := 8) cx (dA ddX7_planOf (i := 4) rfl) (by decide) rfl ?_
  refine x_aload_nN (pc := 9) cx (dA ddX7_planOf (i := 5) rfl) rfl ?_
  refine x_ifnull_n (pc := 10) (tgt := 26) cx (dA ddX7_planOf (i := 6) rfl) (by decide) ?_
  refine x_null (pc := 26) cx (dA ddX7_planOf (i := 14) rfl) ?_
  refine x_areturn (pc := 27) (o := none) cx (dA ddX7_planOf (i := 15) rfl) (by first | exact Nat.le_of_ble_eq_true rfl | omega) (by first | exact Nat.le_of_ble_eq_true rfl | omega) ?_
  exact ⟨rfl, rfl, rfl⟩
theorem c_X7_planOf {l : Launch} {Z : zP} {G : zG} {V : zV} {x : Nat} (hX : STBAt Z G x) {c : Nat} (hc : V.1 301 (x + 1) = nI c) (c6 : c ≤ 6) {i : Nat} (hi : i < c) {N : Nat → Nat} (hV : HouseV V (x + 70 + 12 * i + 1) N) (hB : HouseB N) (zN : NZ N) (hK : HOK N → PlanT V (x + 70 + 12 * i) N) {M : Nat → Nat} (oV : HouseV V (x + 1 + 5 + 2 * i) M) (hM : HOK M) (zM : NZ M) : CT l Z yX7_planOf cX7_planOf 4 (some (.object "SendTheBox$Plan")) 4 0 0 [.ref x, .int (nI i)] G V (pRx (some (x + 70 + 12 * i)) G (fun V' => PlanT V' (x + 70 + 12 * i) M ∧ SameB V V' (x + 70 + 12 * i) (x + 70 + 12 * i + 12))) := by
  refine CT.of (by decide +kernel) (Nat.le_of_ble_eq_true rfl) (fun X hX cx => ?_)
  subst hX
  show Wm Z X 4 G V 0 0 _ 0 [(0, some (.ref x)), (1, some (.int (nI i)))] []
  have h0 := hX.1
  have aRw := hX.2.2.2.2.1.2
  have aRu := hX.2.2.2.2.2.1.2
  have aRf := hX.2.2.2.2.2.2.1.2
  have aPl := hX.2.2.2.2.2.2.2.1.2
  have ehs : hsA (x + 1) c (nI i) = some (x + 1 + 5 + 2 * i) := by unfold hsA; rw [nI_toInt (by omega), if_pos (by omega)]; rfl
  refine x_aload_n (pc := 0) cx (dA ddX7_planOf (i := 0) rfl) rfl ?_
  refine gX7_10 (pc := 1) (rfA hX.2.1.1) cx (dA ddX7_planOf (i := 1) rfl) h0 ?_
  refine x_iload_n (pc := 4) cx (dA ddX7_planOf (i := 2) rfl) rfl ?_
  refine x_V1 (pc := 5) mX7_156 hX.2.1.2.1 (c_X6_houseAt hX.2.1.2 hc c6) cx (dA ddX7_planOf (i := 3) rfl) (kR ?_)
  rw [ehs, show va_rf (some (x + 1 + 5 + 2 * i)) = .ref (x + 1 + 5 + 2 * i) from rfl]
  refine x_astore_n (pc := 8) cx (dA ddX7_planOf (i := 4) rfl) (by decide) rfl ?_
  refine x_aload_n (pc := 9) cx (dA ddX7_planOf (i := 5) rfl) rfl ?_
  refine x_ifnull_s (pc := 10) cx (dA ddX7_planOf (i := 6) rfl) ?_
  refine x_iload_n (pc := 13) cx (dA ddX7_planOf (i := 7) rfl) rfl ?_
  refine x_if_lt (pc := 14) (tgt := 26) cx (dA ddX7_planOf (i := 8) rfl) (by decide) (fun c14 => absurd c14 (nI_pos (by omega))) (fun c14 => ?_)
  refine x_iload_n (pc := 17) cx (dA ddX7_planOf (i := 9) rfl) rfl ?_
  refine x_aload_n (pc := 18) cx (dA ddX7_planOf (i := 10) rfl) rfl ?_
  refine gX7_44 (pc := 19) (rfA hX.2.2.2.2.2.2.2.1.1) cx (dA ddX7_planOf (i := 11) rfl) h0 ?_
  refine x_alen (pc := 22) cx (dA ddX7_planOf (i := 12) rfl) aPl (by decide) ?_
  refine x_icmp_lt (pc := 23) (tgt := 28) cx (dA ddX7_planOf (i := 13) rfl) (by decide) (fun c23 => ?_) (fun c23 => ?_)
  · have c23 := cltT (by omega) (by omega) c23
    refine x_aload_n (pc := 28) cx (dA ddX7_planOf (i := 16) rfl) rfl ?_
    refine gX7_44 (pc := 29) (rfA hX.2.2.2.2.2.2.2.1.1) cx (dA ddX7_planOf (i := 17) rfl) h0 ?_
    refine x_iload_n (pc := 32) cx (dA ddX7_planOf (i := 18) rfl) rfl ?_
    refine x_aaload (pc := 33) cx (dA ddX7_planOf (i := 19) rfl) aPl (by decide) (by decide) (by omega) (by decide) ?_
    rw [arA (hX.2.2.2.2.2.2.2.2.2.2.2.2 i (by omega)).1]
    refine x_astore_n (pc := 34) cx (dA ddX7_planOf (i := 20) rfl) (by decide) rfl ?_
    refine x_aload_n (pc := 35) cx (dA ddX7_planOf (i := 21) rfl) rfl ?_
    refine x_ifnull_s (pc := 36) cx (dA ddX7_planOf (i := 22) rfl) ?_
    refine x_aload_n (pc := 39) cx (dA ddX7_planOf (i := 23) rfl) rfl ?_
    refine x_aload_n (pc := 40) cx (dA ddX7_planOf (i := 24) rfl) rfl ?_
    refine x_V1 (pc := 41) mX7_292 ((hX.2.2.2.2.2.2.2.2.2.2.2.2 i (by omega)).2.1) (c_X1_turnTo (hX.2.2.2.2.2.2.2.2.2.2.2.2 i (by omega)).2 hV hB zN hK (hX.2.1.2.2.2.2.2.2 i (by omega)).2 oV hM zM (by omega)) cx (dA ddX7_planOf (i := 25) rfl) (kVx fun V2 h2 => ?_)
    refine x_aload_n (pc := 44) cx (dA ddX7_planOf (i := 26) rfl) rfl ?_
    refine x_areturn (pc := 45) (o := some (x + 70 + 12 * i)) cx (dA ddX7_planOf (i := 27) rfl) (by first | exact Nat.le_of_ble_eq_true rfl | omega) (by first | exact Nat.le_of_ble_eq_true rfl | omega) ?_
    exact ⟨rfl, rfl, h2⟩
  · have c23 := cltF (by omega) (by omega) c23
    exact absurd c23 (by omega)
theorem c_X7_passDays {l : Launch} {Z : zP} {G : zG} {V : zV} {x : Nat} (hX : STBAt Z G x) {w p : Nat} (hW : WeekAt Z G w) {N : Nat → Nat} (hN : HouseV V (w + 1) N) (hP : PlanAt Z G p) (hH : PlanH V p N) {K : Nat} (hC : PlanC V p N K) {q κ b m : Nat} {rf : Nat → Bool} (hR : RuleAt Z G V q κ b m rf) (hq : G.2.2.1 251 w = some q) {D : Int32 → Int32} {vl : Int32 → Nat} (hDr : ∀ d, drw d = D d) (hvl : ∀ d, dvl d = vl d) (hv4 : ∀ d, vl d < 4) {τ : WK} {d : Int32} (hV : WeekV V w τ) (hd : V.1 302 (x + 1) = d) (hl : τ.1 ≤ N 0) (hs : τ.2.1 < 5 ^ N 4) (hK4 : κ = 4 → N 0 < K) {n : Nat} (hn : n < 2 ^ 31) : CT l Z yX7_passDays cX7_passDays 6 (some .int) 5 0 0 [.ref x, .ref w, .ref p, .int (nI n)] G V (pI (nI (pdA D vl N (fun d s => ruL N κ b m rf d s) τ d n).1) G (dsV V w (x + 1) (pdA D vl N (fun d s => ruL N κ b m rf d s) τ d n).2.1 (pdA D vl N (fun d s => ruL N κ b m rf d s) τ d n).2.2)) := by
  refine CT.of (by decide +kernel) (Nat.le_of_ble_eq_true rfl) (fun X hX cx => ?_)
  subst hX
  show Wm Z X 6 G V 0 0 _ 0 [(0, some (.ref x)), (1, some (.ref w)), (2, some (.ref p)), (3, some (.int (nI n)))] []
  have h0 := hX.1
  have aRw := hX.2.2.2.2.1.2
  have aRu := hX.2.2.2.2.2.1.2
  have aRf := hX.2.2.2.2.2.2.1.2
  have aPl := hX.2.2.2.2.2.2.2.1.2
  have hN0 := hH.1
  have n4 := hN0.1.1
  have d06 := hN0.2.1
  refine x_iconst (pc := 0) (v := nI 0) cx (dA ddX7_passDays (i := 0) rfl) (by decide) ?_
  refine x_istore (pc := 1) cx (dA ddX7_passDays (i := 1) rfl) (by decide) rfl ?_
  refine x_iconst (pc := 3) (v := nI 0) cx (dA ddX7_passDays (i := 2) rfl) (by decide) ?_
  refine x_istore (pc := 4) cx (dA ddX7_passDays (i := 3) rfl) (by decide) rfl ?_
  have L6 : ∀ i, i ≤ n → Wm Z X 6 G (dsV V w (x + 1) (pdA D vl N (fun d s => ruL N κ b m rf d s) τ d i).2.1 (pdA D vl N (fun d s => ruL N κ b m rf d s) τ d i).2.2) 0 0 (rQ Z X 0 0 (pI (nI (pdA D vl N (fun d s => ruL N κ b m rf d s) τ d n).1) G (dsV V w (x + 1) (pdA D vl N (fun d s => ruL N κ b m rf d s) τ d n).2.1 (pdA D vl N (fun d s => ruL N κ b m rf d s) τ d n).2.2))) 6 [(0, some (.ref x)), (1, some (.ref w)), (2, some (.ref p)), (3, some (.int (nI n))), (4, some (.int (nI (pdA D vl N (fun d s => ruL N κ b m rf d s) τ d i).1))), (5, some (.int (nI i)))] [] := by
    refine lpU n (fun i hi ih => ?_)
    refine x_iload (pc := 6) cx (dA ddX7_passDays (i := 4) rfl) rfl ?_
    refine x_iload_n (pc := 8) cx (dA ddX7_passDays (i := 5) rfl) rfl ?_
    refine x_icmp_ge (pc := 9) (tgt := 39) cx (dA ddX7_passDays (i := 6) rfl) (by decide) (fun c9 => ?_) (fun c9 => ?_)
    · have c9 := cleT (by omega) (by omega) c9
      have ei : i = n := by omega
      subst ei
      refine x_iload (pc := 39) cx (dA ddX7_passDays (i := 20) rfl) rfl ?_
      refine x_ireturn (pc := 41) cx (dA ddX7_passDays (i := 21) rfl) (by first | exact Nat.le_of_ble_eq_true rfl | omega) (by first | exact Nat.le_of_ble_eq_true rfl | omega) ?_
      exact ⟨rfl, rfl, rfl⟩
    · have c9 := cleF (by omega) (by omega) c9
      have ps := pdA_st (D := D) (vl := vl) (L := (fun d s => ruL N κ b m rf d s)) (d := d) n4 hs i
      refine x_aload_n (pc := 12) cx (dA ddX7_passDays (i := 7) rfl) rfl ?_
      refine x_V0 (pc := 13) mX7_317 hW.1 (c_X5_daysLeft (V := (dsV V w (x + 1) (pdA D vl N (fun d s => ruL N κ b m rf d s) τ d i).2.1 (pdA D vl N (fun d s => ruL N κ b m rf d s) τ d i).2.2)) hW wkV_V) cx (dA ddX7_passDays (i := 8) rfl) (kI ?_)
      refine x_if_le (pc := 16) (tgt := 39) cx (dA ddX7_passDays (i := 9) rfl) (by decide) (fun c16 => ?_) (fun c16 => ?_)
      · have l0 : (pdA D vl N (fun d s => ruL N κ b m rf d s) τ d i).2.1.1 = 0 := by have := cleT (b := 0) (by omega) (by omega) c16; omega
        have e8 : pdA D vl N (fun d s => ruL N κ b m rf d s) τ d n = (pdA D vl N (fun d s => ruL N κ b m rf d s) τ d i) := pdA_stay l0 (by omega)
        refine x_iload (pc := 39) cx (dA ddX7_passDays (i := 20) rfl) rfl ?_
        refine x_ireturn (pc := 41) cx (dA ddX7_passDays (i := 21) rfl) (by first | exact Nat.le_of_ble_eq_true rfl | omega) (by first | exact Nat.le_of_ble_eq_true rfl | omega) ?_
        rw [e8]
        exact ⟨rfl, rfl, rfl⟩
      · have l1 : 0 < (pdA D vl N (fun d s => ruL N κ b m rf d s) τ d i).2.1.1 := cleF (b := 0) (by omega) (by omega) c16
        have e9 : pdA D vl N (fun d s => ruL N κ b m rf d s) τ d (i + 1) = ((pdA D vl N (fun d s => ruL N κ b m rf d s) τ d i).1 + (dayP D vl N (fun d s => ruL N κ b m rf d s) (pdA D vl N (fun d s => ruL N κ b m rf d s) τ d i).2.2 (pdA D vl N (fun d s => ruL N κ b m rf d s) τ d i).2.1).1, (dayP D vl N (fun d s => ruL N κ b m rf d s) (pdA D vl N (fun d s => ruL N κ b m rf d s) τ d i).2.2 (pdA D vl N (fun d s => ruL N κ b m rf d s) τ d i).2.1).2) := if_neg (by omega)
        refine x_iload (pc := 19) cx (dA ddX7_passDays (i := 10) rfl) rfl ?_
        refine x_aload_n (pc := 21) cx (dA ddX7_passDays (i := 11) rfl) rfl ?_
        refine x_aload_n (pc := 22) cx (dA ddX7_passDays (i := 12) rfl) rfl ?_
        refine gX7_10 (pc := 23) (rfA hX.2.1.1) cx (dA ddX7_passDays (i := 13) rfl) h0 ?_
        refine x_aload_n (pc := 26) cx (dA ddX7_passDays (i := 14) rfl) rfl ?_
        refine x_V2 (pc := 27) mX7_334 hW.1 (c_X5_passDay (V := V) hW hN hN0.1 hDr hvl hv4 hX.2.1.2 hP hH hR hq (τ := (pdA D vl N (fun d s => ruL N κ b m rf d s) τ d i).2.1) (d := (pdA D vl N (fun d s => ruL N κ b m rf d s) τ d i).2.2) l1 (by omega) ps.2 (fun e s h => (hC.2.2.2 _ l1 (by have := hK4 e; omega) s h).2)) cx (dA ddX7_passDays (i := 15) rfl) (kI ?_)
        refine x_iadd (pc := 30) cx (dA ddX7_passDays (i := 16) rfl) ?_
        rw [nI_add]
        refine x_istore (pc := 31) cx (dA ddX7_passDays (i := 17) rfl) (by decide) rfl ?_
        refine x_iinc (pc := 33) cx (dA ddX7_passDays (i := 18) rfl) rfl (iinc1 _) (by decide) rfl ?_
        refine x_goto (pc := 36) (tgt := 6) cx (dA ddX7_passDays (i := 19) rfl) (by decide) ?_
        have L := ih (by omega)
        rw [e9] at L
        exact x_enter L ⟨.inr rfl, .inr rfl, .inr rfl, .inr rfl, .inr rfl, .inr rfl, trivial⟩
  have L := L6 0 (Nat.zero_le _)
  rw [show dsV V w (x + 1) (pdA D vl N (fun d s => ruL N κ b m rf d s) τ d 0).2.1 (pdA D vl N (fun d s => ruL N κ b m rf d s) τ d 0).2.2 = V from dsV_id hV hd] at L
  exact x_enter L ⟨.inr rfl, .inr rfl, .inr rfl, .inr rfl, .inr rfl, .inr rfl, trivial⟩
