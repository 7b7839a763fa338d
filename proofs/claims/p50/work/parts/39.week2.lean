def dsV (V : zV) (w wd : Nat) (τ : WK) (d : Int32) : zV := wkV (sI V 302 wd d) w τ
theorem ds_dr {V : zV} {w wd : Nat} {τ : WK} {d e : Int32} : sI (dsV V w wd τ d) 302 wd e = dsV V w wd τ e := by
  unfold dsV sI wkV u2
  congr 1
  funext f a
  by_cases hf : f = 302 ∧ a = wd
  · obtain ⟨h1, h2⟩ := hf
    subst h1
    subst h2
    simp
  · rw [if_neg hf]
    dsimp only
    rw [if_neg hf, if_neg hf]
theorem ds_302 {V : zV} {w wd : Nat} {τ : WK} {d : Int32} : (dsV V w wd τ d).1 302 wd = d := (wkV_lo (Or.inr (by decide))).trans sI_eq
theorem ds_lo {V : zV} {w wd f a : Nat} {τ : WK} {d : Int32} (hf : f < 252) : (dsV V w wd τ d).1 f a = V.1 f a := (wkV_lo (Or.inl hf)).trans (sI_ne (by omega))
theorem PlanH.fld {V V' : zV} {p : Nat} {N : Nat → Nat} (hH : PlanH V p N) (h1 : ∀ f a, f < 252 → V'.1 f a = V.1 f a) (h2 : V'.2 = V.2) : PlanH V' p N := by
  obtain ⟨a1, a2, a3, a4, a5, a6⟩ := hH
  refine ⟨a1, ?_, (h1 _ _ (by decide)).trans a3, (h1 _ _ (by decide)).trans a4, (h1 _ _ (by decide)).trans a5, ?_⟩
  · unfold HouseV; rw [h2]; exact a2
  · rw [h2]; exact a6
theorem PlanC.fld {V V' : zV} {p K : Nat} {N : Nat → Nat} (hC : PlanC V p N K) (h1 : ∀ f a, f < 252 → V'.1 f a = V.1 f a) (h2 : V'.2 = V.2) : PlanC V' p N K := by
  obtain ⟨a1, a2⟩ := hC
  refine ⟨(h1 _ _ (by decide)).trans a1, ?_⟩
  rw [h2]
  exact a2
theorem RuleAt.fld {Z : zP} {G : zG} {V V' : zV} {q κ b m : Nat} {f : Nat → Bool} (hR : RuleAt Z G V q κ b m f) (h1 : ∀ f a, f < 252 → V'.1 f a = V.1 f a) (h2 : V'.2 = V.2) : RuleAt Z G V' q κ b m f := by
  obtain ⟨a1, a2, a3, a4, a5, a6, a7⟩ := hR
  refine ⟨a1, (h1 _ _ (by decide)).trans a2, a3, fun e => ⟨(h1 _ _ (by decide)).trans (a4 e).1, (a4 e).2⟩, fun e => ⟨(h1 _ _ (by decide)).trans (a5 e).1, (a5 e).2⟩, fun e => ⟨(h1 _ _ (by decide)).trans (a6 e).1, (h1 _ _ (by decide)).trans (a6 e).2.1, (a6 e).2.2⟩, fun e => ?_⟩
  rw [h2]
  exact a7 e
/-- what comes in the morning: the first k sorts -/
def rcA (D : Int32 → Int32) (vl : Int32 → Nat) (N : Nat → Nat) (x : Nat × WK × Int32) : Nat → Nat × WK × Int32
  | 0 => x
  | k + 1 => if vl (D (rcA D vl N x k).2.2) < N (5 + 5 * k + 1) then ((rcA D vl N x k).1 + (rcvP N (rcA D vl N x k).2.1 k).1, (rcvP N (rcA D vl N x k).2.1 k).2, D (rcA D vl N x k).2.2) else ((rcA D vl N x k).1, (rcA D vl N x k).2.1, D (rcA D vl N x k).2.2)
theorem rcvP_st {N : Nat → Nat} {τ : WK} {k : Nat} (h4 : N 4 ≤ 3) (hk : k < N 4) (hs : τ.2.1 < 5 ^ N 4) : (rcvP N τ k).2.2.1 < 5 ^ N 4 ∧ (rcvP N τ k).2.1 = τ.1 := by
  unfold rcvP
  split
  · next h => exact ⟨dig_up h4 hk hs h, rfl⟩
  · exact ⟨hs, rfl⟩
theorem rcA_st {D : Int32 → Int32} {vl : Int32 → Nat} {N : Nat → Nat} {x : Nat × WK × Int32} (h4 : N 4 ≤ 3) (hs : x.2.1.2.1 < 5 ^ N 4) : ∀ k, k ≤ N 4 → (rcA D vl N x k).2.1.2.1 < 5 ^ N 4 ∧ (rcA D vl N x k).2.1.1 = x.2.1.1
  | 0, _ => ⟨hs, rfl⟩
  | k + 1, hk => by
    have ih := rcA_st (D := D) (vl := vl) h4 hs k (by omega)
    unfold rcA
    split
    · have h := rcvP_st h4 (show k < N 4 by omega) ih.1
      exact ⟨h.1, h.2.trans ih.2⟩
    · exact ih
/-- a day: what is paid, the week behind it, the draws -/
def dayE (N : Nat → Nat) (y : Nat × WK × Int32) : Nat × WK × Int32 :=
  (if y.2.1.1 - 1 = 0 then y.1 + sumP N y.2.1.2.1 4 else y.1, (y.2.1.1 - 1, y.2.1.2.1, y.2.1.2.2.1 + (if y.2.1.1 - 1 = 0 then y.1 + sumP N y.2.1.2.1 4 else y.1), y.2.1.2.2.2), y.2.2)
def dayM (D : Int32 → Int32) (vl : Int32 → Nat) (N : Nat → Nat) (L : Nat → Nat → Nat) (d : Int32) (τ : WK) : Nat × WK := sendP N τ (if vl (D d) < N 3 then 0 else L τ.1 τ.2.1)
def dayP (D : Int32 → Int32) (vl : Int32 → Nat) (N : Nat → Nat) (L : Nat → Nat → Nat) (d : Int32) (τ : WK) : Nat × WK × Int32 :=
  dayE N (rcA D vl N ((dayM D vl N L d τ).1 + sumP N (dayM D vl N L d τ).2.2.1 2, (dayM D vl N L d τ).2, D d) (N 4))
theorem sendP_st {N : Nat → Nat} {τ : WK} {q n : Nat} (hs : τ.2.1 < n) : (sendP N τ q).2.2.1 < n ∧ (sendP N τ q).2.1 = τ.1 := by
  unfold sendP
  split
  · exact ⟨hs, rfl⟩
  · exact ⟨Nat.lt_of_le_of_lt (Nat.sub_le _ _) hs, rfl⟩
theorem c_X5_passDay {l : Launch} {Z : zP} {G : zG} {V : zV} {w : Nat} (hW : WeekAt Z G w) {N : Nat → Nat} (hN : HouseV V (w + 1) N) (hB : HouseB N) {D : Int32 → Int32} {vl : Int32 → Nat} (hDr : ∀ d, drw d = D d) (hvl : ∀ d, dvl d = vl d) (hv4 : ∀ d, vl d < 4) {wd p : Nat} (hD : WorldAt Z G wd) (hP : PlanAt Z G p) (hH : PlanH V p N) {q κ b m : Nat} {rf : Nat → Bool} (hR : RuleAt Z G V q κ b m rf) (hq : G.2.2.1 251 w = some q) {τ : WK} {d : Int32} (h1 : 1 ≤ τ.1) (h6 : τ.1 ≤ 6) (hs : τ.2.1 < 5 ^ N 4) (hK : κ = 4 → ∀ s, s < 5 ^ N 4 → V.2.2.1 (p + 7) (τ.1 * 125 + s) = nI (ldP N τ.1 s)) : CT l Z yX5_passDay cX5_passDay 6 (some .int) 4 0 0 [.ref w, .ref wd, .ref p] G (dsV V w wd τ (d)) (pI (nI (dayP D vl N (fun d s => ruL N κ b m rf d s) d τ).1) G (dsV V w wd (dayP D vl N (fun d s => ruL N κ b m rf d s) d τ).2.1 (dayP D vl N (fun d s => ruL N κ b m rf d s) d τ).2.2)) := by
  refine CT.of (by decide +kernel) (Nat.le_of_ble_eq_true rfl) (fun X hX cx => ?_)
  subst hX
  show Wm Z X 6 G (dsV V w wd τ (d)) 0 0 _ 0 [(0, some (.ref w)), (1, some (.ref wd)), (2, some (.ref p))] []
  have h0 := hW.1
  have hh := hW.2.2.1
  have n4 := hB.1
  have n125 := st125 n4
  refine x_iconst (pc := 0) (v := nI 0) cx (dA ddX5_passDay (i := 0) rfl) (by decide) ?_
  refine x_istore_n (pc := 1) cx (dA ddX5_passDay (i := 1) rfl) (by decide) rfl ?_
  refine x_aload_n (pc := 2) cx (dA ddX5_passDay (i := 2) rfl) rfl ?_
  refine x_iconst (pc := 3) (v := nI 4) cx (dA ddX5_passDay (i := 3) rfl) (by decide) ?_
  refine x_V1 (pc := 4) mX5_49 hD.1 (c_X6_draw hD ds_302) cx (dA ddX5_passDay (i := 4) rfl) (kI ?_)
  rw [hDr, hvl, ds_dr]
  refine x_aload_n (pc := 7) cx (dA ddX5_passDay (i := 5) rfl) rfl ?_
  refine gX5_12 (pc := 8) (rfA hW.2.1) cx (dA ddX5_passDay (i := 6) rfl) h0 ?_
  refine x_iconst (pc := 11) (v := nI 3) cx (dA ddX5_passDay (i := 7) rfl) (by decide) ?_
  refine x_V1 (pc := 12) mX5_55 hh (c_X0_number (V := (dsV V w wd τ (D d))) hW.2.2 hN hB (w := 3) (by omega)) cx (dA ddX5_passDay (i := 8) rfl) (kI ?_)
  have b3 := hB.2 3 (by omega)
  have dv : vl (D d) < 4 := hv4 _
  have J60 : Wm Z X 6 G (dsV V w wd (dayM D vl N (fun d s => ruL N κ b m rf d s) d τ).2 (D d)) 0 0 (rQ Z X 0 0 (pI (nI (dayP D vl N (fun d s => ruL N κ b m rf d s) d τ).1) G (dsV V w wd (dayP D vl N (fun d s => ruL N κ b m rf d s) d τ).2.1 (dayP D vl N (fun d s => ruL N κ b m rf d s) d τ).2.2))) 60 [(0, some (.ref w)), (1, some (.ref wd)), (2, some (.ref p)), (3, some (.int (nI (dayM D vl N (fun d s => ruL N κ b m rf d s) d τ).1)))] [] := by
    have ms := sendP_st (N := N) (q := (if vl (D d) < N 3 then 0 else ruL N κ b m rf τ.1 τ.2.1)) hs
    have ms1 : (dayM D vl N (fun d s => ruL N κ b m rf d s) d τ).2.2.1 < 5 ^ N 4 := ms.1
    have ms2 : (dayM D vl N (fun d s => ruL N κ b m rf d s) d τ).2.1 = τ.1 := ms.2
    refine x_iload_n (pc := 60) cx (dA ddX5_passDay (i := 32) rfl) rfl ?_
    refine x_aload_n (pc := 61) cx (dA ddX5_passDay (i := 33) rfl) rfl ?_
    refine gX5_12 (pc := 62) (rfA hW.2.1) cx (dA ddX5_passDay (i := 34) rfl) h0 ?_
    refine x_aload_n (pc := 65) cx (dA ddX5_passDay (i := 35) rfl) rfl ?_
    refine gX5_34 (pc := 66) (congrArg Value.int wkV_V.2.1) cx (dA ddX5_passDay (i := 36) rfl) h0 ?_
    refine x_iconst (pc := 69) (v := nI 2) cx (dA ddX5_passDay (i := 37) rfl) (by decide) ?_
    refine x_V2 (pc := 70) mX5_67 hh (c_X0_sumOf (V := (dsV V w wd (dayM D vl N (fun d s => ruL N κ b m rf d s) d τ).2 (D d))) hW.2.2 hN hB (w := 2) (by omega) (by omega)) cx (dA ddX5_passDay (i := 38) rfl) (kI ?_)
    refine x_iadd (pc := 73) cx (dA ddX5_passDay (i := 39) rfl) ?_
    rw [nI_add]
    refine x_istore_n (pc := 74) cx (dA ddX5_passDay (i := 40) rfl) (by decide) rfl ?_
    refine x_iconst (pc := 75) (v := nI 0) cx (dA ddX5_passDay (i := 41) rfl) (by decide) ?_
    refine x_istore (pc := 76) cx (dA ddX5_passDay (i := 42) rfl) (by decide) rfl ?_
    have L78 : ∀ k, k ≤ N 4 → Wm Z X 6 G (dsV V w wd (rcA D vl N ((dayM D vl N (fun d s => ruL N κ b m rf d s) d τ).1 + sumP N (dayM D vl N (fun d s => ruL N κ b m rf d s) d τ).2.2.1 2, (dayM D vl N (fun d s => ruL N κ b m rf d s) d τ).2, D d) k).2.1 ((rcA D vl N ((dayM D vl N (fun d s => ruL N κ b m rf d s) d τ).1 + sumP N (dayM D vl N (fun d s => ruL N κ b m rf d s) d τ).2.2.1 2, (dayM D vl N (fun d s => ruL N κ b m rf d s) d τ).2, D d) k).2.2)) 0 0 (rQ Z X 0 0 (pI (nI (dayP D vl N (fun d s => ruL N κ b m rf d s) d τ).1) G (dsV V w wd (dayP D vl N (fun d s => ruL N κ b m rf d s) d τ).2.1 (dayP D vl N (fun d s => ruL N κ b m rf d s) d τ).2.2))) 78 [(0, some (.ref w)), (1, some (.ref wd)), (2, some (.ref p)), (3, some (.int (nI (rcA D vl N ((dayM D vl N (fun d s => ruL N κ b m rf d s) d τ).1 + sumP N (dayM D vl N (fun d s => ruL N κ b m rf d s) d τ).2.2.1 2, (dayM D vl N (fun d s => ruL N κ b m rf d s) d τ).2, D d) k).1))), (5, some (.int (nI k)))] [] := by
      refine lpU (N 4) (fun k hk ih => ?_)
      refine x_iload (pc := 78) cx (dA ddX5_passDay (i := 43) rfl) rfl ?_
      refine x_aload_n (pc := 80) cx (dA ddX5_passDay (i := 44) rfl) rfl ?_
      refine gX5_12 (pc := 81) (rfA hW.2.1) cx (dA ddX5_passDay (i := 45) rfl) h0 ?_
      refine x_V0 (pc := 84) mX5_71 hh (c_X0_sorts (V := (dsV V w wd (rcA D vl N ((dayM D vl N (fun d s => ruL N κ b m rf d s) d τ).1 + sumP N (dayM D vl N (fun d s => ruL N κ b m rf d s) d τ).2.2.1 2, (dayM D vl N (fun d s => ruL N κ b m rf d s) d τ).2, D d) k).2.1 ((rcA D vl N ((dayM D vl N (fun d s => ruL N κ b m rf d s) d τ).1 + sumP N (dayM D vl N (fun d s => ruL N κ b m rf d s) d τ).2.2.1 2, (dayM D vl N (fun d s => ruL N κ b m rf d s) d τ).2, D d) k).2.2))) hW.2.2 hN hB) cx (dA ddX5_passDay (i := 46) rfl) (kI ?_)
      refine x_icmp_ge (pc := 87) (tgt := 123) cx (dA ddX5_passDay (i := 47) rfl) (by decide) (fun c87 => ?_) (fun c87 => ?_)
      · have c87 := cleT (by omega) (by omega) c87
        have ek : k = N 4 := by omega
        subst ek
        have rs := rcA_st (D := D) (vl := vl) (x := ((dayM D vl N (fun d s => ruL N κ b m rf d s) d τ).1 + sumP N (dayM D vl N (fun d s => ruL N κ b m rf d s) d τ).2.2.1 2, (dayM D vl N (fun d s => ruL N κ b m rf d s) d τ).2, D d)) n4 ms1 (N 4) (Nat.le_refl _)
        have rl : (rcA D vl N ((dayM D vl N (fun d s => ruL N κ b m rf d s) d τ).1 + sumP N (dayM D vl N (fun d s => ruL N κ b m rf d s) d τ).2.2.1 2, (dayM D vl N (fun d s => ruL N κ b m rf d s) d τ).2, D d) (N 4)).2.1.1 = τ.1 := rs.2.trans ms2
        refine x_aload_n (pc := 123) cx (dA ddX5_passDay (i := 65) rfl) rfl ?_
        refine x_dup (pc := 124) cx rfl (dA ddX5_passDay (i := 66) rfl) ?_
        refine gX5_30 (pc := 125) (congrArg Value.int wkV_V.1) cx (dA ddX5_passDay (i := 67) rfl) h0 ?_
        refine x_iconst (pc := 128) (v := nI 1) cx (dA ddX5_passDay (i := 68) rfl) (by decide) ?_
        refine x_isub (pc := 129) cx (dA ddX5_passDay (i := 69) rfl) ?_
        rw [pk_sub (by omega)]
        refine pX5_30 (pc := 130)  cx (dA ddX5_passDay (i := 70) rfl) h0 ?_
        rw [show sI (dsV V w wd (rcA D vl N ((dayM D vl N (fun d s => ruL N κ b m rf d s) d τ).1 + sumP N (dayM D vl N (fun d s => ruL N κ b m rf d s) d τ).2.2.1 2, (dayM D vl N (fun d s => ruL N κ b m rf d s) d τ).2, D d) (N 4)).2.1 ((rcA D vl N ((dayM D vl N (fun d s => ruL N κ b m rf d s) d τ).1 + sumP N (dayM D vl N (fun d s => ruL N κ b m rf d s) d τ).2.2.1 2, (dayM D vl N (fun d s => ruL N κ b m rf d s) d τ).2, D d) (N 4)).2.2)) 252 w (nI ((rcA D vl N ((dayM D vl N (fun d s => ruL N κ b m rf d s) d τ).1 + sumP N (dayM D vl N (fun d s => ruL N κ b m rf d s) d τ).2.2.1 2, (dayM D vl N (fun d s => ruL N κ b m rf d s) d τ).2, D d) (N 4)).2.1.1 - 1)) = dsV V w wd ((rcA D vl N ((dayM D vl N (fun d s => ruL N κ b m rf d s) d τ).1 + sumP N (dayM D vl N (fun d s => ruL N κ b m rf d s) d τ).2.2.1 2, (dayM D vl N (fun d s => ruL N κ b m rf d s) d τ).2, D d) (N 4)).2.1.1 - 1, (rcA D vl N ((dayM D vl N (fun d s => ruL N κ b m rf d s) d τ).1 + sumP N (dayM D vl N (fun d s => ruL N κ b m rf d s) d τ).2.2.1 2, (dayM D vl N (fun d s => ruL N κ b m rf d s) d τ).2, D d) (N 4)).2.1.2) (rcA D vl N ((dayM D vl N (fun d s => ruL N κ b m rf d s) d τ).1 + sumP N (dayM D vl N (fun d s => ruL N κ b m rf d s) d τ).2.2.1 2, (dayM D vl N (fun d s => ruL N κ b m rf d s) d τ).2, D d) (N 4)).2.2 from wk_s252]
        refine x_aload_n (pc := 133) cx (dA ddX5_passDay (i := 71) rfl) rfl ?_
        refine gX5_30 (pc := 134) (congrArg Value.int wkV_V.1) cx (dA ddX5_passDay (i := 72) rfl) h0 ?_
        refine x_if_ne (pc := 137) (tgt := 155) cx (dA ddX5_passDay (i := 73) rfl) (by decide) (fun c137 => ?_) (fun c137 => ?_)
        · have l0 : ¬ (rcA D vl N ((dayM D vl N (fun d s => ruL N κ b m rf d s) d τ).1 + sumP N (dayM D vl N (fun d s => ruL N κ b m rf d s) d τ).2.2.1 2, (dayM D vl N (fun d s => ruL N κ b m rf d s) d τ).2, D d) (N 4)).2.1.1 - 1 = 0 := fun e => c137 (by rw [e]; rfl)
          have eD : dayP D vl N (fun d s => ruL N κ b m rf d s) d τ = ((rcA D vl N ((dayM D vl N (fun d s => ruL N κ b m rf d s) d τ).1 + sumP N (dayM D vl N (fun d s => ruL N κ b m rf d s) d τ).2.2.1 2, (dayM D vl N (fun d s => ruL N κ b m rf d s) d τ).2, D d) (N 4)).1, ((rcA D vl N ((dayM D vl N (fun d s => ruL N κ b m rf d s) d τ).1 + sumP N (dayM D vl N (fun d s => ruL N κ b m rf d s) d τ).2.2.1 2, (dayM D vl N (fun d s => ruL N κ b m rf d s) d τ).2, D d) (N 4)).2.1.1 - 1, (rcA D vl N ((dayM D vl N (fun d s => ruL N κ b m rf d s) d τ).1 + sumP N (dayM D vl N (fun d s => ruL N κ b m rf d s) d τ).2.2.1 2, (dayM D vl N (fun d s => ruL N κ b m rf d s) d τ).2, D d) (N 4)).2.1.2.1, (rcA D vl N ((dayM D vl N (fun d s => ruL N κ b m rf d s) d τ).1 + sumP N (dayM D vl N (fun d s => ruL N κ b m rf d s) d τ).2.2.1 2, (dayM D vl N (fun d s => ruL N κ b m rf d s) d τ).2, D d) (N 4)).2.1.2.2.1 + (rcA D vl N ((dayM D vl N (fun d s => ruL N κ b m rf d s) d τ).1 + sumP N (dayM D vl N (fun d s => ruL N κ b m rf d s) d τ).2.2.1 2, (dayM D vl N (fun d s => ruL N κ b m rf d s) d τ).2, D d) (N 4)).1, (rcA D vl N ((dayM D vl N (fun d s => ruL N κ b m rf d s) d τ).1 + sumP N (dayM D vl N (fun d s => ruL N κ b m rf d s) d τ).2.2.1 2, (dayM D vl N (fun d s => ruL N κ b m rf d s) d τ).2, D d) (N 4)).2.1.2.2.2), (rcA D vl N ((dayM D vl N (fun d s => ruL N κ b m rf d s) d τ).1 + sumP N (dayM D vl N (fun d s => ruL N κ b m rf d s) d τ).2.2.1 2, (dayM D vl N (fun d s => ruL N κ b m rf d s) d τ).2, D d) (N 4)).2.2) := by show dayE N (rcA D vl N ((dayM D vl N (fun d s => ruL N κ b m rf d s) d τ).1 + sumP N (dayM D vl N (fun d s => ruL N κ b m rf d s) d τ).2.2.1 2, (dayM D vl N (fun d s => ruL N κ b m rf d s) d τ).2, D d) (N 4)) = _; unfold dayE; rw [if_neg l0]
          refine x_aload_n (pc := 155) cx (dA ddX5_passDay (i := 83) rfl) rfl ?_
          refine x_dup (pc := 156) cx rfl (dA ddX5_passDay (i := 84) rfl) ?_
          refine gX5_37 (pc := 157) (congrArg Value.int wkV_V.2.2.1) cx (dA ddX5_passDay (i := 85) rfl) h0 ?_
          refine x_iload_n (pc := 160) cx (dA ddX5_passDay (i := 86) rfl) rfl ?_
          refine x_iadd (pc := 161) cx (dA ddX5_passDay (i := 87) rfl) ?_
          rw [nI_add]
          refine pX5_37 (pc := 162)  cx (dA ddX5_passDay (i := 88) rfl) h0 ?_
          refine x_iload_n (pc := 165) cx (dA ddX5_passDay (i := 89) rfl) rfl ?_
          refine x_ireturn (pc := 166) cx (dA ddX5_passDay (i := 90) rfl) (by first | exact Nat.le_of_ble_eq_true rfl | omega) (by first | exact Nat.le_of_ble_eq_true rfl | omega) ?_
          rw [eD]
          exact ⟨rfl, rfl, wk_s254⟩
        · have l0 : (rcA D vl N ((dayM D vl N (fun d s => ruL N κ b m rf d s) d τ).1 + sumP N (dayM D vl N (fun d s => ruL N κ b m rf d s) d τ).2.2.1 2, (dayM D vl N (fun d s => ruL N κ b m rf d s) d τ).2, D d) (N 4)).2.1.1 - 1 = 0 := nI_inj (b := 0) (by omega) (by decide) c137
          have eD : dayP D vl N (fun d s => ruL N κ b m rf d s) d τ = ((rcA D vl N ((dayM D vl N (fun d s => ruL N κ b m rf d s) d τ).1 + sumP N (dayM D vl N (fun d s => ruL N κ b m rf d s) d τ).2.2.1 2, (dayM D vl N (fun d s => ruL N κ b m rf d s) d τ).2, D d) (N 4)).1 + sumP N (rcA D vl N ((dayM D vl N (fun d s => ruL N κ b m rf d s) d τ).1 + sumP N (dayM D vl N (fun d s => ruL N κ b m rf d s) d τ).2.2.1 2, (dayM D vl N (fun d s => ruL N κ b m rf d s) d τ).2, D d) (N 4)).2.1.2.1 4, ((rcA D vl N ((dayM D vl N (fun d s => ruL N κ b m rf d s) d τ).1 + sumP N (dayM D vl N (fun d s => ruL N κ b m rf d s) d τ).2.2.1 2, (dayM D vl N (fun d s => ruL N κ b m rf d s) d τ).2, D d) (N 4)).2.1.1 - 1, (rcA D vl N ((dayM D vl N (fun d s => ruL N κ b m rf d s) d τ).1 + sumP N (dayM D vl N (fun d s => ruL N κ b m rf d s) d τ).2.2.1 2, (dayM D vl N (fun d s => ruL N κ b m rf d s) d τ).2, D d) (N 4)).2.1.2.1, (rcA D vl N ((dayM D vl N (fun d s => ruL N κ b m rf d s) d τ).1 + sumP N (dayM D vl N (fun d s => ruL N κ b m rf d s) d τ).2.2.1 2, (dayM D vl N (fun d s => ruL N κ b m rf d s) d τ).2, D d) (N 4)).2.1.2.2.1 + ((rcA D vl N ((dayM D vl N (fun d s => ruL N κ b m rf d s) d τ).1 + sumP N (dayM D vl N (fun d s => ruL N κ b m rf d s) d τ).2.2.1 2, (dayM D vl N (fun d s => ruL N κ b m rf d s) d τ).2, D d) (N 4)).1 + sumP N (rcA D vl N ((dayM D vl N (fun d s => ruL N κ b m rf d s) d τ).1 + sumP N (dayM D vl N (fun d s => ruL N κ b m rf d s) d τ).2.2.1 2, (dayM D vl N (fun d s => ruL N κ b m rf d s) d τ).2, D d) (N 4)).2.1.2.1 4), (rcA D vl N ((dayM D vl N (fun d s => ruL N κ b m rf d s) d τ).1 + sumP N (dayM D vl N (fun d s => ruL N κ b m rf d s) d τ).2.2.1 2, (dayM D vl N (fun d s => ruL N κ b m rf d s) d τ).2, D d) (N 4)).2.1.2.2.2), (rcA D vl N ((dayM D vl N (fun d s => ruL N κ b m rf d s) d τ).1 + sumP N (dayM D vl N (fun d s => ruL N κ b m rf d s) d τ).2.2.1 2, (dayM D vl N (fun d s => ruL N κ b m rf d s) d τ).2, D d) (N 4)).2.2) := by show dayE N (rcA D vl N ((dayM D vl N (fun d s => ruL N κ b m rf d s) d τ).1 + sumP N (dayM D vl N (fun d s => ruL N κ b m rf d s) d τ).2.2.1 2, (dayM D vl N (fun d s => ruL N κ b m rf d s) d τ).2, D d) (N 4)) = _; unfold dayE; rw [if_pos l0]
          refine x_iload_n (pc := 140) cx (dA ddX5_passDay (i := 74) rfl) rfl ?_
          refine x_aload_n (pc := 141) cx (dA ddX5_passDay (i := 75) rfl) rfl ?_
          refine gX5_12 (pc := 142) (rfA hW.2.1) cx (dA ddX5_passDay (i := 76) rfl) h0 ?_
          refine x_aload_n (pc := 145) cx (dA ddX5_passDay (i := 77) rfl) rfl ?_
          refine gX5_34 (pc := 146) (congrArg Value.int wkV_V.2.1) cx (dA ddX5_passDay (i := 78) rfl) h0 ?_
          refine x_iconst (pc := 149) (v := nI 4) cx (dA ddX5_passDay (i := 79) rfl) (by decide) ?_
          refine x_V2 (pc := 150) mX5_67 hh (c_X0_sumOf (V := dsV V w wd ((rcA D vl N ((dayM D vl N (fun d s => ruL N κ b m rf d s) d τ).1 + sumP N (dayM D vl N (fun d s => ruL N κ b m rf d s) d τ).2.2.1 2, (dayM D vl N (fun d s => ruL N κ b m rf d s) d τ).2, D d) (N 4)).2.1.1 - 1, (rcA D vl N ((dayM D vl N (fun d s => ruL N κ b m rf d s) d τ).1 + sumP N (dayM D vl N (fun d s => ruL N κ b m rf d s) d τ).2.2.1 2, (dayM D vl N (fun d s => ruL N κ b m rf d s) d τ).2, D d) (N 4)).2.1.2) (rcA D vl N ((dayM D vl N (fun d s => ruL N κ b m rf d s) d τ).1 + sumP N (dayM D vl N (fun d s => ruL N κ b m rf d s) d τ).2.2.1 2, (dayM D vl N (fun d s => ruL N κ b m rf d s) d τ).2, D d) (N 4)).2.2) hW.2.2 hN hB (s := (rcA D vl N ((dayM D vl N (fun d s => ruL N κ b m rf d s) d τ).1 + sumP N (dayM D vl N (fun d s => ruL N κ b m rf d s) d τ).2.2.1 2, (dayM D vl N (fun d s => ruL N κ b m rf d s) d τ).2, D d) (N 4)).2.1.2.1) (w := 4) (by omega) (by omega)) cx (dA ddX5_passDay (i := 80) rfl) (kI ?_)
          refine x_iadd (pc := 153) cx (dA ddX5_passDay (i := 81) rfl) ?_
          rw [nI_add]
          refine x_istore_n (pc := 154) cx (dA ddX5_passDay (i := 82) rfl) (by decide) rfl ?_
          refine x_aload_n (pc := 155) cx (dA ddX5_passDay (i := 83) rfl) rfl ?_
          refine x_dup (pc := 156) cx rfl (dA ddX5_passDay (i := 84) rfl) ?_
          refine gX5_37 (pc := 157) (congrArg Value.int wkV_V.2.2.1) cx (dA ddX5_passDay (i := 85) rfl) h0 ?_
          refine x_iload_n (pc := 160) cx (dA ddX5_passDay (i := 86) rfl) rfl ?_
          refine x_iadd (pc := 161) cx (dA ddX5_passDay (i := 87) rfl) ?_
          rw [nI_add]
          refine pX5_37 (pc := 162)  cx (dA ddX5_passDay (i := 88) rfl) h0 ?_
          refine x_iload_n (pc := 165) cx (dA ddX5_passDay (i := 89) rfl) rfl ?_
          refine x_ireturn (pc := 166) cx (dA ddX5_passDay (i := 90) rfl) (by first | exact Nat.le_of_ble_eq_true rfl | omega) (by first | exact Nat.le_of_ble_eq_true rfl | omega) ?_
          rw [eD]
          exact ⟨rfl, rfl, wk_s254⟩
      · have c87 := cleF (by omega) (by omega) c87
        have rs := rcA_st (D := D) (vl := vl) (x := ((dayM D vl N (fun d s => ruL N κ b m rf d s) d τ).1 + sumP N (dayM D vl N (fun d s => ruL N κ b m rf d s) d τ).2.2.1 2, (dayM D vl N (fun d s => ruL N κ b m rf d s) d τ).2, D d)) n4 ms1 k (by omega)
        refine x_aload_n (pc := 90) cx (dA ddX5_passDay (i := 48) rfl) rfl ?_
        refine x_iconst (pc := 91) (v := nI 4) cx (dA ddX5_passDay (i := 49) rfl) (by decide) ?_
        refine x_V1 (pc := 92) mX5_49 hD.1 (c_X6_draw hD ds_302) cx (dA ddX5_passDay (i := 50) rfl) (kI ?_)
        rw [hDr, hvl, ds_dr]
        refine x_aload_n (pc := 95) cx (dA ddX5_passDay (i := 51) rfl) rfl ?_
        refine gX5_12 (pc := 96) (rfA hW.2.1) cx (dA ddX5_passDay (i := 52) rfl) h0 ?_
        refine x_iload (pc := 99) cx (dA ddX5_passDay (i := 53) rfl) rfl ?_
        refine x_iconst (pc := 101) (v := nI 1) cx (dA ddX5_passDay (i := 54) rfl) (by decide) ?_
        refine x_V2 (pc := 102) mX5_74 hh (c_X0_sortNumber (V := (dsV V w wd (rcA D vl N ((dayM D vl N (fun d s => ruL N κ b m rf d s) d τ).1 + sumP N (dayM D vl N (fun d s => ruL N κ b m rf d s) d τ).2.2.1 2, (dayM D vl N (fun d s => ruL N κ b m rf d s) d τ).2, D d) k).2.1 (D (rcA D vl N ((dayM D vl N (fun d s => ruL N κ b m rf d s) d τ).1 + sumP N (dayM D vl N (fun d s => ruL N κ b m rf d s) d τ).2.2.1 2, (dayM D vl N (fun d s => ruL N κ b m rf d s) d τ).2, D d) k).2.2))) hW.2.2 hN hB (s := k) (w := 1) (by omega) (by omega)) cx (dA ddX5_passDay (i := 55) rfl) (kI ?_)
        have dv2 : vl (D (rcA D vl N ((dayM D vl N (fun d s => ruL N κ b m rf d s) d τ).1 + sumP N (dayM D vl N (fun d s => ruL N κ b m rf d s) d τ).2.2.1 2, (dayM D vl N (fun d s => ruL N κ b m rf d s) d τ).2, D d) k).2.2) < 4 := hv4 _
        have nc := hB.2 (5 + 5 * k + 1) (by omega)
        refine x_icmp_ge (pc := 105) (tgt := 117) cx (dA ddX5_passDay (i := 56) rfl) (by decide) (fun c105 => ?_) (fun c105 => ?_)
        · have c105 := cleT (by omega) (by omega) c105
          have eR : rcA D vl N ((dayM D vl N (fun d s => ruL N κ b m rf d s) d τ).1 + sumP N (dayM D vl N (fun d s => ruL N κ b m rf d s) d τ).2.2.1 2, (dayM D vl N (fun d s => ruL N κ b m rf d s) d τ).2, D d) (k + 1) = ((rcA D vl N ((dayM D vl N (fun d s => ruL N κ b m rf d s) d τ).1 + sumP N (dayM D vl N (fun d s => ruL N κ b m rf d s) d τ).2.2.1 2, (dayM D vl N (fun d s => ruL N κ b m rf d s) d τ).2, D d) k).1, (rcA D vl N ((dayM D vl N (fun d s => ruL N κ b m rf d s) d τ).1 + sumP N (dayM D vl N (fun d s => ruL N κ b m rf d s) d τ).2.2.1 2, (dayM D vl N (fun d s => ruL N κ b m rf d s) d τ).2, D d) k).2.1, D (rcA D vl N ((dayM D vl N (fun d s => ruL N κ b m rf d s) d τ).1 + sumP N (dayM D vl N (fun d s => ruL N κ b m rf d s) d τ).2.2.1 2, (dayM D vl N (fun d s => ruL N κ b m rf d s) d τ).2, D d) k).2.2) := if_neg (by omega)
          refine x_iinc (pc := 117) cx (dA ddX5_passDay (i := 63) rfl) rfl (iinc1 _) (by decide) rfl ?_
          refine x_goto (pc := 120) (tgt := 78) cx (dA ddX5_passDay (i := 64) rfl) (by decide) ?_
          have L := ih (by omega)
          rw [eR] at L
          exact x_enter L ⟨.inr rfl, .inr rfl, .inr rfl, .inr rfl, .inr rfl, trivial⟩
        · have c105 := cleF (by omega) (by omega) c105
          have eR : rcA D vl N ((dayM D vl N (fun d s => ruL N κ b m rf d s) d τ).1 + sumP N (dayM D vl N (fun d s => ruL N κ b m rf d s) d τ).2.2.1 2, (dayM D vl N (fun d s => ruL N κ b m rf d s) d τ).2, D d) (k + 1) = ((rcA D vl N ((dayM D vl N (fun d s => ruL N κ b m rf d s) d τ).1 + sumP N (dayM D vl N (fun d s => ruL N κ b m rf d s) d τ).2.2.1 2, (dayM D vl N (fun d s => ruL N κ b m rf d s) d τ).2, D d) k).1 + (rcvP N (rcA D vl N ((dayM D vl N (fun d s => ruL N κ b m rf d s) d τ).1 + sumP N (dayM D vl N (fun d s => ruL N κ b m rf d s) d τ).2.2.1 2, (dayM D vl N (fun d s => ruL N κ b m rf d s) d τ).2, D d) k).2.1 k).1, (rcvP N (rcA D vl N ((dayM D vl N (fun d s => ruL N κ b m rf d s) d τ).1 + sumP N (dayM D vl N (fun d s => ruL N κ b m rf d s) d τ).2.2.1 2, (dayM D vl N (fun d s => ruL N κ b m rf d s) d τ).2, D d) k).2.1 k).2, D (rcA D vl N ((dayM D vl N (fun d s => ruL N κ b m rf d s) d τ).1 + sumP N (dayM D vl N (fun d s => ruL N κ b m rf d s) d τ).2.2.1 2, (dayM D vl N (fun d s => ruL N κ b m rf d s) d τ).2, D d) k).2.2) := if_pos c105
          refine x_iload_n (pc := 108) cx (dA ddX5_passDay (i := 57) rfl) rfl ?_
          refine x_aload_n (pc := 109) cx (dA ddX5_passDay (i := 58) rfl) rfl ?_
          refine x_iload (pc := 110) cx (dA ddX5_passDay (i := 59) rfl) rfl ?_
          refine x_V1 (pc := 112) mX5_77 h0 (c_X5_receive (V := sI V 302 wd (D (rcA D vl N ((dayM D vl N (fun d s => ruL N κ b m rf d s) d τ).1 + sumP N (dayM D vl N (fun d s => ruL N κ b m rf d s) d τ).2.2.1 2, (dayM D vl N (fun d s => ruL N κ b m rf d s) d τ).2, D d) k).2.2)) hW hN hB (k := k) (by omega) (by omega)) cx (dA ddX5_passDay (i := 60) rfl) (kI ?_)
          refine x_iadd (pc := 115) cx (dA ddX5_passDay (i := 61) rfl) ?_
          rw [nI_add]
          refine x_istore_n (pc := 116) cx (dA ddX5_passDay (i := 62) rfl) (by decide) rfl ?_
          refine x_iinc (pc := 117) cx (dA ddX5_passDay (i := 63) rfl) rfl (iinc1 _) (by decide) rfl ?_
          refine x_goto (pc := 120) (tgt := 78) cx (dA ddX5_passDay (i := 64) rfl) (by decide) ?_
          have L := ih (by omega)
          rw [eR] at L
          exact x_enter L ⟨.inr rfl, .inr rfl, .inr rfl, .inr rfl, .inr rfl, trivial⟩
    exact x_enter (L78 0 (Nat.zero_le _)) ⟨.inr rfl, .inr rfl, .inr rfl, .inr rfl, .inr rfl, trivial⟩
  refine x_icmp_ge (pc := 15) (tgt := 22) cx (dA ddX5_passDay (i := 9) rfl) (by decide) (fun c15 => ?_) (fun c15 => ?_)
  · have c15 := cleT (by omega) (by omega) c15
    have em : (dayM D vl N (fun d s => ruL N κ b m rf d s) d τ) = sendP N τ (ruL N κ b m rf τ.1 τ.2.1) := by unfold dayM; rw [if_neg (by omega)]
    refine x_iconst (pc := 22) (v := nI 0) cx (dA ddX5_passDay (i := 12) rfl) (by decide) ?_
    refine x_istore (pc := 23) cx (dA ddX5_passDay (i := 13) rfl) (by decide) rfl ?_
    refine x_iload (pc := 25) cx (dA ddX5_passDay (i := 14) rfl) rfl ?_
    refine x_if_ne (pc := 27) (tgt := 60) cx (dA ddX5_passDay (i := 15) rfl) (by decide) (fun c27 => absurd (rfl : nI 0 = 0) c27) (fun c27 => ?_)
    refine x_aload_n (pc := 30) cx (dA ddX5_passDay (i := 16) rfl) rfl ?_
    refine gX5_22 (pc := 31) (rfA hq) cx (dA ddX5_passDay (i := 17) rfl) h0 ?_
    refine x_ifnull_s (pc := 34) cx (dA ddX5_passDay (i := 18) rfl) ?_
    refine x_iload_n (pc := 37) cx (dA ddX5_passDay (i := 19) rfl) rfl ?_
    refine x_aload_n (pc := 38) cx (dA ddX5_passDay (i := 20) rfl) rfl ?_
    refine x_aload_n (pc := 39) cx (dA ddX5_passDay (i := 21) rfl) rfl ?_
    refine x_aload_n (pc := 40) cx (dA ddX5_passDay (i := 22) rfl) rfl ?_
    refine gX5_22 (pc := 41) (rfA hq) cx (dA ddX5_passDay (i := 23) rfl) h0 ?_
    refine x_aload_n (pc := 44) cx (dA ddX5_passDay (i := 24) rfl) rfl ?_
    refine gX5_30 (pc := 45) (congrArg Value.int wkV_V.1) cx (dA ddX5_passDay (i := 25) rfl) h0 ?_
    refine x_aload_n (pc := 48) cx (dA ddX5_passDay (i := 26) rfl) rfl ?_
    refine gX5_34 (pc := 49) (congrArg Value.int wkV_V.2.1) cx (dA ddX5_passDay (i := 27) rfl) h0 ?_
    refine x_V3 (pc := 52) mX5_58 hP.1 (c_X1_loadBy (V := (dsV V w wd τ (D d))) hP (hH.fld (fun f a h => ds_lo h) rfl) (hR.fld (fun f a h => ds_lo h) rfl) (d := τ.1) (s := τ.2.1) h6 hs (fun e s h => hK e s h)) cx (dA ddX5_passDay (i := 28) rfl) (kI ?_)
    refine x_V1 (pc := 55) mX5_64 h0 (c_X5_send (V := sI V 302 wd (D d)) hW hN hB (ruL_le hH.1 h1 h6 hs) (by omega)) cx (dA ddX5_passDay (i := 29) rfl) (kI ?_)
    refine x_iadd (pc := 58) cx (dA ddX5_passDay (i := 30) rfl) ?_
    refine x_istore_n (pc := 59) cx (dA ddX5_passDay (i := 31) rfl) (by decide) rfl ?_
    rw [nI_add, ← em, Nat.zero_add (dayM D vl N (fun d s => ruL N κ b m rf d s) d τ).1]
    exact x_enter J60 ⟨.inr rfl, .inr rfl, .inr rfl, .inr rfl, trivial⟩
  · have c15 := cleF (by omega) (by omega) c15
    have em : (dayM D vl N (fun d s => ruL N κ b m rf d s) d τ) = (0, τ) := by unfold dayM; rw [if_pos c15]; exact if_pos rfl
    refine x_iconst (pc := 18) (v := nI 1) cx (dA ddX5_passDay (i := 10) rfl) (by decide) ?_
    refine x_goto (pc := 19) (tgt := 23) cx (dA ddX5_passDay (i := 11) rfl) (by decide) ?_
    refine x_istore (pc := 23) cx (dA ddX5_passDay (i := 13) rfl) (by decide) rfl ?_
    refine x_iload (pc := 25) cx (dA ddX5_passDay (i := 14) rfl) rfl ?_
    refine x_if_ne (pc := 27) (tgt := 60) cx (dA ddX5_passDay (i := 15) rfl) (by decide) (fun c27 => ?_) (fun c27 => absurd c27 (show ¬ nI 1 = 0 by decide))
    rw [em] at J60
    exact x_enter J60 ⟨.inr rfl, .inr rfl, .inr rfl, .inr rfl, trivial⟩
