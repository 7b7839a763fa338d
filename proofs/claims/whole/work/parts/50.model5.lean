theorem SameB.sAJ {V V' : zV} {lo hi a i : Nat} {v : Int64} (h : SameB V V' lo hi) (h1 : lo ≤ a) (h2 : a < hi) : SameB V (sAJ V' a i v) lo hi := fun x hx => ⟨(h x hx).1, (h x hx).2.1, (h x hx).2.2.1, fun j => (u2_fst _ _ (show x ≠ a by omega)).trans ((h x hx).2.2.2 j)⟩
theorem MH.same {V V' : zV} {y h : Nat} {N : Nat → Nat} (hR : MH V y h N) (hh : h < 8) (hs : SameB V V' (y + 63) (y + 85)) : MH V' y h N := fun j hj => ((hs _ (by omega)).2.2.1 j).trans (hR j hj)
theorem sAJ_sAJ (V : zV) (a i : Nat) (v w : Int64) : sAJ (sAJ V a i v) a i w = sAJ V a i w := by
  unfold sAJ
  dsimp only
  congr 3
  funext x j
  unfold u2
  split
  · rfl
  · rfl
theorem sAI_sAI (V : zV) (a i : Nat) (v w : Int32) : sAI (sAI V a i v) a i w = sAI V a i w := by
  unfold sAI
  dsimp only
  congr 3
  funext x j
  unfold u2
  split
  · rfl
  · rfl
theorem sAI_swap {V : zV} {a b i j : Nat} {v w : Int32} (h : a ≠ b) : sAI (sAI V a i v) b j w = sAI (sAI V b j w) a i v := by
  unfold sAI
  dsimp only
  congr 3
  funext x z
  unfold u2
  by_cases p : x = a ∧ z = i
  · by_cases q : x = b ∧ z = j
    · exact absurd (p.1.symm.trans q.1) h
    · rw [if_neg q, if_pos p, if_pos p]
  · by_cases q : x = b ∧ z = j
    · rw [if_pos q, if_neg p, if_pos q]
    · rw [if_neg q, if_neg p, if_neg p, if_neg q]
theorem sAJ_eq {V : zV} {a i : Nat} {v : Int64} : (sAJ V a i v).2.2.2 a i = v := u2_same _ _ _ _
theorem sAJ_ne {V : zV} {a i x j : Nat} {v : Int64} (h : x ≠ a) : (sAJ V a i v).2.2.2 x j = V.2.2.2 x j := u2_fst _ _ h
theorem sAJ_nj {V : zV} {a i j : Nat} {v : Int64} (h : j ≠ i) : (sAJ V a i v).2.2.2 a j = V.2.2.2 a j := u2_snd _ _ h
/-- s states looked at -/
def wyI (V V1 : zV) (y : Nat) (N : Nat → Nat) (s : Nat) : Prop := SameB V V1 (y + 63) (y + 85) ∧ (∀ t, t < s → V1.2.2.1 (y + 82) t = nI (fillP N t)) ∧ (∀ t, t < s → V1.2.2.1 (y + 83) t = nI (sumP N t 0)) ∧ ∀ t, t < s → V1.2.2.1 (y + 84) t = nI (sumP N t 2)
theorem wyI_s {V V1 : zV} {y s : Nat} {N : Nat → Nat} (h : wyI V V1 y N s) : wyI V (sAI (sAI (sAI V1 (y + 82) s (nI (fillP N s))) (y + 83) s (nI (sumP N s 0))) (y + 84) s (nI (sumP N s 2))) y N (s + 1) := by
  obtain ⟨a, b, c, d⟩ := h
  refine ⟨((a.sAI (by omega) (by omega)).sAI (by omega) (by omega)).sAI (by omega) (by omega), fun t ht => ?_, fun t ht => ?_, tu_row (g := fun t => sumP N t 2) (fun t ht => ?_)⟩
  · rw [sAI_ne (by omega), sAI_ne (by omega)]; exact tu_row (g := fillP N) b t ht
  · rw [sAI_ne (by omega)]; exact tu_row (g := fun t => sumP N t 0) (fun t ht => (sAI_ne (by omega)).trans (c t ht)) t ht
  · rw [sAI_ne (by omega), sAI_ne (by omega)]; exact d t ht
/-- c of what may come looked at -/
def wcI (V V1 : zV) (y : Nat) (N : Nat → Nat) (c : Nat) : Prop := wyI V V1 y N (5 ^ N 4) ∧ (∀ e, e < c → V1.2.2.2 (y + 63) e = lN (wtM N e (N 4))) ∧ ∀ e, e < c → ∀ s, s < 5 ^ N 4 → V1.2.2.1 (y + 64 + 1 + e) s = nI (thM e s (N 4)) ∧ V1.2.2.1 (y + 73 + 1 + e) s = nI (rfM N e s (N 4))
/-- .. and of the one behind them its weight, and s states -/
def wsJ (V V1 : zV) (y : Nat) (N : Nat → Nat) (c s : Nat) : Prop := wcI V V1 y N c ∧ V1.2.2.2 (y + 63) c = lN (wtM N c (N 4)) ∧ ∀ t, t < s → V1.2.2.1 (y + 64 + 1 + c) t = nI (thM c t (N 4)) ∧ V1.2.2.1 (y + 73 + 1 + c) t = nI (rfM N c t (N 4))
theorem wyI_J {V V1 : zV} {y s i : Nat} {N : Nat → Nat} {v : Int64} (h : wyI V V1 y N s) : wyI V (sAJ V1 (y + 63) i v) y N s := ⟨h.1.sAJ (by omega) (by omega), h.2⟩
theorem wsJ_0 {V V1 : zV} {y c : Nat} {N : Nat → Nat} (h : wcI V V1 y N c) : wsJ V (sAJ V1 (y + 63) c (lN (wtM N c (N 4)))) y N c 0 :=
  ⟨⟨wyI_J h.1, fun e he => (sAJ_nj (by omega)).trans (h.2.1 e he), h.2.2⟩, sAJ_eq, fun t ht => absurd ht (Nat.not_lt_zero _)⟩
def wxV (V : zV) (y c s : Nat) (a b : Nat) : zV := sAI (sAI V (y + 64 + 1 + c) s (nI a)) (y + 73 + 1 + c) s (nI b)
theorem wyI_I {V V1 : zV} {y s a i : Nat} {N : Nat → Nat} {v : Int32} (h : wyI V V1 y N s) (h1 : y + 63 ≤ a) (h2 : a < y + 82) : wyI V (sAI V1 a i v) y N s := ⟨h.1.sAI (by omega) (by omega), fun t ht => (sAI_ne (by omega)).trans (h.2.1 t ht), fun t ht => (sAI_ne (by omega)).trans (h.2.2.1 t ht), fun t ht => (sAI_ne (by omega)).trans (h.2.2.2 t ht)⟩
theorem wsJ_s {V V1 : zV} {y c s : Nat} {N : Nat → Nat} (hc : c < 8) (h : wsJ V V1 y N c s) : wsJ V (wxV V1 y c s (thM c s (N 4)) (rfM N c s (N 4))) y N c (s + 1) := by
  obtain ⟨⟨a, b, d⟩, e, f⟩ := h
  refine ⟨⟨wyI_I (wyI_I a (by omega) (by omega)) (by omega) (by omega), b, fun k hk t ht => ⟨?_, ?_⟩⟩, e, fun t ht => ⟨?_, ?_⟩⟩
  · exact (sAI_ne (by omega)).trans ((sAI_ne (by omega)).trans (d k hk t ht).1)
  · exact (sAI_ne (by omega)).trans ((sAI_ne (by omega)).trans (d k hk t ht).2)
  · exact (sAI_ne (by omega)).trans (tu_row (g := fun t => thM c t (N 4)) (fun t ht => (f t ht).1) t ht)
  · exact tu_row (g := fun t => rfM N c t (N 4)) (fun t ht => (sAI_ne (by omega)).trans (f t ht).2) t ht
theorem wcI_s {V V1 : zV} {y c : Nat} {N : Nat → Nat} (h : wsJ V V1 y N c (5 ^ N 4)) : wcI V V1 y N (c + 1) := by
  obtain ⟨⟨a, b, d⟩, e, f⟩ := h
  refine ⟨a, fun k hk => ?_, fun k hk t ht => ?_⟩
  · by_cases q : k = c
    · subst q; exact e
    · exact b k (by omega)
  · by_cases q : k = c
    · subst q; exact f t ht
    · exact d k (by omega) t ht
theorem wx_th {V : zV} {y c s a b v : Nat} (hc : c < 8) : sAI (wxV V y c s a b) (y + 64 + 1 + c) s (nI v) = wxV V y c s v b := by
  unfold wxV
  rw [sAI_swap (show y + 73 + 1 + c ≠ y + 64 + 1 + c by omega), sAI_sAI]
theorem wx_rf {V : zV} {y c s a b v : Nat} : sAI (wxV V y c s a b) (y + 73 + 1 + c) s (nI v) = wxV V y c s a v := by
  unfold wxV
  rw [sAI_sAI]
theorem wx_gt {V : zV} {y c s a b : Nat} (hc : c < 8) : (wxV V y c s a b).2.2.1 (y + 64 + 1 + c) s = nI a := (sAI_ne (by omega)).trans sAI_eq
theorem wx_gr {V : zV} {y c s a b : Nat} : (wxV V y c s a b).2.2.1 (y + 73 + 1 + c) s = nI b := sAI_eq
theorem SameB.wx {V V' : zV} {y c s a b : Nat} (h : SameB V V' (y + 63) (y + 85)) (hc : c < 8) : SameB V (wxV V' y c s a b) (y + 63) (y + 85) := (h.sAI (by omega) (by omega)).sAI (by omega) (by omega)
theorem c_X8_findWays {l : Launch} {Z : zP} {G : zG} {V : zV} {y : Nat} (hM : ModelAt Z G y) {h : Nat} (hh : h < 8) {N : Nat → Nat} (hR : MH V y h N) (hB : HouseB N) (hN : HOK N) : CT l Z yX8_findWays cX8_findWays 8 none 3 0 0 [.ref y, .int (nI h)] G V (pVx G (fun V' => WaysV V' y N ∧ SameB V V' (y + 63) (y + 85))) := by
  refine CT.of (by decide +kernel) (Nat.le_of_ble_eq_true rfl) (fun X hX cx => ?_)
  subst hX
  show Wm Z X 8 G V 0 0 _ 0 [(0, some (.ref y)), (1, some (.int (nI h)))] []
  have h0 := hM.1
  have b4 := hB.1
  have n125 := st125 b4
  have p2 := two_le b4
  refine x_aload_n (pc := 0) cx (dA ddX8_findWays (i := 0) rfl) rfl ?_
  refine x_iload_n (pc := 1) cx (dA ddX8_findWays (i := 1) rfl) rfl ?_
  refine x_V1 (pc := 2) mX8_98 h0 (c_X8_sorts hM hh hR hB) cx (dA ddX8_findWays (i := 2) rfl) (kI ?_)
  refine x_istore_n (pc := 5) cx (dA ddX8_findWays (i := 3) rfl) (by decide) rfl ?_
  refine x_iconst (pc := 6) (v := nI 0) cx (dA ddX8_findWays (i := 4) rfl) (by decide) ?_
  refine x_istore_n (pc := 7) cx (dA ddX8_findWays (i := 5) rfl) (by decide) rfl ?_
  have L8 : ∀ s, s ≤ 5 ^ N 4 → ∀ V1, wyI V V1 y N s → Wm Z X 8 G V1 0 0 (rQ Z X 0 0 (pVx G (fun V' => WaysV V' y N ∧ SameB V V' (y + 63) (y + 85)))) 8 [(0, some (.ref y)), (1, some (.int (nI h))), (2, some (.int (nI (N 4)))), (3, some (.int (nI s)))] [] := by
    refine lpU (5 ^ N 4) (fun s hs ih => ?_)
    intro V1 hI
    refine x_iload_n (pc := 8) cx (dA ddX8_findWays (i := 6) rfl) rfl ?_
    refine x_aload_n (pc := 9) cx (dA ddX8_findWays (i := 7) rfl) rfl ?_
    refine x_iload_n (pc := 10) cx (dA ddX8_findWays (i := 8) rfl) rfl ?_
    refine x_V1 (pc := 11) mX8_110 h0 (c_X8_states (V := V1) hM hh (hR.same hh hI.1) hB) cx (dA ddX8_findWays (i := 9) rfl) (kI ?_)
    refine x_icmp_ge (pc := 14) (tgt := 61) cx (dA ddX8_findWays (i := 10) rfl) (by decide) (fun c14 => ?_) (fun c14 => ?_)
    · have c14 := cleT (by omega) (by omega) c14
      have es : s = 5 ^ N 4 := by omega
      subst es
      refine x_iconst (pc := 61) (v := nI 0) cx (dA ddX8_findWays (i := 39) rfl) (by decide) ?_
      refine x_istore_n (pc := 62) cx (dA ddX8_findWays (i := 40) rfl) (by decide) rfl ?_
      have L63 : ∀ c, c ≤ 2 ^ N 4 → ∀ V3, wcI V V3 y N c → Wm Z X 8 G V3 0 0 (rQ Z X 0 0 (pVx G (fun V' => WaysV V' y N ∧ SameB V V' (y + 63) (y + 85)))) 63 [(0, some (.ref y)), (1, some (.int (nI h))), (2, some (.int (nI (N 4)))), (3, some (.int (nI c)))] [] := by
        refine lpU (2 ^ N 4) (fun c hc ih2 => ?_)
        intro V3 hC
        refine x_iload_n (pc := 63) cx (dA ddX8_findWays (i := 41) rfl) rfl ?_
        refine x_iconst (pc := 64) (v := nI 1) cx (dA ddX8_findWays (i := 42) rfl) (by decide) ?_
        refine x_iload_n (pc := 65) cx (dA ddX8_findWays (i := 43) rfl) rfl ?_
        refine x_ishl (pc := 66) cx (dA ddX8_findWays (i := 44) rfl) ?_
        rw [shl1 b4]
        refine x_icmp_ge (pc := 67) (tgt := 292) cx (dA ddX8_findWays (i := 45) rfl) (by decide) (fun c67 => ?_) (fun c67 => ?_)
        · have c67 := cleT (by omega) (by omega) c67
          have ec : c = 2 ^ N 4 := by omega
          subst ec
          refine x_return (pc := 292) cx (dA ddX8_findWays (i := 173) rfl) (by first | exact Nat.le_of_ble_eq_true rfl | omega) (by first | exact Nat.le_of_ble_eq_true rfl | omega) ?_
          exact ⟨rfl, rfl, ⟨hC.1.2.1, hC.1.2.2.1, hC.1.2.2.2, hC.2.1, hC.2.2⟩, hC.1.1⟩
        · have c67 := cleF (by omega) (by omega) c67
          have c8 : c < 8 := by omega
          refine x_aload_n (pc := 70) cx (dA ddX8_findWays (i := 46) rfl) rfl ?_
          refine gX8_64 (pc := 71) (rfA hM.2.2.2.2.2.2.2.2.2.2.2.2.2.2.2.2.1.1) cx (dA ddX8_findWays (i := 47) rfl) h0 ?_
          refine x_iload_n (pc := 74) cx (dA ddX8_findWays (i := 48) rfl) rfl ?_
          refine x_lconst (pc := 75) (v := lN 1) cx (dA ddX8_findWays (i := 49) rfl) rfl ?_
          refine x_lastore (pc := 76) cx (dA ddX8_findWays (i := 50) rfl) hM.2.2.2.2.2.2.2.2.2.2.2.2.2.2.2.2.1.2 (by omega) (by decide) ?_
          refine x_iconst (pc := 77) (v := nI 0) cx (dA ddX8_findWays (i := 51) rfl) (by decide) ?_
          refine x_istore (pc := 78) cx (dA ddX8_findWays (i := 52) rfl) (by decide) rfl ?_
          have L80 : ∀ k, k ≤ N 4 → Wm Z X 8 G (sAJ V3 (y + 63) c (lN (wtM N c k))) 0 0 (rQ Z X 0 0 (pVx G (fun V' => WaysV V' y N ∧ SameB V V' (y + 63) (y + 85)))) 80 [(0, some (.ref y)), (1, some (.int (nI h))), (2, some (.int (nI (N 4)))), (3, some (.int (nI c))), (4, some (.int (nI k)))] [] := by
            refine lpU (N 4) (fun k hk ih3 => ?_)
            refine x_iload (pc := 80) cx (dA ddX8_findWays (i := 53) rfl) rfl ?_
            refine x_iload_n (pc := 82) cx (dA ddX8_findWays (i := 54) rfl) rfl ?_
            refine x_icmp_ge (pc := 83) (tgt := 131) cx (dA ddX8_findWays (i := 55) rfl) (by decide) (fun c83 => ?_) (fun c83 => ?_)
            · have c83 := cleT (by omega) (by omega) c83
              have ek : k = N 4 := by omega
              subst ek
              refine x_iconst (pc := 131) (v := nI 0) cx (dA ddX8_findWays (i := 84) rfl) (by decide) ?_
              refine x_istore (pc := 132) cx (dA ddX8_findWays (i := 85) rfl) (by decide) rfl ?_
              have L134 : ∀ s, s ≤ 5 ^ N 4 → ∀ V2, wsJ V V2 y N c s → Wm Z X 8 G V2 0 0 (rQ Z X 0 0 (pVx G (fun V' => WaysV V' y N ∧ SameB V V' (y + 63) (y + 85)))) 134 [(0, some (.ref y)), (1, some (.int (nI h))), (2, some (.int (nI (N 4)))), (3, some (.int (nI c))), (4, some (.int (nI s)))] [] := by
                refine lpU (5 ^ N 4) (fun s hs ih4 => ?_)
                intro V2 hJ
                refine x_iload (pc := 134) cx (dA ddX8_findWays (i := 86) rfl) rfl ?_
                refine x_aload_n (pc := 136) cx (dA ddX8_findWays (i := 87) rfl) rfl ?_
                refine x_iload_n (pc := 137) cx (dA ddX8_findWays (i := 88) rfl) rfl ?_
                refine x_V1 (pc := 138) mX8_110 h0 (c_X8_states (V := V2) hM hh (hR.same hh hJ.1.1.1) hB) cx (dA ddX8_findWays (i := 89) rfl) (kI ?_)
                refine x_icmp_ge (pc := 141) (tgt := 286) cx (dA ddX8_findWays (i := 90) rfl) (by decide) (fun c141 => ?_) (fun c141 => ?_)
                · have c141 := cleT (by omega) (by omega) c141
                  have es : s = 5 ^ N 4 := by omega
                  subst es
                  refine x_iinc (pc := 286) cx (dA ddX8_findWays (i := 171) rfl) rfl (iinc1 _) (by decide) rfl ?_
                  refine x_goto (pc := 289) (tgt := 63) cx (dA ddX8_findWays (i := 172) rfl) (by decide) ?_
                  exact x_enter (ih2 (by omega) _ (wcI_s hJ)) ⟨.inr rfl, .inr rfl, .inr rfl, .inr rfl, trivial⟩
                · have c141 := cleF (by omega) (by omega) c141
                  refine x_aload_n (pc := 144) cx (dA ddX8_findWays (i := 91) rfl) rfl ?_
                  refine gX8_67 (pc := 145) (rfA hM.2.2.2.2.2.2.2.2.2.2.2.2.2.2.2.2.2.1.1) cx (dA ddX8_findWays (i := 92) rfl) h0 ?_
                  refine x_iload_n (pc := 148) cx (dA ddX8_findWays (i := 93) rfl) rfl ?_
                  refine x_aaload (pc := 149) cx (dA ddX8_findWays (i := 94) rfl) hM.2.2.2.2.2.2.2.2.2.2.2.2.2.2.2.2.2.1.2.1 (by decide) (by decide) (by omega) (by decide) ?_
                  rw [arA (hM.2.2.2.2.2.2.2.2.2.2.2.2.2.2.2.2.2.1.2.2 c (by omega)).1]
                  refine x_iload (pc := 150) cx (dA ddX8_findWays (i := 95) rfl) rfl ?_
                  refine x_iload (pc := 152) cx (dA ddX8_findWays (i := 96) rfl) rfl ?_
                  refine x_iastore (pc := 154) cx (dA ddX8_findWays (i := 97) rfl) (hM.2.2.2.2.2.2.2.2.2.2.2.2.2.2.2.2.2.1.2.2 c (by omega)).2 (by omega) (by decide) ?_
                  refine x_aload_n (pc := 155) cx (dA ddX8_findWays (i := 98) rfl) rfl ?_
                  refine gX8_70 (pc := 156) (rfA hM.2.2.2.2.2.2.2.2.2.2.2.2.2.2.2.2.2.2.1.1) cx (dA ddX8_findWays (i := 99) rfl) h0 ?_
                  refine x_iload_n (pc := 159) cx (dA ddX8_findWays (i := 100) rfl) rfl ?_
                  refine x_aaload (pc := 160) cx (dA ddX8_findWays (i := 101) rfl) hM.2.2.2.2.2.2.2.2.2.2.2.2.2.2.2.2.2.2.1.2.1 (by decide) (by decide) (by omega) (by decide) ?_
                  rw [arA (hM.2.2.2.2.2.2.2.2.2.2.2.2.2.2.2.2.2.2.1.2.2 c (by omega)).1]
                  refine x_iload (pc := 161) cx (dA ddX8_findWays (i := 102) rfl) rfl ?_
                  refine x_iconst (pc := 163) (v := nI 0) cx (dA ddX8_findWays (i := 103) rfl) (by decide) ?_
                  refine x_iastore (pc := 164) cx (dA ddX8_findWays (i := 104) rfl) (hM.2.2.2.2.2.2.2.2.2.2.2.2.2.2.2.2.2.2.1.2.2 c (by omega)).2 (by omega) (by decide) ?_
                  refine x_iconst (pc := 165) (v := nI 0) cx (dA ddX8_findWays (i := 105) rfl) (by decide) ?_
                  refine x_istore (pc := 166) cx (dA ddX8_findWays (i := 106) rfl) (by decide) rfl ?_
                  have L168 : ∀ k, k ≤ N 4 → Wm Z X 8 G (wxV V2 y c s (thM c s k) (rfM N c s k)) 0 0 (rQ Z X 0 0 (pVx G (fun V' => WaysV V' y N ∧ SameB V V' (y + 63) (y + 85)))) 168 [(0, some (.ref y)), (1, some (.int (nI h))), (2, some (.int (nI (N 4)))), (3, some (.int (nI c))), (4, some (.int (nI s))), (5, some (.int (nI k)))] [] := by
                    refine lpU (N 4) (fun k hk ih5 => ?_)
                    refine x_iload (pc := 168) cx (dA ddX8_findWays (i := 107) rfl) rfl ?_
                    refine x_iload_n (pc := 170) cx (dA ddX8_findWays (i := 108) rfl) rfl ?_
                    refine x_icmp_ge (pc := 171) (tgt := 280) cx (dA ddX8_findWays (i := 109) rfl) (by decide) (fun c171 => ?_) (fun c171 => ?_)
                    · have c171 := cleT (by omega) (by omega) c171
                      have ek : k = N 4 := by omega
                      subst ek
                      refine x_iinc (pc := 280) cx (dA ddX8_findWays (i := 169) rfl) rfl (iinc1 _) (by decide) rfl ?_
                      refine x_goto (pc := 283) (tgt := 134) cx (dA ddX8_findWays (i := 170) rfl) (by decide) ?_
                      exact x_enter (ih4 (by omega) _ (wsJ_s c8 hJ)) ⟨.inr rfl, .inr rfl, .inr rfl, .inr rfl, .inr rfl, trivial⟩
                    · have c171 := cleF (by omega) (by omega) c171
                      have bd : c / 2 ^ k % 2 < 2 := Nat.mod_lt _ (by decide)
                      have dl := dig_lt s k
                      have r9 := hB.2 (5 + 5 * k + 3) (by omega)
                      have tdf : thM c s (k + 1) = thM c s k + (if btM c k = true ∧ dig s k < 4 then 5 ^ k else 0) := rfl
                      have rdf : rfM N c s (k + 1) = rfM N c s k + (if btM c k = true ∧ ¬ dig s k < 4 then N (5 + 5 * k + 3) else 0) := rfl
                      refine x_iload_n (pc := 174) cx (dA ddX8_findWays (i := 110) rfl) rfl ?_
                      refine x_iload (pc := 175) cx (dA ddX8_findWays (i := 111) rfl) rfl ?_
                      refine x_ishr (pc := 177) cx (dA ddX8_findWays (i := 112) rfl) ?_
                      refine x_iconst (pc := 178) (v := nI 1) cx (dA ddX8_findWays (i := 113) rfl) (by decide) ?_
                      refine x_iand (pc := 179) cx (dA ddX8_findWays (i := 114) rfl) ?_
                      rw [show (nI c >>> (nI k &&& 31)) &&& nI 1 = nI (c / 2 ^ k % 2) from shrA ⟨c, c8⟩ ⟨k, by omega⟩]
                      refine x_if_eq (pc := 180) (tgt := 187) cx (dA ddX8_findWays (i := 115) rfl) (by decide) (fun c180 => ?_) (fun c180 => ?_)
                      · have d0 : c / 2 ^ k % 2 = 0 := nI_inj (b := 0) (by omega) (by decide) c180
                        have bt : ¬ btM c k = true := by unfold btM; rw [d0]; decide
                        have eT : thM c s (k + 1) = thM c s k + 0 := by rw [tdf, if_neg (fun q => bt q.1)]
                        have eR : rfM N c s (k + 1) = rfM N c s k + 0 := by rw [rdf, if_neg (fun q => bt q.1)]
                        refine x_iconst (pc := 187) (v := nI 0) cx (dA ddX8_findWays (i := 118) rfl) (by decide) ?_
                        refine x_istore (pc := 188) cx (dA ddX8_findWays (i := 119) rfl) (by decide) rfl ?_
                        refine x_iload (pc := 190) cx (dA ddX8_findWays (i := 120) rfl) rfl ?_
                        refine x_iload (pc := 192) cx (dA ddX8_findWays (i := 121) rfl) rfl ?_
                        refine x_S2 (pc := 194) mX8_226 (c_X8_ofState (by omega) (by omega)) cx (dA ddX8_findWays (i := 122) rfl) (kI ?_)
                        refine x_iconst (pc := 197) (v := nI 4) cx (dA ddX8_findWays (i := 123) rfl) (by decide) ?_
                        refine x_icmp_ne (pc := 198) (tgt := 205) cx (dA ddX8_findWays (i := 124) rfl) (by decide) (fun c198 => ?_) (fun c198 => ?_)
                        · have c198 := ceqF (by omega) (by omega) c198
                          refine x_iconst (pc := 205) (v := nI 0) cx (dA ddX8_findWays (i := 127) rfl) (by decide) ?_
                          refine x_istore (pc := 206) cx (dA ddX8_findWays (i := 128) rfl) (by decide) rfl ?_
                          refine x_aload_n (pc := 208) cx (dA ddX8_findWays (i := 129) rfl) rfl ?_
                          refine gX8_67 (pc := 209) (rfA hM.2.2.2.2.2.2.2.2.2.2.2.2.2.2.2.2.2.1.1) cx (dA ddX8_findWays (i := 130) rfl) h0 ?_
                          refine x_iload_n (pc := 212) cx (dA ddX8_findWays (i := 131) rfl) rfl ?_
                          refine x_aaload (pc := 213) cx (dA ddX8_findWays (i := 132) rfl) hM.2.2.2.2.2.2.2.2.2.2.2.2.2.2.2.2.2.1.2.1 (by decide) (by decide) (by omega) (by decide) ?_
                          rw [arA (hM.2.2.2.2.2.2.2.2.2.2.2.2.2.2.2.2.2.1.2.2 c (by omega)).1]
                          refine x_iload (pc := 214) cx (dA ddX8_findWays (i := 133) rfl) rfl ?_
                          refine x_dup2 (pc := 216) cx rfl rfl (dA ddX8_findWays (i := 134) rfl) ?_
                          refine x_iaload (pc := 217) cx (dA ddX8_findWays (i := 135) rfl) (hM.2.2.2.2.2.2.2.2.2.2.2.2.2.2.2.2.2.1.2.2 c (by omega)).2 (by omega) (by decide) ?_
                          rw [wx_gt c8]
                          refine x_iload (pc := 218) cx (dA ddX8_findWays (i := 136) rfl) rfl ?_
                          refine x_if_eq (pc := 220) (tgt := 237) cx (dA ddX8_findWays (i := 137) rfl) (by decide) (fun c220 => ?_) (fun c220 => absurd (rfl : nI 0 = 0) c220)
                          refine x_iconst (pc := 237) (v := nI 0) cx (dA ddX8_findWays (i := 144) rfl) (by decide) ?_
                          refine x_iadd (pc := 238) cx (dA ddX8_findWays (i := 145) rfl) ?_
                          rw [nI_add]
                          refine x_iastore (pc := 239) cx (dA ddX8_findWays (i := 146) rfl) (hM.2.2.2.2.2.2.2.2.2.2.2.2.2.2.2.2.2.1.2.2 c (by omega)).2 (by omega) (by decide) ?_
                          rw [wx_th c8]
                          refine x_aload_n (pc := 240) cx (dA ddX8_findWays (i := 147) rfl) rfl ?_
                          refine gX8_70 (pc := 241) (rfA hM.2.2.2.2.2.2.2.2.2.2.2.2.2.2.2.2.2.2.1.1) cx (dA ddX8_findWays (i := 148) rfl) h0 ?_
                          refine x_iload_n (pc := 244) cx (dA ddX8_findWays (i := 149) rfl) rfl ?_
                          refine x_aaload (pc := 245) cx (dA ddX8_findWays (i := 150) rfl) hM.2.2.2.2.2.2.2.2.2.2.2.2.2.2.2.2.2.2.1.2.1 (by decide) (by decide) (by omega) (by decide) ?_
                          rw [arA (hM.2.2.2.2.2.2.2.2.2.2.2.2.2.2.2.2.2.2.1.2.2 c (by omega)).1]
                          refine x_iload (pc := 246) cx (dA ddX8_findWays (i := 151) rfl) rfl ?_
                          refine x_dup2 (pc := 248) cx rfl rfl (dA ddX8_findWays (i := 152) rfl) ?_
                          refine x_iaload (pc := 249) cx (dA ddX8_findWays (i := 153) rfl) (hM.2.2.2.2.2.2.2.2.2.2.2.2.2.2.2.2.2.2.1.2.2 c (by omega)).2 (by omega) (by decide) ?_
                          rw [wx_gr]
                          refine x_iload (pc := 250) cx (dA ddX8_findWays (i := 154) rfl) rfl ?_
                          refine x_if_eq (pc := 252) (tgt := 271) cx (dA ddX8_findWays (i := 155) rfl) (by decide) (fun c252 => ?_) (fun c252 => absurd (rfl : nI 0 = 0) c252)
                          refine x_iconst (pc := 271) (v := nI 0) cx (dA ddX8_findWays (i := 164) rfl) (by decide) ?_
                          refine x_iadd (pc := 272) cx (dA ddX8_findWays (i := 165) rfl) ?_
                          rw [nI_add]
                          refine x_iastore (pc := 273) cx (dA ddX8_findWays (i := 166) rfl) (hM.2.2.2.2.2.2.2.2.2.2.2.2.2.2.2.2.2.2.1.2.2 c (by omega)).2 (by omega) (by decide) ?_
                          rw [wx_rf]
                          refine x_iinc (pc := 274) cx (dA ddX8_findWays (i := 167) rfl) rfl (iinc1 _) (by decide) rfl ?_
                          refine x_goto (pc := 277) (tgt := 168) cx (dA ddX8_findWays (i := 168) rfl) (by decide) ?_
                          have L := ih5 (by omega)
                          rw [eT, eR] at L
                          exact x_enter L ⟨.inr rfl, .inr rfl, .inr rfl, .inr rfl, .inr rfl, .inr rfl, trivial⟩
                        · have c198 := ceqT (by omega) (by omega) c198
                          refine x_iconst (pc := 201) (v := nI 1) cx (dA ddX8_findWays (i := 125) rfl) (by decide) ?_
                          refine x_goto (pc := 202) (tgt := 206) cx (dA ddX8_findWays (i := 126) rfl) (by decide) ?_
                          refine x_istore (pc := 206) cx (dA ddX8_findWays (i := 128) rfl) (by decide) rfl ?_
                          refine x_aload_n (pc := 208) cx (dA ddX8_findWays (i := 129) rfl) rfl ?_
                          refine gX8_67 (pc := 209) (rfA hM.2.2.2.2.2.2.2.2.2.2.2.2.2.2.2.2.2.1.1) cx (dA ddX8_findWays (i := 130) rfl) h0 ?_
                          refine x_iload_n (pc := 212) cx (dA ddX8_findWays (i := 131) rfl) rfl ?_
                          refine x_aaload (pc := 213) cx (dA ddX8_findWays (i := 132) rfl) hM.2.2.2.2.2.2.2.2.2.2.2.2.2.2.2.2.2.1.2.1 (by decide) (by decide) (by omega) (by decide) ?_
                          rw [arA (hM.2.2.2.2.2.2.2.2.2.2.2.2.2.2.2.2.2.1.2.2 c (by omega)).1]
                          refine x_iload (pc := 214) cx (dA ddX8_findWays (i := 133) rfl) rfl ?_
                          refine x_dup2 (pc := 216) cx rfl rfl (dA ddX8_findWays (i := 134) rfl) ?_
                          refine x_iaload (pc := 217) cx (dA ddX8_findWays (i := 135) rfl) (hM.2.2.2.2.2.2.2.2.2.2.2.2.2.2.2.2.2.1.2.2 c (by omega)).2 (by omega) (by decide) ?_
                          rw [wx_gt c8]
                          refine x_iload (pc := 218) cx (dA ddX8_findWays (i := 136) rfl) rfl ?_
                          refine x_if_eq (pc := 220) (tgt := 237) cx (dA ddX8_findWays (i := 137) rfl) (by decide) (fun c220 => ?_) (fun c220 => absurd (rfl : nI 0 = 0) c220)
                          refine x_iconst (pc := 237) (v := nI 0) cx (dA ddX8_findWays (i := 144) rfl) (by decide) ?_
                          refine x_iadd (pc := 238) cx (dA ddX8_findWays (i := 145) rfl) ?_
                          rw [nI_add]
                          refine x_iastore (pc := 239) cx (dA ddX8_findWays (i := 146) rfl) (hM.2.2.2.2.2.2.2.2.2.2.2.2.2.2.2.2.2.1.2.2 c (by omega)).2 (by omega) (by decide) ?_
                          rw [wx_th c8]
                          refine x_aload_n (pc := 240) cx (dA ddX8_findWays (i := 147) rfl) rfl ?_
                          refine gX8_70 (pc := 241) (rfA hM.2.2.2.2.2.2.2.2.2.2.2.2.2.2.2.2.2.2.1.1) cx (dA ddX8_findWays (i := 148) rfl) h0 ?_
                          refine x_iload_n (pc := 244) cx (dA ddX8_findWays (i := 149) rfl) rfl ?_
                          refine x_aaload (pc := 245) cx (dA ddX8_findWays (i := 150) rfl) hM.2.2.2.2.2.2.2.2.2.2.2.2.2.2.2.2.2.2.1.2.1 (by decide) (by decide) (by omega) (by decide) ?_
                          rw [arA (hM.2.2.2.2.2.2.2.2.2.2.2.2.2.2.2.2.2.2.1.2.2 c (by omega)).1]
                          refine x_iload (pc := 246) cx (dA ddX8_findWays (i := 151) rfl) rfl ?_
                          refine x_dup2 (pc := 248) cx rfl rfl (dA ddX8_findWays (i := 152) rfl) ?_
                          refine x_iaload (pc := 249) cx (dA ddX8_findWays (i := 153) rfl) (hM.2.2.2.2.2.2.2.2.2.2.2.2.2.2.2.2.2.2.1.2.2 c (by omega)).2 (by omega) (by decide) ?_
                          rw [wx_gr]
                          refine x_iload (pc := 250) cx (dA ddX8_findWays (i := 154) rfl) rfl ?_
                          refine x_if_eq (pc := 252) (tgt := 271) cx (dA ddX8_findWays (i := 155) rfl) (by decide) (fun c252 => ?_) (fun c252 => absurd (rfl : nI 0 = 0) c252)
                          refine x_iconst (pc := 271) (v := nI 0) cx (dA ddX8_findWays (i := 164) rfl) (by decide) ?_
                          refine x_iadd (pc := 272) cx (dA ddX8_findWays (i := 165) rfl) ?_
                          rw [nI_add]
                          refine x_iastore (pc := 273) cx (dA ddX8_findWays (i := 166) rfl) (hM.2.2.2.2.2.2.2.2.2.2.2.2.2.2.2.2.2.2.1.2.2 c (by omega)).2 (by omega) (by decide) ?_
                          rw [wx_rf]
                          refine x_iinc (pc := 274) cx (dA ddX8_findWays (i := 167) rfl) rfl (iinc1 _) (by decide) rfl ?_
                          refine x_goto (pc := 277) (tgt := 168) cx (dA ddX8_findWays (i := 168) rfl) (by decide) ?_
                          have L := ih5 (by omega)
                          rw [eT, eR] at L
                          exact x_enter L ⟨.inr rfl, .inr rfl, .inr rfl, .inr rfl, .inr rfl, .inr rfl, trivial⟩
                      · have d1 : c / 2 ^ k % 2 = 1 := by
                          have : ¬ c / 2 ^ k % 2 = 0 := fun e => c180 (by rw [e]; rfl)
                          omega
                        have bt : btM c k = true := by unfold btM; rw [d1]; decide
                        refine x_iconst (pc := 183) (v := nI 1) cx (dA ddX8_findWays (i := 116) rfl) (by decide) ?_
                        refine x_goto (pc := 184) (tgt := 188) cx (dA ddX8_findWays (i := 117) rfl) (by decide) ?_
                        refine x_istore (pc := 188) cx (dA ddX8_findWays (i := 119) rfl) (by decide) rfl ?_
                        refine x_iload (pc := 190) cx (dA ddX8_findWays (i := 120) rfl) rfl ?_
                        refine x_iload (pc := 192) cx (dA ddX8_findWays (i := 121) rfl) rfl ?_
                        refine x_S2 (pc := 194) mX8_226 (c_X8_ofState (by omega) (by omega)) cx (dA ddX8_findWays (i := 122) rfl) (kI ?_)
                        refine x_iconst (pc := 197) (v := nI 4) cx (dA ddX8_findWays (i := 123) rfl) (by decide) ?_
                        refine x_icmp_ne (pc := 198) (tgt := 205) cx (dA ddX8_findWays (i := 124) rfl) (by decide) (fun c198 => ?_) (fun c198 => ?_)
                        · have c198 := ceqF (by omega) (by omega) c198
                          have d4 : dig s k < 4 := by omega
                          have eT : thM c s (k + 1) = thM c s k + 5 ^ k := by rw [tdf, if_pos ⟨bt, d4⟩]
                          have eR : rfM N c s (k + 1) = rfM N c s k + 0 := by rw [rdf, if_neg (fun q => q.2 d4)]
                          refine x_iconst (pc := 205) (v := nI 0) cx (dA ddX8_findWays (i := 127) rfl) (by decide) ?_
                          refine x_istore (pc := 206) cx (dA ddX8_findWays (i := 128) rfl) (by decide) rfl ?_
                          refine x_aload_n (pc := 208) cx (dA ddX8_findWays (i := 129) rfl) rfl ?_
                          refine gX8_67 (pc := 209) (rfA hM.2.2.2.2.2.2.2.2.2.2.2.2.2.2.2.2.2.1.1) cx (dA ddX8_findWays (i := 130) rfl) h0 ?_
                          refine x_iload_n (pc := 212) cx (dA ddX8_findWays (i := 131) rfl) rfl ?_
                          refine x_aaload (pc := 213) cx (dA ddX8_findWays (i := 132) rfl) hM.2.2.2.2.2.2.2.2.2.2.2.2.2.2.2.2.2.1.2.1 (by decide) (by decide) (by omega) (by decide) ?_
                          rw [arA (hM.2.2.2.2.2.2.2.2.2.2.2.2.2.2.2.2.2.1.2.2 c (by omega)).1]
                          refine x_iload (pc := 214) cx (dA ddX8_findWays (i := 133) rfl) rfl ?_
                          refine x_dup2 (pc := 216) cx rfl rfl (dA ddX8_findWays (i := 134) rfl) ?_
                          refine x_iaload (pc := 217) cx (dA ddX8_findWays (i := 135) rfl) (hM.2.2.2.2.2.2.2.2.2.2.2.2.2.2.2.2.2.1.2.2 c (by omega)).2 (by omega) (by decide) ?_
                          rw [wx_gt c8]
                          refine x_iload (pc := 218) cx (dA ddX8_findWays (i := 136) rfl) rfl ?_
                          refine x_if_eq (pc := 220) (tgt := 237) cx (dA ddX8_findWays (i := 137) rfl) (by decide) (fun c220 => absurd c220 (show ¬ nI 1 = 0 by decide)) (fun c220 => ?_)
                          refine x_iload (pc := 223) cx (dA ddX8_findWays (i := 138) rfl) rfl ?_
                          refine x_if_ne (pc := 225) (tgt := 237) cx (dA ddX8_findWays (i := 139) rfl) (by decide) (fun c225 => absurd (rfl : nI 0 = 0) c225) (fun c225 => ?_)
                          refine x_iconst (pc := 228) (v := nI 5) cx (dA ddX8_findWays (i := 140) rfl) (by decide) ?_
                          refine x_iload (pc := 229) cx (dA ddX8_findWays (i := 141) rfl) rfl ?_
                          refine x_S2 (pc := 231) mX8_102 (c_X8_power (by omega)) cx (dA ddX8_findWays (i := 142) rfl) (kI ?_)
                          refine x_goto (pc := 234) (tgt := 238) cx (dA ddX8_findWays (i := 143) rfl) (by decide) ?_
                          refine x_iadd (pc := 238) cx (dA ddX8_findWays (i := 145) rfl) ?_
                          rw [nI_add]
                          refine x_iastore (pc := 239) cx (dA ddX8_findWays (i := 146) rfl) (hM.2.2.2.2.2.2.2.2.2.2.2.2.2.2.2.2.2.1.2.2 c (by omega)).2 (by omega) (by decide) ?_
                          rw [wx_th c8]
                          refine x_aload_n (pc := 240) cx (dA ddX8_findWays (i := 147) rfl) rfl ?_
                          refine gX8_70 (pc := 241) (rfA hM.2.2.2.2.2.2.2.2.2.2.2.2.2.2.2.2.2.2.1.1) cx (dA ddX8_findWays (i := 148) rfl) h0 ?_
                          refine x_iload_n (pc := 244) cx (dA ddX8_findWays (i := 149) rfl) rfl ?_
                          refine x_aaload (pc := 245) cx (dA ddX8_findWays (i := 150) rfl) hM.2.2.2.2.2.2.2.2.2.2.2.2.2.2.2.2.2.2.1.2.1 (by decide) (by decide) (by omega) (by decide) ?_
                          rw [arA (hM.2.2.2.2.2.2.2.2.2.2.2.2.2.2.2.2.2.2.1.2.2 c (by omega)).1]
                          refine x_iload (pc := 246) cx (dA ddX8_findWays (i := 151) rfl) rfl ?_
                          refine x_dup2 (pc := 248) cx rfl rfl (dA ddX8_findWays (i := 152) rfl) ?_
                          refine x_iaload (pc := 249) cx (dA ddX8_findWays (i := 153) rfl) (hM.2.2.2.2.2.2.2.2.2.2.2.2.2.2.2.2.2.2.1.2.2 c (by omega)).2 (by omega) (by decide) ?_
                          rw [wx_gr]
                          refine x_iload (pc := 250) cx (dA ddX8_findWays (i := 154) rfl) rfl ?_
                          refine x_if_eq (pc := 252) (tgt := 271) cx (dA ddX8_findWays (i := 155) rfl) (by decide) (fun c252 => absurd c252 (show ¬ nI 1 = 0 by decide)) (fun c252 => ?_)
                          refine x_iload (pc := 255) cx (dA ddX8_findWays (i := 156) rfl) rfl ?_
                          refine x_if_eq (pc := 257) (tgt := 271) cx (dA ddX8_findWays (i := 157) rfl) (by decide) (fun c257 => ?_) (fun c257 => absurd (rfl : nI 0 = 0) c257)
                          refine x_iconst (pc := 271) (v := nI 0) cx (dA ddX8_findWays (i := 164) rfl) (by decide) ?_
                          refine x_iadd (pc := 272) cx (dA ddX8_findWays (i := 165) rfl) ?_
                          rw [nI_add]
                          refine x_iastore (pc := 273) cx (dA ddX8_findWays (i := 166) rfl) (hM.2.2.2.2.2.2.2.2.2.2.2.2.2.2.2.2.2.2.1.2.2 c (by omega)).2 (by omega) (by decide) ?_
                          rw [wx_rf]
                          refine x_iinc (pc := 274) cx (dA ddX8_findWays (i := 167) rfl) rfl (iinc1 _) (by decide) rfl ?_
                          refine x_goto (pc := 277) (tgt := 168) cx (dA ddX8_findWays (i := 168) rfl) (by decide) ?_
                          have L := ih5 (by omega)
                          rw [eT, eR] at L
                          exact x_enter L ⟨.inr rfl, .inr rfl, .inr rfl, .inr rfl, .inr rfl, .inr rfl, trivial⟩
                        · have c198 := ceqT (by omega) (by omega) c198
                          have d4 : ¬ dig s k < 4 := by omega
                          have eT : thM c s (k + 1) = thM c s k + 0 := by rw [tdf, if_neg (fun q => d4 q.2)]
                          have eR : rfM N c s (k + 1) = rfM N c s k + N (5 + 5 * k + 3) := by rw [rdf, if_pos ⟨bt, d4⟩]
                          refine x_iconst (pc := 201) (v := nI 1) cx (dA ddX8_findWays (i := 125) rfl) (by decide) ?_
                          refine x_goto (pc := 202) (tgt := 206) cx (dA ddX8_findWays (i := 126) rfl) (by decide) ?_
                          refine x_istore (pc := 206) cx (dA ddX8_findWays (i := 128) rfl) (by decide) rfl ?_
                          refine x_aload_n (pc := 208) cx (dA ddX8_findWays (i := 129) rfl) rfl ?_
                          refine gX8_67 (pc := 209) (rfA hM.2.2.2.2.2.2.2.2.2.2.2.2.2.2.2.2.2.1.1) cx (dA ddX8_findWays (i := 130) rfl) h0 ?_
                          refine x_iload_n (pc := 212) cx (dA ddX8_findWays (i := 131) rfl) rfl ?_
                          refine x_aaload (pc := 213) cx (dA ddX8_findWays (i := 132) rfl) hM.2.2.2.2.2.2.2.2.2.2.2.2.2.2.2.2.2.1.2.1 (by decide) (by decide) (by omega) (by decide) ?_
                          rw [arA (hM.2.2.2.2.2.2.2.2.2.2.2.2.2.2.2.2.2.1.2.2 c (by omega)).1]
                          refine x_iload (pc := 214) cx (dA ddX8_findWays (i := 133) rfl) rfl ?_
                          refine x_dup2 (pc := 216) cx rfl rfl (dA ddX8_findWays (i := 134) rfl) ?_
                          refine x_iaload (pc := 217) cx (dA ddX8_findWays (i := 135) rfl) (hM.2.2.2.2.2.2.2.2.2.2.2.2.2.2.2.2.2.1.2.2 c (by omega)).2 (by omega) (by decide) ?_
                          rw [wx_gt c8]
                          refine x_iload (pc := 218) cx (dA ddX8_findWays (i := 136) rfl) rfl ?_
                          refine x_if_eq (pc := 220) (tgt := 237) cx (dA ddX8_findWays (i := 137) rfl) (by decide) (fun c220 => absurd c220 (show ¬ nI 1 = 0 by decide)) (fun c220 => ?_)
                          refine x_iload (pc := 223) cx (dA ddX8_findWays (i := 138) rfl) rfl ?_
                          refine x_if_ne (pc := 225) (tgt := 237) cx (dA ddX8_findWays (i := 139) rfl) (by decide) (fun c225 => ?_) (fun c225 => absurd c225 (show ¬ nI 1 = 0 by decide))
                          refine x_iconst (pc := 237) (v := nI 0) cx (dA ddX8_findWays (i := 144) rfl) (by decide) ?_
                          refine x_iadd (pc := 238) cx (dA ddX8_findWays (i := 145) rfl) ?_
                          rw [nI_add]
                          refine x_iastore (pc := 239) cx (dA ddX8_findWays (i := 146) rfl) (hM.2.2.2.2.2.2.2.2.2.2.2.2.2.2.2.2.2.1.2.2 c (by omega)).2 (by omega) (by decide) ?_
                          rw [wx_th c8]
                          refine x_aload_n (pc := 240) cx (dA ddX8_findWays (i := 147) rfl) rfl ?_
                          refine gX8_70 (pc := 241) (rfA hM.2.2.2.2.2.2.2.2.2.2.2.2.2.2.2.2.2.2.1.1) cx (dA ddX8_findWays (i := 148) rfl) h0 ?_
                          refine x_iload_n (pc := 244) cx (dA ddX8_findWays (i := 149) rfl) rfl ?_
                          refine x_aaload (pc := 245) cx (dA ddX8_findWays (i := 150) rfl) hM.2.2.2.2.2.2.2.2.2.2.2.2.2.2.2.2.2.2.1.2.1 (by decide) (by decide) (by omega) (by decide) ?_
                          rw [arA (hM.2.2.2.2.2.2.2.2.2.2.2.2.2.2.2.2.2.2.1.2.2 c (by omega)).1]
                          refine x_iload (pc := 246) cx (dA ddX8_findWays (i := 151) rfl) rfl ?_
                          refine x_dup2 (pc := 248) cx rfl rfl (dA ddX8_findWays (i := 152) rfl) ?_
                          refine x_iaload (pc := 249) cx (dA ddX8_findWays (i := 153) rfl) (hM.2.2.2.2.2.2.2.2.2.2.2.2.2.2.2.2.2.2.1.2.2 c (by omega)).2 (by omega) (by decide) ?_
                          rw [wx_gr]
                          refine x_iload (pc := 250) cx (dA ddX8_findWays (i := 154) rfl) rfl ?_
                          refine x_if_eq (pc := 252) (tgt := 271) cx (dA ddX8_findWays (i := 155) rfl) (by decide) (fun c252 => absurd c252 (show ¬ nI 1 = 0 by decide)) (fun c252 => ?_)
                          refine x_iload (pc := 255) cx (dA ddX8_findWays (i := 156) rfl) rfl ?_
                          refine x_if_eq (pc := 257) (tgt := 271) cx (dA ddX8_findWays (i := 157) rfl) (by decide) (fun c257 => absurd c257 (show ¬ nI 1 = 0 by decide)) (fun c257 => ?_)
                          refine x_aload_n (pc := 260) cx (dA ddX8_findWays (i := 158) rfl) rfl ?_
                          refine x_iload_n (pc := 261) cx (dA ddX8_findWays (i := 159) rfl) rfl ?_
                          refine x_iload (pc := 262) cx (dA ddX8_findWays (i := 160) rfl) rfl ?_
                          refine x_iconst (pc := 264) (v := nI 3) cx (dA ddX8_findWays (i := 161) rfl) (by decide) ?_
                          refine x_V3 (pc := 265) mX8_229 h0 (c_X8_numberOf (V := wxV V2 y c s (thM c s k + 0) (rfM N c s k)) hM hh (hR.same hh (SameB.wx hJ.1.1.1 c8)) hB (k := k) (w := 3) c171 (by omega)) cx (dA ddX8_findWays (i := 162) rfl) (kI ?_)
                          refine x_goto (pc := 268) (tgt := 272) cx (dA ddX8_findWays (i := 163) rfl) (by decide) ?_
                          refine x_iadd (pc := 272) cx (dA ddX8_findWays (i := 165) rfl) ?_
                          rw [nI_add]
                          refine x_iastore (pc := 273) cx (dA ddX8_findWays (i := 166) rfl) (hM.2.2.2.2.2.2.2.2.2.2.2.2.2.2.2.2.2.2.1.2.2 c (by omega)).2 (by omega) (by decide) ?_
                          rw [wx_rf]
                          refine x_iinc (pc := 274) cx (dA ddX8_findWays (i := 167) rfl) rfl (iinc1 _) (by decide) rfl ?_
                          refine x_goto (pc := 277) (tgt := 168) cx (dA ddX8_findWays (i := 168) rfl) (by decide) ?_
                          have L := ih5 (by omega)
                          rw [eT, eR] at L
                          exact x_enter L ⟨.inr rfl, .inr rfl, .inr rfl, .inr rfl, .inr rfl, .inr rfl, trivial⟩
                  exact x_enter (L168 0 (Nat.zero_le _)) ⟨.inr rfl, .inr rfl, .inr rfl, .inr rfl, .inr rfl, .inr rfl, trivial⟩
              exact x_enter (L134 0 (Nat.zero_le _) _ (wsJ_0 hC)) ⟨.inr rfl, .inr rfl, .inr rfl, .inr rfl, .inr rfl, trivial⟩
            · have c83 := cleF (by omega) (by omega) c83
              have bq := hB.2 (5 + 5 * k + 1) (by omega)
              have c4 : N (5 + 5 * k + 1) ≤ 4 := (hN.2.2.2.2 k c83 1 (by omega)).2
              have bd : c / 2 ^ k % 2 < 2 := Nat.mod_lt _ (by decide)
              refine x_aload_n (pc := 86) cx (dA ddX8_findWays (i := 56) rfl) rfl ?_
              refine x_iload_n (pc := 87) cx (dA ddX8_findWays (i := 57) rfl) rfl ?_
              refine x_iload (pc := 88) cx (dA ddX8_findWays (i := 58) rfl) rfl ?_
              refine x_iconst (pc := 90) (v := nI 1) cx (dA ddX8_findWays (i := 59) rfl) (by decide) ?_
              refine x_V3 (pc := 91) mX8_229 h0 (c_X8_numberOf (V := (sAJ V3 (y + 63) c (lN (wtM N c k)))) hM hh (hR.same hh (hC.1.1.sAJ (a := y + 63) (i := c) (v := lN (wtM N c k)) (by omega) (by omega))) hB (k := k) (w := 1) c83 (by omega)) cx (dA ddX8_findWays (i := 60) rfl) (kI ?_)
              refine x_istore (pc := 94) cx (dA ddX8_findWays (i := 61) rfl) (by decide) rfl ?_
              refine x_aload_n (pc := 96) cx (dA ddX8_findWays (i := 62) rfl) rfl ?_
              refine gX8_64 (pc := 97) (rfA hM.2.2.2.2.2.2.2.2.2.2.2.2.2.2.2.2.1.1) cx (dA ddX8_findWays (i := 63) rfl) h0 ?_
              refine x_iload_n (pc := 100) cx (dA ddX8_findWays (i := 64) rfl) rfl ?_
              refine x_dup2 (pc := 101) cx rfl rfl (dA ddX8_findWays (i := 65) rfl) ?_
              refine x_laload (pc := 102) cx (dA ddX8_findWays (i := 66) rfl) hM.2.2.2.2.2.2.2.2.2.2.2.2.2.2.2.2.1.2 (by omega) (by decide) ?_
              rw [sAJ_eq]
              refine x_iload_n (pc := 103) cx (dA ddX8_findWays (i := 67) rfl) rfl ?_
              refine x_iload (pc := 104) cx (dA ddX8_findWays (i := 68) rfl) rfl ?_
              refine x_ishr (pc := 106) cx (dA ddX8_findWays (i := 69) rfl) ?_
              refine x_iconst (pc := 107) (v := nI 1) cx (dA ddX8_findWays (i := 70) rfl) (by decide) ?_
              refine x_iand (pc := 108) cx (dA ddX8_findWays (i := 71) rfl) ?_
              rw [show (nI c >>> (nI k &&& 31)) &&& nI 1 = nI (c / 2 ^ k % 2) from shrA ⟨c, c8⟩ ⟨k, by omega⟩]
              refine x_if_eq (pc := 109) (tgt := 118) cx (dA ddX8_findWays (i := 72) rfl) (by decide) (fun c109 => ?_) (fun c109 => ?_)
              · have d0 : c / 2 ^ k % 2 = 0 := nI_inj (b := 0) (by omega) (by decide) c109
                have ew : wtM N c (k + 1) = wtM N c k * (4 - N (5 + 5 * k + 1)) := by show wtM N c k * (if btM c k = true then _ else _) = _; rw [if_neg (by unfold btM; rw [d0]; decide)]
                refine x_iconst (pc := 118) (v := nI 4) cx (dA ddX8_findWays (i := 76) rfl) (by decide) ?_
                refine x_iload (pc := 119) cx (dA ddX8_findWays (i := 77) rfl) rfl ?_
                refine x_isub (pc := 121) cx (dA ddX8_findWays (i := 78) rfl) ?_
                rw [pk_sub c4]
                refine x_i2l (pc := 122) cx (dA ddX8_findWays (i := 79) rfl) ?_
                rw [nI_l (by omega)]
                refine x_lmul (pc := 123) cx (dA ddX8_findWays (i := 80) rfl) ?_
                rw [lN_mul, ← ew]
                refine x_lastore (pc := 124) cx (dA ddX8_findWays (i := 81) rfl) hM.2.2.2.2.2.2.2.2.2.2.2.2.2.2.2.2.1.2 (by omega) (by decide) ?_
                rw [sAJ_sAJ]
                refine x_iinc (pc := 125) cx (dA ddX8_findWays (i := 82) rfl) rfl (iinc1 _) (by decide) rfl ?_
                refine x_goto (pc := 128) (tgt := 80) cx (dA ddX8_findWays (i := 83) rfl) (by decide) ?_
                exact x_enter (ih3 (by omega)) ⟨.inr rfl, .inr rfl, .inr rfl, .inr rfl, .inr rfl, trivial⟩
              · have d1 : c / 2 ^ k % 2 = 1 := by
                  have : ¬ c / 2 ^ k % 2 = 0 := fun e => c109 (by rw [e]; rfl)
                  omega
                have ew : wtM N c (k + 1) = wtM N c k * N (5 + 5 * k + 1) := by show wtM N c k * (if btM c k = true then _ else _) = _; rw [if_pos (by unfold btM; rw [d1]; decide)]
                refine x_iload (pc := 112) cx (dA ddX8_findWays (i := 73) rfl) rfl ?_
                refine x_i2l (pc := 114) cx (dA ddX8_findWays (i := 74) rfl) ?_
                rw [nI_l (by omega)]
                refine x_goto (pc := 115) (tgt := 123) cx (dA ddX8_findWays (i := 75) rfl) (by decide) ?_
                refine x_lmul (pc := 123) cx (dA ddX8_findWays (i := 80) rfl) ?_
                rw [lN_mul, ← ew]
                refine x_lastore (pc := 124) cx (dA ddX8_findWays (i := 81) rfl) hM.2.2.2.2.2.2.2.2.2.2.2.2.2.2.2.2.1.2 (by omega) (by decide) ?_
                rw [sAJ_sAJ]
                refine x_iinc (pc := 125) cx (dA ddX8_findWays (i := 82) rfl) rfl (iinc1 _) (by decide) rfl ?_
                refine x_goto (pc := 128) (tgt := 80) cx (dA ddX8_findWays (i := 83) rfl) (by decide) ?_
                exact x_enter (ih3 (by omega)) ⟨.inr rfl, .inr rfl, .inr rfl, .inr rfl, .inr rfl, trivial⟩
          exact x_enter (L80 0 (Nat.zero_le _)) ⟨.inr rfl, .inr rfl, .inr rfl, .inr rfl, .inr rfl, trivial⟩
      exact x_enter (L63 0 (Nat.zero_le _) V1 ⟨hI, fun e he => absurd he (Nat.not_lt_zero _), fun e he => absurd he (Nat.not_lt_zero _)⟩) ⟨.inr rfl, .inr rfl, .inr rfl, .inr rfl, trivial⟩
    · have c14 := cleF (by omega) (by omega) c14
      refine x_aload_n (pc := 17) cx (dA ddX8_findWays (i := 11) rfl) rfl ?_
      refine gX8_73 (pc := 18) (rfA hM.2.2.2.2.2.2.2.2.2.2.2.2.2.2.2.2.2.2.2.1.1) cx (dA ddX8_findWays (i := 12) rfl) h0 ?_
      refine x_iload_n (pc := 21) cx (dA ddX8_findWays (i := 13) rfl) rfl ?_
      refine x_aload_n (pc := 22) cx (dA ddX8_findWays (i := 14) rfl) rfl ?_
      refine x_iload_n (pc := 23) cx (dA ddX8_findWays (i := 15) rfl) rfl ?_
      refine x_iload_n (pc := 24) cx (dA ddX8_findWays (i := 16) rfl) rfl ?_
      refine x_V2 (pc := 25) mX8_246 h0 (c_X8_fillOf (V := V1) hM hh (hR.same hh hI.1) hB hN (by omega)) cx (dA ddX8_findWays (i := 17) rfl) (kI ?_)
      refine x_iastore (pc := 28) cx (dA ddX8_findWays (i := 18) rfl) hM.2.2.2.2.2.2.2.2.2.2.2.2.2.2.2.2.2.2.2.1.2 (by omega) (by decide) ?_
      refine x_aload_n (pc := 29) cx (dA ddX8_findWays (i := 19) rfl) rfl ?_
      refine gX8_76 (pc := 30) (rfA hM.2.2.2.2.2.2.2.2.2.2.2.2.2.2.2.2.2.2.2.2.1.1) cx (dA ddX8_findWays (i := 20) rfl) h0 ?_
      refine x_iload_n (pc := 33) cx (dA ddX8_findWays (i := 21) rfl) rfl ?_
      refine x_aload_n (pc := 34) cx (dA ddX8_findWays (i := 22) rfl) rfl ?_
      refine x_iload_n (pc := 35) cx (dA ddX8_findWays (i := 23) rfl) rfl ?_
      refine x_iload_n (pc := 36) cx (dA ddX8_findWays (i := 24) rfl) rfl ?_
      refine x_iconst (pc := 37) (v := nI 0) cx (dA ddX8_findWays (i := 25) rfl) (by decide) ?_
      refine x_V3 (pc := 38) mX8_236 h0 (c_X8_sum hM hh (hR.same hh (hI.1.sAI (a := y + 82) (i := s) (v := nI (fillP N s)) (by omega) (by omega))) hB (s := s) (w := 0) (by omega) (by omega)) cx (dA ddX8_findWays (i := 26) rfl) (kI ?_)
      refine x_iastore (pc := 41) cx (dA ddX8_findWays (i := 27) rfl) hM.2.2.2.2.2.2.2.2.2.2.2.2.2.2.2.2.2.2.2.2.1.2 (by omega) (by decide) ?_
      refine x_aload_n (pc := 42) cx (dA ddX8_findWays (i := 28) rfl) rfl ?_
      refine gX8_79 (pc := 43) (rfA hM.2.2.2.2.2.2.2.2.2.2.2.2.2.2.2.2.2.2.2.2.2.1.1) cx (dA ddX8_findWays (i := 29) rfl) h0 ?_
      refine x_iload_n (pc := 46) cx (dA ddX8_findWays (i := 30) rfl) rfl ?_
      refine x_aload_n (pc := 47) cx (dA ddX8_findWays (i := 31) rfl) rfl ?_
      refine x_iload_n (pc := 48) cx (dA ddX8_findWays (i := 32) rfl) rfl ?_
      refine x_iload_n (pc := 49) cx (dA ddX8_findWays (i := 33) rfl) rfl ?_
      refine x_iconst (pc := 50) (v := nI 2) cx (dA ddX8_findWays (i := 34) rfl) (by decide) ?_
      refine x_V3 (pc := 51) mX8_236 h0 (c_X8_sum hM hh (hR.same hh ((hI.1.sAI (a := y + 82) (i := s) (v := nI (fillP N s)) (by omega) (by omega)).sAI (a := y + 83) (i := s) (v := nI (sumP N s 0)) (by omega) (by omega))) hB (s := s) (w := 2) (by omega) (by omega)) cx (dA ddX8_findWays (i := 35) rfl) (kI ?_)
      refine x_iastore (pc := 54) cx (dA ddX8_findWays (i := 36) rfl) hM.2.2.2.2.2.2.2.2.2.2.2.2.2.2.2.2.2.2.2.2.2.1.2 (by omega) (by decide) ?_
      refine x_iinc (pc := 55) cx (dA ddX8_findWays (i := 37) rfl) rfl (iinc1 _) (by decide) rfl ?_
      refine x_goto (pc := 58) (tgt := 8) cx (dA ddX8_findWays (i := 38) rfl) (by decide) ?_
      exact x_enter (ih (by omega) _ (wyI_s hI)) ⟨.inr rfl, .inr rfl, .inr rfl, .inr rfl, trivial⟩
  exact x_enter (L8 0 (Nat.zero_le _) V ⟨SameB.refl _ _ _, fun t ht => absurd ht (Nat.not_lt_zero _), fun t ht => absurd ht (Nat.not_lt_zero _), fun t ht => absurd ht (Nat.not_lt_zero _)⟩) ⟨.inr rfl, .inr rfl, .inr rfl, .inr rfl, trivial⟩
