/-- least costs and loads with a load that must be with mu days left -/
def mcM (N : Nat → Nat) (mu : Nat) : Nat → Nat → Nat
  | 0 => fun s => sumP N s 4
  | d + 1 => bstP N (d + 1) (decide (d + 1 = mu)) (swD N (d + 1) (mcM N mu d))
def maM (N : Nat → Nat) (mu d : Nat) : Nat → Nat := swD N d (mcM N mu (d - 1))
def mlM (N : Nat → Nat) (mu d s : Nat) : Nat := if d = 0 then 0 else pickP N (boxP N d) (maM N mu d) (decide (d = mu)) s
theorem mcM_bd {N : Nat → Nat} (hN : HOK N) {mu : Nat} : ∀ d s, s < 5 ^ N 4 → mcM N mu d s ≤ sclP N d * (1188 + 504 * d)
  | 0, s, _ => leav_le hN
  | d + 1, s, hs => by
    have h := (day_bd hN (d := d + 1) (C := 1188 + 504 * d) (by omega) (f := mcM N mu d) (mcM_bd hN d)).2.2 s (pickP N (boxP N (d + 1)) (swD N (d + 1) (mcM N mu d)) (decide (d + 1 = mu)) s) hs
    rw [show 1188 + 504 * (d + 1) = 1188 + 504 * d + 504 by omega]
    exact h
theorem MH.same39 {V V' : zV} {y h : Nat} {N : Nat → Nat} (hR : MH V y h N) (hh : h < 8) (hs : SameB V V' (y + 39) (y + 86)) : MH V' y h N := fun j hj => ((hs _ (by omega)).2.2.1 j).trans (hR j hj)
theorem WaysV.same {V V' : zV} {y : Nat} {N : Nat → Nat} (h4 : N 4 ≤ 3) (hW : WaysV V y N) (hs : ∀ x, y + 63 ≤ x → x < y + 85 → same4 V V' x) : WaysV V' y N := by
  have p2 := two_le h4
  obtain ⟨a, b, c, d, e⟩ := hW
  exact ⟨fun s h => ((hs _ (by omega) (by omega)).2.2.1 s).trans (a s h), fun s h => ((hs _ (by omega) (by omega)).2.2.1 s).trans (b s h), fun s h => ((hs _ (by omega) (by omega)).2.2.1 s).trans (c s h), fun k h => ((hs _ (by omega) (by omega)).2.2.2 k).trans (d k h), fun k h s hs2 => ⟨((hs _ (by omega) (by omega)).2.2.1 s).trans (e k h s hs2).1, ((hs _ (by omega) (by omega)).2.2.1 s).trans (e k h s hs2).2⟩⟩
/-- days below D are found -/
def fbI (V V1 : zV) (y : Nat) (N : Nat → Nat) (mu D : Nat) : Prop := SameB V V1 (y + 39) (y + 86) ∧ WaysV V1 y N ∧ ∀ d, d < D → ∀ s, s < 5 ^ N 4 → V1.2.2.2 (y + 39 + 1 + d) s = lN (mcM N mu d s) ∧ V1.2.2.1 (y + 47 + 1 + d) s = nI (mlM N mu d s)
/-- .. and s states of the day D -/
def fbJ (V V1 : zV) (y : Nat) (N : Nat → Nat) (mu D s : Nat) : Prop := fbI V V1 y N mu D ∧ ∀ t, t < s → V1.2.2.2 (y + 39 + 1 + D) t = lN (mcM N mu D t) ∧ V1.2.2.1 (y + 47 + 1 + D) t = nI (mlM N mu D t)
theorem fb_same {V1 : zV} {y D s x : Nat} {v : Int64} {w : Int32} (h1 : x ≠ y + 39 + 1 + D) (h2 : x ≠ y + 47 + 1 + D) : same4 V1 (sAI (sAJ V1 (y + 39 + 1 + D) s v) (y + 47 + 1 + D) s w) x := ((same4.refl V1 x).sAJ h1).sAI h2
theorem fbJ_s {V V1 : zV} {y mu D s : Nat} {N : Nat → Nat} (h4 : N 4 ≤ 3) (hD : D < 7) (h : fbJ V V1 y N mu D s) : fbJ V (sAI (sAJ V1 (y + 39 + 1 + D) s (lN (mcM N mu D s))) (y + 47 + 1 + D) s (nI (mlM N mu D s))) y N mu D (s + 1) := by
  obtain ⟨⟨a, b, c⟩, d⟩ := h
  refine ⟨⟨(a.sAJ (by omega) (by omega)).sAI (by omega) (by omega), b.same h4 (fun x h1 h2 => fb_same (by omega) (by omega)), fun e he t ht => ?_⟩, fun t ht => ?_⟩
  · have q1 := (fb_same (V1 := V1) (y := y) (D := D) (s := s) (x := y + 39 + 1 + e) (v := lN (mcM N mu D s)) (w := nI (mlM N mu D s)) (by omega) (by omega)).2.2.2 t
    have q2 := (fb_same (V1 := V1) (y := y) (D := D) (s := s) (x := y + 47 + 1 + e) (v := lN (mcM N mu D s)) (w := nI (mlM N mu D s)) (by omega) (by omega)).2.2.1 t
    exact ⟨q1.trans (c e he t ht).1, q2.trans (c e he t ht).2⟩
  · by_cases q : t = s
    · subst q
      exact ⟨sAJ_eq, sAI_eq⟩
    · exact ⟨(sAJ_nj q).trans (d t (by omega)).1, (sAI_nj q).trans (d t (by omega)).2⟩
theorem fbI_s {V V1 : zV} {y mu D : Nat} {N : Nat → Nat} (h : fbJ V V1 y N mu D (5 ^ N 4)) : fbI V V1 y N mu (D + 1) := by
  obtain ⟨⟨a, b, c⟩, d⟩ := h
  refine ⟨a, b, fun e he t ht => ?_⟩
  by_cases q : e = D
  · subst q; exact d t ht
  · exact c e (by omega) t ht
def wtJ (V : zV) (y s : Nat) (f : Nat → Nat) : zV := rAJ V (y + 85) 0 s (fun t => lN (f t))
theorem wt_same {V1 : zV} {y s x : Nat} {f : Nat → Nat} (h : x ≠ y + 85) : same4 V1 (wtJ V1 y s f) x := (same4.refl V1 x).rAJ h
theorem fbI_w {V V1 : zV} {y mu D s : Nat} {N f : Nat → Nat} (h4 : N 4 ≤ 3) (hD : D ≤ 7) (h : fbI V V1 y N mu D) : fbI V (wtJ V1 y s f) y N mu D := by
  obtain ⟨a, b, c⟩ := h
  exact ⟨a.rAJ (by omega) (by omega), b.same h4 (fun x h1 h2 => wt_same (by omega)), fun e he t ht => ⟨((wt_same (by omega)).2.2.2 t).trans (c e he t ht).1, ((wt_same (by omega)).2.2.1 t).trans (c e he t ht).2⟩⟩
theorem mdA_ok {N : Nat → Nat} {box : Nat} {f : Nat → Nat} {must : Bool} {s : Nat} (hf : ∀ t, t ≤ s → f t < 2 ^ 62) (hb : box < 2 ^ 62) : ∀ i, i ≤ s → pkOK s (mdA N box f must s i)
  | 0, _ => ⟨Nat.zero_le _, Nat.lt_trans (hf s (Nat.le_refl _)) (by decide)⟩
  | i + 1, h => by
    unfold mdA
    split
    · exact pkS_ok hf hb h (mdA_ok hf hb i (by omega))
    · exact mdA_ok hf hb i (by omega)
theorem mdA_v {N : Nat → Nat} {box : Nat} {f : Nat → Nat} {must : Bool} {s : Nat} : ∀ i, (mdA N box f must s i).2 = f (s - (mdA N box f must s i).1) + if (mdA N box f must s i).1 = 0 then 0 else box
  | 0 => rfl
  | i + 1 => by
    unfold mdA
    split
    · unfold pkS
      split
      · show f (s - (i + 1)) + box = f (s - (i + 1)) + if i + 1 = 0 then 0 else box
        rw [if_neg (by omega)]
      · exact mdA_v i
    · exact mdA_v i
theorem mdA_end {N : Nat → Nat} {box : Nat} {f : Nat → Nat} {must : Bool} {s : Nat} (hs : s < 125) : N 3 * f s + (4 - N 3) * (mdA N box f must s s).2 = mixP N box f s (pickP N box f must s) ∧ (mdA N box f must s s).1 = pickP N box f must s := by
  have e : pickP N box f must s = (mdA N box f must s s).1 := by unfold pickP; rw [pick_md hs]
  rw [e]
  refine ⟨?_, rfl⟩
  unfold mixP
  rw [mdA_v]
theorem c_X8_findBest {l : Launch} {Z : zP} {G : zG} {V : zV} {y : Nat} (hM : ModelAt Z G y) {h : Nat} (hh : h < 8) {N : Nat → Nat} (hR : MH V y h N) (hB : HouseB N) (hN : HOK N) {mu : Nat} (hmu : ∀ d, 1 ≤ d → d ≤ 6 → (nI d = V.1 439 y ↔ d = mu)) : CT l Z yX8_findBest cX8_findBest 10 none 4 0 0 [.ref y, .int (nI h)] G V (pVx G (fun V' => fbI V V' y N mu (N 0 + 1))) := by
  refine CT.of (by decide +kernel) (Nat.le_of_ble_eq_true rfl) (fun X hX cx => ?_)
  subst hX
  show Wm Z X 10 G V 0 0 _ 0 [(0, some (.ref y)), (1, some (.int (nI h)))] []
  have h0 := hM.1
  have b4 := hB.1
  have n125 := st125 b4
  have h06 := hN.2.1
  refine x_aload_n (pc := 0) cx (dA ddX8_findBest (i := 0) rfl) rfl ?_
  refine x_iload_n (pc := 1) cx (dA ddX8_findBest (i := 1) rfl) rfl ?_
  refine x_V1 (pc := 2) mX8_249 h0 (c_X8_findWays hM hh hR hB hN) cx (dA ddX8_findBest (i := 2) rfl) (kVx fun V0 h0w => ?_)
  obtain ⟨hW0, hS0⟩ := h0w
  have hJ0 : fbJ V V0 y N mu 0 0 := ⟨⟨fun x hx => hS0 x (by omega), hW0, fun d hd => absurd hd (Nat.not_lt_zero _)⟩, fun t ht => absurd ht (Nat.not_lt_zero _)⟩
  refine x_iconst (pc := 5) (v := nI 0) cx (dA ddX8_findBest (i := 3) rfl) (by decide) ?_
  refine x_istore_n (pc := 6) cx (dA ddX8_findBest (i := 4) rfl) (by decide) rfl ?_
  have L7 : ∀ s, s ≤ 5 ^ N 4 → ∀ V1, fbJ V V1 y N mu 0 s → Wm Z X 10 G V1 0 0 (rQ Z X 0 0 (pVx G (fun V' => fbI V V' y N mu (N 0 + 1)))) 7 [(0, some (.ref y)), (1, some (.int (nI h))), (2, some (.int (nI s)))] [] := by
    refine lpU (5 ^ N 4) (fun s hs ih => ?_)
    intro V1 hJ
    refine x_iload_n (pc := 7) cx (dA ddX8_findBest (i := 5) rfl) rfl ?_
    refine x_aload_n (pc := 8) cx (dA ddX8_findBest (i := 6) rfl) rfl ?_
    refine x_iload_n (pc := 9) cx (dA ddX8_findBest (i := 7) rfl) rfl ?_
    refine x_V1 (pc := 10) mX8_110 h0 (c_X8_states (V := V1) hM hh (hR.same39 hh hJ.1.1) hB) cx (dA ddX8_findBest (i := 8) rfl) (kI ?_)
    refine x_icmp_ge (pc := 13) (tgt := 47) cx (dA ddX8_findBest (i := 9) rfl) (by decide) (fun c13 => ?_) (fun c13 => ?_)
    · have c13 := cleT (by omega) (by omega) c13
      have es : s = 5 ^ N 4 := by omega
      subst es
      refine x_iconst (pc := 47) (v := nI 1) cx (dA ddX8_findBest (i := 31) rfl) (by decide) ?_
      refine x_istore_n (pc := 48) cx (dA ddX8_findBest (i := 32) rfl) (by decide) rfl ?_
      have L49 : ∀ e, e ≤ N 0 → ∀ V3, fbI V V3 y N mu (e + 1) → Wm Z X 10 G V3 0 0 (rQ Z X 0 0 (pVx G (fun V' => fbI V V' y N mu (N 0 + 1)))) 49 [(0, some (.ref y)), (1, some (.int (nI h))), (2, some (.int (nI (e + 1))))] [] := by
        refine lpU (N 0) (fun e he ih2 => ?_)
        intro V3 hF
        refine x_iload_n (pc := 49) cx (dA ddX8_findBest (i := 33) rfl) rfl ?_
        refine x_aload_n (pc := 50) cx (dA ddX8_findBest (i := 34) rfl) rfl ?_
        refine gX8_45 (pc := 51) (rfA hM.2.2.2.2.2.2.2.2.2.2.2.1.1) cx (dA ddX8_findBest (i := 35) rfl) h0 ?_
        refine x_iload_n (pc := 54) cx (dA ddX8_findBest (i := 36) rfl) rfl ?_
        refine x_aaload (pc := 55) cx (dA ddX8_findBest (i := 37) rfl) hM.2.2.2.2.2.2.2.2.2.2.2.1.2.1 (by decide) (by decide) hh (by decide) ?_
        rw [arA (hM.2.2.2.2.2.2.2.2.2.2.2.1.2.2 h hh).1]
        refine x_iconst (pc := 56) (v := nI 0) cx (dA ddX8_findBest (i := 38) rfl) (by decide) ?_
        refine x_iaload (pc := 57) cx (dA ddX8_findBest (i := 39) rfl) (hM.2.2.2.2.2.2.2.2.2.2.2.1.2.2 h hh).2 (by decide) (by decide) ?_
        rw [(hR.same39 hh hF.1) 0 (by omega)]
        refine x_icmp_gt (pc := 58) (tgt := 273) cx (dA ddX8_findBest (i := 40) rfl) (by decide) (fun c58 => ?_) (fun c58 => ?_)
        · have c58 := cltT (by omega) (by omega) c58
          have ee : e = N 0 := by omega
          subst ee
          refine x_return (pc := 273) cx (dA ddX8_findBest (i := 170) rfl) (by first | exact Nat.le_of_ble_eq_true rfl | omega) (by first | exact Nat.le_of_ble_eq_true rfl | omega) ?_
          exact ⟨rfl, rfl, hF⟩
        · have c58 := cltF (by omega) (by omega) c58
          have b62 := day62 hN (d := e + 1) (C := 1188 + 504 * e) (by omega) (by omega) (by omega) (f := mcM N mu e) (mcM_bd hN e)
          have b62f : ∀ t, t < 5 ^ N 4 → (maM N mu (e + 1)) t < 2 ^ 62 := b62.1
          refine x_iconst (pc := 61) (v := nI 0) cx (dA ddX8_findBest (i := 41) rfl) (by decide) ?_
          refine x_istore_n (pc := 62) cx (dA ddX8_findBest (i := 42) rfl) (by decide) rfl ?_
          have L63 : ∀ s, s ≤ 5 ^ N 4 → Wm Z X 10 G (wtJ V3 y s (maM N mu (e + 1))) 0 0 (rQ Z X 0 0 (pVx G (fun V' => fbI V V' y N mu (N 0 + 1)))) 63 [(0, some (.ref y)), (1, some (.int (nI h))), (2, some (.int (nI (e + 1)))), (3, some (.int (nI s)))] [] := by
            refine lpU (5 ^ N 4) (fun s hs ih3 => ?_)
            refine x_iload_n (pc := 63) cx (dA ddX8_findBest (i := 43) rfl) rfl ?_
            refine x_aload_n (pc := 64) cx (dA ddX8_findBest (i := 44) rfl) rfl ?_
            refine x_iload_n (pc := 65) cx (dA ddX8_findBest (i := 45) rfl) rfl ?_
            refine x_V1 (pc := 66) mX8_110 h0 (c_X8_states (V := (wtJ V3 y s (maM N mu (e + 1)))) hM hh (hR.same39 hh (fbI_w (s := s) (f := (maM N mu (e + 1))) b4 (by omega) hF).1) hB) cx (dA ddX8_findBest (i := 46) rfl) (kI ?_)
            refine x_icmp_ge (pc := 69) (tgt := 99) cx (dA ddX8_findBest (i := 47) rfl) (by decide) (fun c69 => ?_) (fun c69 => ?_)
            · have c69 := cleT (by omega) (by omega) c69
              have es : s = 5 ^ N 4 := by omega
              subst es
              refine x_iconst (pc := 99) (v := nI 0) cx (dA ddX8_findBest (i := 65) rfl) (by decide) ?_
              refine x_istore_n (pc := 100) cx (dA ddX8_findBest (i := 66) rfl) (by decide) rfl ?_
              have L101 : ∀ s, s ≤ 5 ^ N 4 → ∀ V5, fbJ V V5 y N mu (e + 1) s → (∀ t, t < 5 ^ N 4 → V5.2.2.2 (y + 85) t = lN ((maM N mu (e + 1)) t)) → Wm Z X 10 G V5 0 0 (rQ Z X 0 0 (pVx G (fun V' => fbI V V' y N mu (N 0 + 1)))) 101 [(0, some (.ref y)), (1, some (.int (nI h))), (2, some (.int (nI (e + 1)))), (3, some (.int (nI s)))] [] := by
                refine lpU (5 ^ N 4) (fun s hs ih4 => ?_)
                intro V5 hJ hw
                refine x_iload_n (pc := 101) cx (dA ddX8_findBest (i := 67) rfl) rfl ?_
                refine x_aload_n (pc := 102) cx (dA ddX8_findBest (i := 68) rfl) rfl ?_
                refine x_iload_n (pc := 103) cx (dA ddX8_findBest (i := 69) rfl) rfl ?_
                refine x_V1 (pc := 104) mX8_110 h0 (c_X8_states (V := V5) hM hh (hR.same39 hh hJ.1.1) hB) cx (dA ddX8_findBest (i := 70) rfl) (kI ?_)
                refine x_icmp_ge (pc := 107) (tgt := 267) cx (dA ddX8_findBest (i := 71) rfl) (by decide) (fun c107 => ?_) (fun c107 => ?_)
                · have c107 := cleT (by omega) (by omega) c107
                  have es : s = 5 ^ N 4 := by omega
                  subst es
                  refine x_iinc (pc := 267) cx (dA ddX8_findBest (i := 168) rfl) rfl (iinc1 _) (by decide) rfl ?_
                  refine x_goto (pc := 270) (tgt := 49) cx (dA ddX8_findBest (i := 169) rfl) (by decide) ?_
                  exact x_enter (ih2 (by omega) _ (fbI_s hJ)) ⟨.inr rfl, .inr rfl, .inr rfl, trivial⟩
                · have c107 := cleF (by omega) (by omega) c107
                  refine x_aload_n (pc := 110) cx (dA ddX8_findBest (i := 72) rfl) rfl ?_
                  refine gX8_82 (pc := 111) (rfA hM.2.2.2.2.2.2.2.2.2.2.2.2.2.2.2.2.2.2.2.2.2.2.1.1) cx (dA ddX8_findBest (i := 73) rfl) h0 ?_
                  refine x_iload_n (pc := 114) cx (dA ddX8_findBest (i := 74) rfl) rfl ?_
                  refine x_laload (pc := 115) cx (dA ddX8_findBest (i := 75) rfl) hM.2.2.2.2.2.2.2.2.2.2.2.2.2.2.2.2.2.2.2.2.2.2.1.2 (by omega) (by decide) ?_
                  rw [hw s c107]
                  refine x_lstore (pc := 116) cx (dA ddX8_findBest (i := 76) rfl) (by decide) rfl ?_
                  refine x_iconst (pc := 118) (v := nI 0) cx (dA ddX8_findBest (i := 77) rfl) (by decide) ?_
                  refine x_istore (pc := 119) cx (dA ddX8_findBest (i := 78) rfl) (by decide) rfl ?_
                  refine x_iconst (pc := 121) (v := nI 1) cx (dA ddX8_findBest (i := 79) rfl) (by decide) ?_
                  refine x_istore (pc := 122) cx (dA ddX8_findBest (i := 80) rfl) (by decide) rfl ?_
                  have L124 : ∀ q, q ≤ s → Wm Z X 10 G V5 0 0 (rQ Z X 0 0 (pVx G (fun V' => fbI V V' y N mu (N 0 + 1)))) 124 [(0, some (.ref y)), (1, some (.int (nI h))), (2, some (.int (nI (e + 1)))), (3, some (.int (nI s))), (4, some (.long (lN (mdA N (boxP N (e + 1)) (maM N mu (e + 1)) (decide (e + 1 = mu)) s q).2))), (6, some (.int (nI (mdA N (boxP N (e + 1)) (maM N mu (e + 1)) (decide (e + 1 = mu)) s q).1))), (7, some (.int (nI (q + 1))))] [] := by
                    refine lpU s (fun q hq ih5 => ?_)
                    refine x_iload (pc := 124) cx (dA ddX8_findBest (i := 81) rfl) rfl ?_
                    refine x_iload_n (pc := 126) cx (dA ddX8_findBest (i := 82) rfl) rfl ?_
                    refine x_icmp_gt (pc := 127) (tgt := 212) cx (dA ddX8_findBest (i := 83) rfl) (by decide) (fun c127 => ?_) (fun c127 => ?_)
                    · have c127 := cltT (by omega) (by omega) c127
                      have eq2 : q = s := by omega
                      subst eq2
                      obtain ⟨m1, m2⟩ := mdA_end (N := N) (box := boxP N (e + 1)) (f := (maM N mu (e + 1))) (must := (decide (e + 1 = mu))) (s := q) (by omega)
                      refine x_aload_n (pc := 212) cx (dA ddX8_findBest (i := 129) rfl) rfl ?_
                      refine gX8_55 (pc := 213) (rfA hM.2.2.2.2.2.2.2.2.2.2.2.2.2.1.1) cx (dA ddX8_findBest (i := 130) rfl) h0 ?_
                      refine x_iload_n (pc := 216) cx (dA ddX8_findBest (i := 131) rfl) rfl ?_
                      refine x_aaload (pc := 217) cx (dA ddX8_findBest (i := 132) rfl) hM.2.2.2.2.2.2.2.2.2.2.2.2.2.1.2.1 (by decide) (by decide) (by omega) (by decide) ?_
                      rw [arA (hM.2.2.2.2.2.2.2.2.2.2.2.2.2.1.2.2 (e + 1) (by omega)).1]
                      refine x_iload_n (pc := 218) cx (dA ddX8_findBest (i := 133) rfl) rfl ?_
                      refine x_aload_n (pc := 219) cx (dA ddX8_findBest (i := 134) rfl) rfl ?_
                      refine gX8_45 (pc := 220) (rfA hM.2.2.2.2.2.2.2.2.2.2.2.1.1) cx (dA ddX8_findBest (i := 135) rfl) h0 ?_
                      refine x_iload_n (pc := 223) cx (dA ddX8_findBest (i := 136) rfl) rfl ?_
                      refine x_aaload (pc := 224) cx (dA ddX8_findBest (i := 137) rfl) hM.2.2.2.2.2.2.2.2.2.2.2.1.2.1 (by decide) (by decide) hh (by decide) ?_
                      rw [arA (hM.2.2.2.2.2.2.2.2.2.2.2.1.2.2 h hh).1]
                      refine x_iconst (pc := 225) (v := nI 3) cx (dA ddX8_findBest (i := 138) rfl) (by decide) ?_
                      refine x_iaload (pc := 226) cx (dA ddX8_findBest (i := 139) rfl) (hM.2.2.2.2.2.2.2.2.2.2.2.1.2.2 h hh).2 (by decide) (by decide) ?_
                      rw [(hR.same39 hh hJ.1.1) 3 (by omega)]
                      have b3 := hN.2.2.2.1
                      refine x_i2l (pc := 227) cx (dA ddX8_findBest (i := 140) rfl) ?_
                      rw [nI_l (by omega)]
                      refine x_aload_n (pc := 228) cx (dA ddX8_findBest (i := 141) rfl) rfl ?_
                      refine gX8_82 (pc := 229) (rfA hM.2.2.2.2.2.2.2.2.2.2.2.2.2.2.2.2.2.2.2.2.2.2.1.1) cx (dA ddX8_findBest (i := 142) rfl) h0 ?_
                      refine x_iload_n (pc := 232) cx (dA ddX8_findBest (i := 143) rfl) rfl ?_
                      refine x_laload (pc := 233) cx (dA ddX8_findBest (i := 144) rfl) hM.2.2.2.2.2.2.2.2.2.2.2.2.2.2.2.2.2.2.2.2.2.2.1.2 (by omega) (by decide) ?_
                      rw [hw q c107]
                      refine x_lmul (pc := 234) cx (dA ddX8_findBest (i := 145) rfl) ?_
                      refine x_iconst (pc := 235) (v := nI 4) cx (dA ddX8_findBest (i := 146) rfl) (by decide) ?_
                      refine x_aload_n (pc := 236) cx (dA ddX8_findBest (i := 147) rfl) rfl ?_
                      refine gX8_45 (pc := 237) (rfA hM.2.2.2.2.2.2.2.2.2.2.2.1.1) cx (dA ddX8_findBest (i := 148) rfl) h0 ?_
                      refine x_iload_n (pc := 240) cx (dA ddX8_findBest (i := 149) rfl) rfl ?_
                      refine x_aaload (pc := 241) cx (dA ddX8_findBest (i := 150) rfl) hM.2.2.2.2.2.2.2.2.2.2.2.1.2.1 (by decide) (by decide) hh (by decide) ?_
                      rw [arA (hM.2.2.2.2.2.2.2.2.2.2.2.1.2.2 h hh).1]
                      refine x_iconst (pc := 242) (v := nI 3) cx (dA ddX8_findBest (i := 151) rfl) (by decide) ?_
                      refine x_iaload (pc := 243) cx (dA ddX8_findBest (i := 152) rfl) (hM.2.2.2.2.2.2.2.2.2.2.2.1.2.2 h hh).2 (by decide) (by decide) ?_
                      rw [(hR.same39 hh hJ.1.1) 3 (by omega)]
                      refine x_isub (pc := 244) cx (dA ddX8_findBest (i := 153) rfl) ?_
                      rw [pk_sub (by omega)]
                      refine x_i2l (pc := 245) cx (dA ddX8_findBest (i := 154) rfl) ?_
                      rw [nI_l (by omega)]
                      refine x_lload (pc := 246) cx (dA ddX8_findBest (i := 155) rfl) rfl ?_
                      refine x_lmul (pc := 248) cx (dA ddX8_findBest (i := 156) rfl) ?_
                      refine x_ladd (pc := 249) cx (dA ddX8_findBest (i := 157) rfl) ?_
                      rw [lN_mul, lN_mul, lN_add, m1, show mixP N (boxP N (e + 1)) (maM N mu (e + 1)) q (pickP N (boxP N (e + 1)) (maM N mu (e + 1)) (decide (e + 1 = mu)) q) = mcM N mu (e + 1) q from rfl]
                      refine x_lastore (pc := 250) cx (dA ddX8_findBest (i := 158) rfl) (hM.2.2.2.2.2.2.2.2.2.2.2.2.2.1.2.2 (e + 1) (by omega)).2 (by omega) (by decide) ?_
                      refine x_aload_n (pc := 251) cx (dA ddX8_findBest (i := 159) rfl) rfl ?_
                      refine gX8_58 (pc := 252) (rfA hM.2.2.2.2.2.2.2.2.2.2.2.2.2.2.1.1) cx (dA ddX8_findBest (i := 160) rfl) h0 ?_
                      refine x_iload_n (pc := 255) cx (dA ddX8_findBest (i := 161) rfl) rfl ?_
                      refine x_aaload (pc := 256) cx (dA ddX8_findBest (i := 162) rfl) hM.2.2.2.2.2.2.2.2.2.2.2.2.2.2.1.2.1 (by decide) (by decide) (by omega) (by decide) ?_
                      rw [arA (hM.2.2.2.2.2.2.2.2.2.2.2.2.2.2.1.2.2 (e + 1) (by omega)).1]
                      refine x_iload_n (pc := 257) cx (dA ddX8_findBest (i := 163) rfl) rfl ?_
                      refine x_iload (pc := 258) cx (dA ddX8_findBest (i := 164) rfl) rfl ?_
                      rw [m2, show pickP N (boxP N (e + 1)) (maM N mu (e + 1)) (decide (e + 1 = mu)) q = mlM N mu (e + 1) q from (if_neg (by omega)).symm]
                      refine x_iastore (pc := 260) cx (dA ddX8_findBest (i := 165) rfl) (hM.2.2.2.2.2.2.2.2.2.2.2.2.2.2.1.2.2 (e + 1) (by omega)).2 (by omega) (by decide) ?_
                      refine x_iinc (pc := 261) cx (dA ddX8_findBest (i := 166) rfl) rfl (iinc1 _) (by decide) rfl ?_
                      refine x_goto (pc := 264) (tgt := 101) cx (dA ddX8_findBest (i := 167) rfl) (by decide) ?_
                      exact x_enter (ih4 (by omega) _ (fbJ_s b4 (by omega) hJ) (fun t ht => (sAJ_ne (by omega)).trans (hw t ht))) ⟨.inr rfl, .inr rfl, .inr rfl, .inr rfl, trivial⟩
                    · have c127 := cltF (by omega) (by omega) c127
                      have ok := mdA_ok (N := N) (box := boxP N (e + 1)) (f := (maM N mu (e + 1))) (must := (decide (e + 1 = mu))) (s := s) (fun t ht => b62f t (by omega)) b62.2 q (by omega)
                      have ok1 := ok.1
                      have ok2 := ok.2
                      have rl := sumP_lt hB (s := q + 1) (w := 0) (by omega)
                      have r2 := hB.2 2 (by omega)
                      have fl := b62f (s - (q + 1)) (by omega)
                      have bl := b62.2
                      refine x_aload_n (pc := 130) cx (dA ddX8_findBest (i := 84) rfl) rfl ?_
                      refine gX8_76 (pc := 131) (rfA hM.2.2.2.2.2.2.2.2.2.2.2.2.2.2.2.2.2.2.2.2.1.1) cx (dA ddX8_findBest (i := 85) rfl) h0 ?_
                      refine x_iload (pc := 134) cx (dA ddX8_findBest (i := 86) rfl) rfl ?_
                      refine x_iaload (pc := 136) cx (dA ddX8_findBest (i := 87) rfl) hM.2.2.2.2.2.2.2.2.2.2.2.2.2.2.2.2.2.2.2.2.1.2 (by omega) (by decide) ?_
                      rw [hJ.1.2.1.2.1 (q + 1) (by omega)]
                      refine x_aload_n (pc := 137) cx (dA ddX8_findBest (i := 88) rfl) rfl ?_
                      refine gX8_45 (pc := 138) (rfA hM.2.2.2.2.2.2.2.2.2.2.2.1.1) cx (dA ddX8_findBest (i := 89) rfl) h0 ?_
                      refine x_iload_n (pc := 141) cx (dA ddX8_findBest (i := 90) rfl) rfl ?_
                      refine x_aaload (pc := 142) cx (dA ddX8_findBest (i := 91) rfl) hM.2.2.2.2.2.2.2.2.2.2.2.1.2.1 (by decide) (by decide) hh (by decide) ?_
                      rw [arA (hM.2.2.2.2.2.2.2.2.2.2.2.1.2.2 h hh).1]
                      refine x_iconst (pc := 143) (v := nI 2) cx (dA ddX8_findBest (i := 92) rfl) (by decide) ?_
                      refine x_iaload (pc := 144) cx (dA ddX8_findBest (i := 93) rfl) (hM.2.2.2.2.2.2.2.2.2.2.2.1.2.2 h hh).2 (by decide) (by decide) ?_
                      rw [(hR.same39 hh hJ.1.1) 2 (by omega)]
                      refine x_icmp_gt (pc := 145) (tgt := 206) cx (dA ddX8_findBest (i := 94) rfl) (by decide) (fun c145 => ?_) (fun c145 => ?_)
                      · have c145 := cltT (by omega) (by omega) c145
                        have e8 : (mdA N (boxP N (e + 1)) (maM N mu (e + 1)) (decide (e + 1 = mu)) s (q + 1)) = (mdA N (boxP N (e + 1)) (maM N mu (e + 1)) (decide (e + 1 = mu)) s q) := by
                          show (if dle (q + 1) s = true then pkS N (boxP N (e + 1)) (maM N mu (e + 1)) (decide (e + 1 = mu)) s (q + 1) (mdA N (boxP N (e + 1)) (maM N mu (e + 1)) (decide (e + 1 = mu)) s q) else (mdA N (boxP N (e + 1)) (maM N mu (e + 1)) (decide (e + 1 = mu)) s q)) = _
                          split
                          · exact if_neg (fun q => absurd q.2.1 (by omega))
                          · rfl
                        refine x_iinc (pc := 206) cx (dA ddX8_findBest (i := 127) rfl) rfl (iinc1 _) (by decide) rfl ?_
                        refine x_goto (pc := 209) (tgt := 124) cx (dA ddX8_findBest (i := 128) rfl) (by decide) ?_
                        have L := ih5 (by omega)
                        rw [e8] at L
                        exact x_enter L ⟨.inr rfl, .inr rfl, .inr rfl, .inr rfl, .inr rfl, .inr rfl, .inr rfl, trivial⟩
                      · have c145 := cltF (by omega) (by omega) c145
                        refine x_aload_n (pc := 148) cx (dA ddX8_findBest (i := 95) rfl) rfl ?_
                        refine x_iload_n (pc := 149) cx (dA ddX8_findBest (i := 96) rfl) rfl ?_
                        refine x_iload_n (pc := 150) cx (dA ddX8_findBest (i := 97) rfl) rfl ?_
                        refine x_iload (pc := 151) cx (dA ddX8_findBest (i := 98) rfl) rfl ?_
                        refine x_V3 (pc := 153) mX8_257 h0 (c_X8_isLoad (V := V5) hM hh (hR.same39 hh hJ.1.1) hB (s := s) (q := q + 1) (by omega) (by omega)) cx (dA ddX8_findBest (i := 99) rfl) (kI ?_)
                        refine x_if_eq (pc := 156) (tgt := 206) cx (dA ddX8_findBest (i := 100) rfl) (by decide) (fun c156 => ?_) (fun c156 => ?_)
                        · have c156 := b2i_eq c156
                          have e8 : (mdA N (boxP N (e + 1)) (maM N mu (e + 1)) (decide (e + 1 = mu)) s (q + 1)) = (mdA N (boxP N (e + 1)) (maM N mu (e + 1)) (decide (e + 1 = mu)) s q) := if_neg (fun h => c156 ⟨h, c145⟩)
                          refine x_iinc (pc := 206) cx (dA ddX8_findBest (i := 127) rfl) rfl (iinc1 _) (by decide) rfl ?_
                          refine x_goto (pc := 209) (tgt := 124) cx (dA ddX8_findBest (i := 128) rfl) (by decide) ?_
                          have L := ih5 (by omega)
                          rw [e8] at L
                          exact x_enter L ⟨.inr rfl, .inr rfl, .inr rfl, .inr rfl, .inr rfl, .inr rfl, .inr rfl, trivial⟩
                        · have c156 := (b2i_ne c156).1
                          have e7 : (mdA N (boxP N (e + 1)) (maM N mu (e + 1)) (decide (e + 1 = mu)) s (q + 1)) = pkS N (boxP N (e + 1)) (maM N mu (e + 1)) (decide (e + 1 = mu)) s (q + 1) (mdA N (boxP N (e + 1)) (maM N mu (e + 1)) (decide (e + 1 = mu)) s q) := if_pos c156
                          refine x_aload_n (pc := 159) cx (dA ddX8_findBest (i := 101) rfl) rfl ?_
                          refine x_iload_n (pc := 160) cx (dA ddX8_findBest (i := 102) rfl) rfl ?_
                          refine x_iload_n (pc := 161) cx (dA ddX8_findBest (i := 103) rfl) rfl ?_
                          refine x_V2 (pc := 162) mX8_261 h0 (c_X8_boxOf (V := V5) hM hh (hR.same39 hh hJ.1.1) hB (d := e + 1) (by omega) (by omega)) cx (dA ddX8_findBest (i := 104) rfl) (kJ ?_)
                          refine x_aload_n (pc := 165) cx (dA ddX8_findBest (i := 105) rfl) rfl ?_
                          refine gX8_82 (pc := 166) (rfA hM.2.2.2.2.2.2.2.2.2.2.2.2.2.2.2.2.2.2.2.2.2.2.1.1) cx (dA ddX8_findBest (i := 106) rfl) h0 ?_
                          refine x_iload_n (pc := 169) cx (dA ddX8_findBest (i := 107) rfl) rfl ?_
                          refine x_iload (pc := 170) cx (dA ddX8_findBest (i := 108) rfl) rfl ?_
                          refine x_isub (pc := 172) cx (dA ddX8_findBest (i := 109) rfl) ?_
                          rw [pk_sub c127]
                          refine x_laload (pc := 173) cx (dA ddX8_findBest (i := 110) rfl) hM.2.2.2.2.2.2.2.2.2.2.2.2.2.2.2.2.2.2.2.2.2.2.1.2 (by omega) (by decide) ?_
                          rw [hw (s - (q + 1)) (by omega)]
                          refine x_ladd (pc := 174) cx (dA ddX8_findBest (i := 111) rfl) ?_
                          rw [lN_add, Nat.add_comm (boxP N (e + 1))]
                          refine x_lstore (pc := 175) cx (dA ddX8_findBest (i := 112) rfl) (by decide) rfl ?_
                          refine x_lload (pc := 177) cx (dA ddX8_findBest (i := 113) rfl) rfl ?_
                          refine x_lload (pc := 179) cx (dA ddX8_findBest (i := 114) rfl) rfl ?_
                          refine x_lc_lt (pc := 181) (tgt := 198) cx (dA ddX8_findBest (i := 115) rfl) (dA ddX8_findBest (i := 116) rfl) (by decide) (fun c181 => ?_) (fun c181 => ?_)
                          · have c181 := (pk_lLT (by omega) ok2).mp c181
                            have e8 : (mdA N (boxP N (e + 1)) (maM N mu (e + 1)) (decide (e + 1 = mu)) s (q + 1)) = (q + 1, (maM N mu (e + 1)) (s - (q + 1)) + boxP N (e + 1)) := e7.trans (if_pos ⟨by omega, c145, Or.inl c181⟩)
                            refine x_lload (pc := 198) cx (dA ddX8_findBest (i := 123) rfl) rfl ?_
                            refine x_lstore (pc := 200) cx (dA ddX8_findBest (i := 124) rfl) (by decide) rfl ?_
                            refine x_iload (pc := 202) cx (dA ddX8_findBest (i := 125) rfl) rfl ?_
                            refine x_istore (pc := 204) cx (dA ddX8_findBest (i := 126) rfl) (by decide) rfl ?_
                            refine x_iinc (pc := 206) cx (dA ddX8_findBest (i := 127) rfl) rfl (iinc1 _) (by decide) rfl ?_
                            refine x_goto (pc := 209) (tgt := 124) cx (dA ddX8_findBest (i := 128) rfl) (by decide) ?_
                            have L := ih5 (by omega)
                            rw [e8] at L
                            exact x_enter L ⟨.inr rfl, .inr rfl, .inr rfl, .inr rfl, .inr rfl, .inr rfl, .inr rfl, trivial⟩
                          · have c181 : ¬ _ < _ := fun z => c181 ((pk_lLT (by omega) ok2).mpr z)
                            refine x_iload_n (pc := 185) cx (dA ddX8_findBest (i := 117) rfl) rfl ?_
                            refine x_aload_n (pc := 186) cx (dA ddX8_findBest (i := 118) rfl) rfl ?_
                            refine gX8_88 (pc := 187) ((congrArg Value.int ((hJ.1.1 y (by omega)).1 439))) cx (dA ddX8_findBest (i := 119) rfl) h0 ?_
                            refine x_icmp_ne (pc := 190) (tgt := 206) cx (dA ddX8_findBest (i := 120) rfl) (by decide) (fun c190 => ?_) (fun c190 => ?_)
                            · have nm : ¬ e + 1 = mu := fun z => c190 ((hmu _ (by omega) (by omega)).mpr z)
                              have e8 : (mdA N (boxP N (e + 1)) (maM N mu (e + 1)) (decide (e + 1 = mu)) s (q + 1)) = (mdA N (boxP N (e + 1)) (maM N mu (e + 1)) (decide (e + 1 = mu)) s q) := e7.trans (if_neg (fun z => z.2.2.elim c181 (fun z => nm (of_decide_eq_true z.1))))
                              refine x_iinc (pc := 206) cx (dA ddX8_findBest (i := 127) rfl) rfl (iinc1 _) (by decide) rfl ?_
                              refine x_goto (pc := 209) (tgt := 124) cx (dA ddX8_findBest (i := 128) rfl) (by decide) ?_
                              have L := ih5 (by omega)
                              rw [e8] at L
                              exact x_enter L ⟨.inr rfl, .inr rfl, .inr rfl, .inr rfl, .inr rfl, .inr rfl, .inr rfl, trivial⟩
                            · have ym := (hmu _ (by omega) (by omega)).mp c190
                              refine x_iload (pc := 193) cx (dA ddX8_findBest (i := 121) rfl) rfl ?_
                              refine x_if_ne (pc := 195) (tgt := 206) cx (dA ddX8_findBest (i := 122) rfl) (by decide) (fun c195 => ?_) (fun c195 => ?_)
                              · have e8 : (mdA N (boxP N (e + 1)) (maM N mu (e + 1)) (decide (e + 1 = mu)) s (q + 1)) = (mdA N (boxP N (e + 1)) (maM N mu (e + 1)) (decide (e + 1 = mu)) s q) := e7.trans (if_neg (fun z => z.2.2.elim c181 (fun z => c195 (by rw [z.2]; rfl))))
                                refine x_iinc (pc := 206) cx (dA ddX8_findBest (i := 127) rfl) rfl (iinc1 _) (by decide) rfl ?_
                                refine x_goto (pc := 209) (tgt := 124) cx (dA ddX8_findBest (i := 128) rfl) (by decide) ?_
                                have L := ih5 (by omega)
                                rw [e8] at L
                                exact x_enter L ⟨.inr rfl, .inr rfl, .inr rfl, .inr rfl, .inr rfl, .inr rfl, .inr rfl, trivial⟩
                              · have z0 : (mdA N (boxP N (e + 1)) (maM N mu (e + 1)) (decide (e + 1 = mu)) s q).1 = 0 := nI_inj (b := 0) (by omega) (by decide) c195
                                have e8 : (mdA N (boxP N (e + 1)) (maM N mu (e + 1)) (decide (e + 1 = mu)) s (q + 1)) = (q + 1, (maM N mu (e + 1)) (s - (q + 1)) + boxP N (e + 1)) := e7.trans (if_pos ⟨by omega, c145, Or.inr ⟨decide_eq_true ym, z0⟩⟩)
                                refine x_lload (pc := 198) cx (dA ddX8_findBest (i := 123) rfl) rfl ?_
                                refine x_lstore (pc := 200) cx (dA ddX8_findBest (i := 124) rfl) (by decide) rfl ?_
                                refine x_iload (pc := 202) cx (dA ddX8_findBest (i := 125) rfl) rfl ?_
                                refine x_istore (pc := 204) cx (dA ddX8_findBest (i := 126) rfl) (by decide) rfl ?_
                                refine x_iinc (pc := 206) cx (dA ddX8_findBest (i := 127) rfl) rfl (iinc1 _) (by decide) rfl ?_
                                refine x_goto (pc := 209) (tgt := 124) cx (dA ddX8_findBest (i := 128) rfl) (by decide) ?_
                                have L := ih5 (by omega)
                                rw [e8] at L
                                exact x_enter L ⟨.inr rfl, .inr rfl, .inr rfl, .inr rfl, .inr rfl, .inr rfl, .inr rfl, trivial⟩
                  exact x_enter (L124 0 (Nat.zero_le _)) ⟨.inr rfl, .inr rfl, .inr rfl, .inr rfl, .inr rfl, .inr rfl, .inr rfl, trivial⟩
              exact x_enter (L101 0 (Nat.zero_le _) _ ⟨fbI_w (s := 5 ^ N 4) (f := (maM N mu (e + 1))) b4 (by omega) hF, fun t ht => absurd ht (Nat.not_lt_zero _)⟩ (fun t ht => rAJ_at ht)) ⟨.inr rfl, .inr rfl, .inr rfl, .inr rfl, trivial⟩
            · have c69 := cleF (by omega) (by omega) c69
              refine x_aload_n (pc := 72) cx (dA ddX8_findBest (i := 48) rfl) rfl ?_
              refine gX8_82 (pc := 73) (rfA hM.2.2.2.2.2.2.2.2.2.2.2.2.2.2.2.2.2.2.2.2.2.2.1.1) cx (dA ddX8_findBest (i := 49) rfl) h0 ?_
              refine x_iload_n (pc := 76) cx (dA ddX8_findBest (i := 50) rfl) rfl ?_
              refine x_aload_n (pc := 77) cx (dA ddX8_findBest (i := 51) rfl) rfl ?_
              refine x_iload_n (pc := 78) cx (dA ddX8_findBest (i := 52) rfl) rfl ?_
              refine x_iload_n (pc := 79) cx (dA ddX8_findBest (i := 53) rfl) rfl ?_
              refine x_iload_n (pc := 80) cx (dA ddX8_findBest (i := 54) rfl) rfl ?_
              refine x_aload_n (pc := 81) cx (dA ddX8_findBest (i := 55) rfl) rfl ?_
              refine gX8_55 (pc := 82) (rfA hM.2.2.2.2.2.2.2.2.2.2.2.2.2.1.1) cx (dA ddX8_findBest (i := 56) rfl) h0 ?_
              refine x_iload_n (pc := 85) cx (dA ddX8_findBest (i := 57) rfl) rfl ?_
              refine x_iconst (pc := 86) (v := nI 1) cx (dA ddX8_findBest (i := 58) rfl) (by decide) ?_
              refine x_isub (pc := 87) cx (dA ddX8_findBest (i := 59) rfl) ?_
              rw [pk_sub (by omega), show e + 1 - 1 = e by omega]
              refine x_aaload (pc := 88) cx (dA ddX8_findBest (i := 60) rfl) hM.2.2.2.2.2.2.2.2.2.2.2.2.2.1.2.1 (by decide) (by decide) (by omega) (by decide) ?_
              rw [arA (hM.2.2.2.2.2.2.2.2.2.2.2.2.2.1.2.2 e (by omega)).1]
              refine x_V4 (pc := 89) mX8_253 h0 (c_X8_behind (V := (wtJ V3 y s (maM N mu (e + 1)))) hM hh (hR.same39 hh (fbI_w (s := s) (f := (maM N mu (e + 1))) b4 (by omega) hF).1) hB hN (fbI_w (s := s) (f := (maM N mu (e + 1))) b4 (by omega) hF).2.1 (d := e + 1) (s := s) (by omega) (by omega) c69 (hM.2.2.2.2.2.2.2.2.2.2.2.2.2.1.2.2 e (by omega)).2 (f := mcM N mu e) (fun t ht => ((fbI_w (s := s) (f := (maM N mu (e + 1))) b4 (by omega) hF).2.2 e (by omega) t ht).1)) cx (dA ddX8_findBest (i := 61) rfl) (kJ ?_)
              refine x_lastore (pc := 92) cx (dA ddX8_findBest (i := 62) rfl) hM.2.2.2.2.2.2.2.2.2.2.2.2.2.2.2.2.2.2.2.2.2.2.1.2 (by omega) (by decide) ?_
              rw [show sAJ (wtJ V3 y s (maM N mu (e + 1))) (y + 85) s (lN (swD N (e + 1) (mcM N mu e) s)) = wtJ V3 y (s + 1) (maM N mu (e + 1)) from rAJ_s0 _ _ _ _ rfl]
              refine x_iinc (pc := 93) cx (dA ddX8_findBest (i := 63) rfl) rfl (iinc1 _) (by decide) rfl ?_
              refine x_goto (pc := 96) (tgt := 63) cx (dA ddX8_findBest (i := 64) rfl) (by decide) ?_
              exact x_enter (ih3 (by omega)) ⟨.inr rfl, .inr rfl, .inr rfl, .inr rfl, trivial⟩
          have L := L63 0 (Nat.zero_le _)
          rw [show wtJ V3 y 0 (maM N mu (e + 1)) = V3 from rAJ_0 _ _ _ _] at L
          exact x_enter L ⟨.inr rfl, .inr rfl, .inr rfl, .inr rfl, trivial⟩
      exact x_enter (L49 0 (Nat.zero_le _) V1 (fbI_s hJ)) ⟨.inr rfl, .inr rfl, .inr rfl, trivial⟩
    · have c13 := cleF (by omega) (by omega) c13
      have sl := sumP_lt hB (s := s) (w := 4) (by omega)
      refine x_aload_n (pc := 16) cx (dA ddX8_findBest (i := 10) rfl) rfl ?_
      refine gX8_55 (pc := 17) (rfA hM.2.2.2.2.2.2.2.2.2.2.2.2.2.1.1) cx (dA ddX8_findBest (i := 11) rfl) h0 ?_
      refine x_iconst (pc := 20) (v := nI 0) cx (dA ddX8_findBest (i := 12) rfl) (by decide) ?_
      refine x_aaload (pc := 21) cx (dA ddX8_findBest (i := 13) rfl) hM.2.2.2.2.2.2.2.2.2.2.2.2.2.1.2.1 (by decide) (by decide) (by decide) (by decide) ?_
      rw [arA (hM.2.2.2.2.2.2.2.2.2.2.2.2.2.1.2.2 0 (by decide)).1]
      refine x_iload_n (pc := 22) cx (dA ddX8_findBest (i := 14) rfl) rfl ?_
      refine x_aload_n (pc := 23) cx (dA ddX8_findBest (i := 15) rfl) rfl ?_
      refine x_iload_n (pc := 24) cx (dA ddX8_findBest (i := 16) rfl) rfl ?_
      refine x_iload_n (pc := 25) cx (dA ddX8_findBest (i := 17) rfl) rfl ?_
      refine x_iconst (pc := 26) (v := nI 4) cx (dA ddX8_findBest (i := 18) rfl) (by decide) ?_
      refine x_V3 (pc := 27) mX8_236 h0 (c_X8_sum (V := V1) hM hh (hR.same39 hh hJ.1.1) hB (s := s) (w := 4) (by omega) (by omega)) cx (dA ddX8_findBest (i := 19) rfl) (kI ?_)
      refine x_i2l (pc := 30) cx (dA ddX8_findBest (i := 20) rfl) ?_
      rw [nI_l (by omega)]
      refine x_lastore (pc := 31) cx (dA ddX8_findBest (i := 21) rfl) (hM.2.2.2.2.2.2.2.2.2.2.2.2.2.1.2.2 0 (by decide)).2 (by omega) (by decide) ?_
      refine x_aload_n (pc := 32) cx (dA ddX8_findBest (i := 22) rfl) rfl ?_
      refine gX8_58 (pc := 33) (rfA hM.2.2.2.2.2.2.2.2.2.2.2.2.2.2.1.1) cx (dA ddX8_findBest (i := 23) rfl) h0 ?_
      refine x_iconst (pc := 36) (v := nI 0) cx (dA ddX8_findBest (i := 24) rfl) (by decide) ?_
      refine x_aaload (pc := 37) cx (dA ddX8_findBest (i := 25) rfl) hM.2.2.2.2.2.2.2.2.2.2.2.2.2.2.1.2.1 (by decide) (by decide) (by decide) (by decide) ?_
      rw [arA (hM.2.2.2.2.2.2.2.2.2.2.2.2.2.2.1.2.2 0 (by decide)).1]
      refine x_iload_n (pc := 38) cx (dA ddX8_findBest (i := 26) rfl) rfl ?_
      refine x_iconst (pc := 39) (v := nI 0) cx (dA ddX8_findBest (i := 27) rfl) (by decide) ?_
      refine x_iastore (pc := 40) cx (dA ddX8_findBest (i := 28) rfl) (hM.2.2.2.2.2.2.2.2.2.2.2.2.2.2.1.2.2 0 (by decide)).2 (by omega) (by decide) ?_
      refine x_iinc (pc := 41) cx (dA ddX8_findBest (i := 29) rfl) rfl (iinc1 _) (by decide) rfl ?_
      refine x_goto (pc := 44) (tgt := 7) cx (dA ddX8_findBest (i := 30) rfl) (by decide) ?_
      exact x_enter (ih (by omega) _ (fbJ_s b4 (by decide) hJ)) ⟨.inr rfl, .inr rfl, .inr rfl, trivial⟩
  exact x_enter (L7 0 (Nat.zero_le _) V0 hJ0) ⟨.inr rfl, .inr rfl, .inr rfl, trivial⟩
