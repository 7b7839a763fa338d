/-- numbers of a house, none beside them -/
def NZ (N : Nat → Nat) : Prop := ∀ j, 20 ≤ j → N j = 0
theorem NZ.like {N M : Nat → Nat} (h1 : NZ N) (h2 : NZ M) (h : likeP N M) : N = M := by
  funext j
  by_cases q : j < 20
  · exact h j q
  · rw [h1 j (by omega), h2 j (by omega)]
/-- a plan that is turned to a house -/
def PlanT (V : zV) (p : Nat) (N : Nat → Nat) : Prop := PlanH V p N ∧ (∃ K, PlanC V p N K) ∧ (V.1 64 p = -1 ∨ V.1 64 p = nhV (plnP N))
theorem HouseV.sAI {V : zV} {h a i : Nat} {v : Int32} {N : Nat → Nat} (hV : HouseV V h N) (ha : h + 1 ≠ a) : HouseV (sAI V a i v) h N := fun j hj => (u2_fst _ _ ha).trans (hV j hj)
/-- s states told -/
def tuI (V V1 : zV) (p : Nat) (M : Nat → Nat) (s : Nat) : Prop := HouseV V1 (p + 1) M ∧ (V1.1 51 p = nI (M 0) ∧ V1.1 52 p = nI (M 4) ∧ V1.1 53 p = nI (5 ^ M 4) ∧ V1.1 63 p = -1 ∧ V1.1 64 p = -1) ∧ (∀ t, t < s → V1.2.2.1 (p + 3) t = nI (sumP M t 0)) ∧ (∀ t, t < s → V1.2.2.1 (p + 4) t = nI (sumP M t 2)) ∧ (∀ t, t < s → V1.2.2.1 (p + 5) t = nI (sumP M t 4)) ∧ (∀ t, t < s → V1.2.2.1 (p + 6) t = nI (fillP M t)) ∧ SameB V V1 p (p + 12)
theorem sAI_ne {V : zV} {a i x j : Nat} {v : Int32} (h : x ≠ a) : (sAI V a i v).2.2.1 x j = V.2.2.1 x j := u2_fst _ _ h
theorem sAI_nj {V : zV} {a i j : Nat} {v : Int32} (h : j ≠ i) : (sAI V a i v).2.2.1 a j = V.2.2.1 a j := u2_snd _ _ h
theorem sAI_eq {V : zV} {a i : Nat} {v : Int32} : (sAI V a i v).2.2.1 a i = v := u2_same _ _ _ _
theorem tu_row {V : zV} {a s : Nat} {g : Nat → Nat} (h : ∀ t, t < s → V.2.2.1 a t = nI (g t)) : ∀ t, t < s + 1 → (sAI V a s (nI (g s))).2.2.1 a t = nI (g t) := by
  intro t ht
  by_cases e : t = s
  · subst e; exact sAI_eq
  · exact (sAI_nj e).trans (h t (by omega))
theorem SameB.sAI {V V' : zV} {lo hi a i : Nat} {v : Int32} (h : SameB V V' lo hi) (h1 : lo ≤ a) (h2 : a < hi) : SameB V (sAI V' a i v) lo hi := fun x hx => ⟨(h x hx).1, (h x hx).2.1, fun j => (sAI_ne (by omega)).trans ((h x hx).2.2.1 j), (h x hx).2.2.2⟩
theorem tu_s {V V1 : zV} {p s : Nat} {M : Nat → Nat} (h : tuI V V1 p M s) : tuI V (sAI (sAI (sAI (sAI V1 (p + 3) s (nI (sumP M s 0))) (p + 4) s (nI (sumP M s 2))) (p + 5) s (nI (sumP M s 4))) (p + 6) s (nI (fillP M s))) p M (s + 1) := by
  obtain ⟨a, b, c1, c2, c3, c4, d⟩ := h
  refine ⟨(((a.sAI (by omega)).sAI (by omega)).sAI (by omega)).sAI (by omega), b, fun t ht => ?_, fun t ht => ?_, fun t ht => ?_, tu_row (fun t ht => ?_), (((d.sAI (by omega) (by omega)).sAI (by omega) (by omega)).sAI (by omega) (by omega)).sAI (by omega) (by omega)⟩
  · rw [sAI_ne (by omega), sAI_ne (by omega), sAI_ne (by omega)]; exact tu_row c1 t ht
  · rw [sAI_ne (by omega), sAI_ne (by omega)]; exact tu_row (fun t ht => (sAI_ne (by omega)).trans (c2 t ht)) t ht
  · rw [sAI_ne (by omega)]; exact tu_row (fun t ht => (sAI_ne (by omega)).trans ((sAI_ne (by omega)).trans (c3 t ht))) t ht
  · rw [sAI_ne (by omega), sAI_ne (by omega), sAI_ne (by omega)]; exact c4 t ht
theorem tu_end {V V1 : zV} {p : Nat} {M : Nat → Nat} (hM : HOK M) (h : tuI V V1 p M (5 ^ M 4)) : PlanT V1 p M ∧ SameB V V1 p (p + 12) := by
  obtain ⟨a, ⟨b1, b2, b3, b4, b5⟩, c1, c2, c3, c4, d⟩ := h
  exact ⟨⟨⟨hM, a, b1, b2, b3, c1, c2, c3, c4⟩, ⟨0, b4, by decide, fun d hd => absurd hd (Nat.not_lt_zero _), fun d _ hd => absurd hd (Nat.not_lt_zero _)⟩, Or.inl b5⟩, d⟩
theorem tu_0 {V : zV} {p h : Nat} {M : Nat → Nat} (oV : HouseV V h M) : tuI V (sI (sI (sI (sI (sI (rAI V (p + 1 + 1) 0 20 (fun j => V.2.2.1 (h + 1) j)) 51 p (nI (M 0))) 52 p (nI (M 4))) 53 p (nI (5 ^ M 4))) 63 p (-1)) 64 p (-1)) p M 0 := by
  refine ⟨fun j hj => ?_, ⟨?_, ?_, ?_, ?_, sI_eq⟩, fun t ht => absurd ht (Nat.not_lt_zero _), fun t ht => absurd ht (Nat.not_lt_zero _), fun t ht => absurd ht (Nat.not_lt_zero _), fun t ht => absurd ht (Nat.not_lt_zero _), ?_⟩
  · exact (show (rAI V (p + 1 + 1) 0 20 (fun j => V.2.2.1 (h + 1) j)).2.2.1 (p + 1 + 1) j = _ from rAI_at hj).trans (oV j hj)
  · rw [sI_ne (by decide), sI_ne (by decide), sI_ne (by decide), sI_ne (by decide), sI_eq]
  · rw [sI_ne (by decide), sI_ne (by decide), sI_ne (by decide), sI_eq]
  · rw [sI_ne (by decide), sI_ne (by decide), sI_eq]
  · rw [sI_ne (by decide), sI_eq]
  · exact ((((((SameB.refl V p (p + 12)).rAI (by omega) (by omega)).sI (by omega) (by omega)).sI (by omega) (by omega)).sI (by omega) (by omega)).sI (by omega) (by omega)).sI (by omega) (by omega)
theorem c_X1_turnTo {l : Launch} {Z : zP} {G : zG} {V : zV} {p h : Nat} (hP : PlanAt Z G p) {N : Nat → Nat} (hV : HouseV V (p + 1) N) (hB : HouseB N) (zN : NZ N) (hK : HOK N → PlanT V p N) (oH : HouseAt Z G h) {M : Nat → Nat} (oV : HouseV V h M) (hM : HOK M) (zM : NZ M) (ho : h + 1 < p ∨ p + 12 ≤ h) : CT l Z yX1_turnTo cX1_turnTo 3 none 3 0 0 [.ref p, .ref h] G V (pVx G (fun V' => PlanT V' p M ∧ SameB V V' p (p + 12))) := by
  refine CT.of (by decide +kernel) (Nat.le_of_ble_eq_true rfl) (fun X hX cx => ?_)
  subst hX
  show Wm Z X 3 G V 0 0 _ 0 [(0, some (.ref p)), (1, some (.ref h))] []
  have h0 := hP.1
  have hh := hP.2.2.1.1
  have oo := oH.1
  have mB := hM.1
  have m4 := mB.1
  have m125 := st125 m4
  refine x_aload_n (pc := 0) cx (dA ddX1_turnTo (i := 0) rfl) rfl ?_
  refine gX1_12 (pc := 1) (rfA hP.2.1) cx (dA ddX1_turnTo (i := 1) rfl) h0 ?_
  refine x_aload_n (pc := 4) cx (dA ddX1_turnTo (i := 2) rfl) rfl ?_
  refine x_V1 (pc := 5) mX1_54 hh (c_X0_isLike hP.2.2.1 hV hB oH oV mB) cx (dA ddX1_turnTo (i := 3) rfl) (kI ?_)
  refine x_if_eq (pc := 8) (tgt := 12) cx (dA ddX1_turnTo (i := 4) rfl) (by decide) (fun c8 => ?_) (fun c8 => ?_)
  · have nl := b2p_eq c8
    refine x_aload_n (pc := 12) cx (dA ddX1_turnTo (i := 6) rfl) rfl ?_
    refine gX1_12 (pc := 13) (rfA hP.2.1) cx (dA ddX1_turnTo (i := 7) rfl) h0 ?_
    refine x_aload_n (pc := 16) cx (dA ddX1_turnTo (i := 8) rfl) rfl ?_
    refine x_V1 (pc := 17) mX1_58 hh (c_X0_become hP.2.2.1 oH) cx (dA ddX1_turnTo (i := 9) rfl) (kV ?_)
    refine x_aload_n (pc := 20) cx (dA ddX1_turnTo (i := 10) rfl) rfl ?_
    refine x_aload_n (pc := 21) cx (dA ddX1_turnTo (i := 11) rfl) rfl ?_
    refine x_V0 (pc := 22) mX1_62 oo (c_X0_days oH (show HouseV (rAI V (p + 1 + 1) 0 20 (fun j => V.2.2.1 (h + 1) j)) h M from fun j hj => (rAI_ne (by omega) j).trans (oV j hj)) mB) cx (dA ddX1_turnTo (i := 12) rfl) (kI ?_)
    refine pX1_66 (pc := 25)  cx (dA ddX1_turnTo (i := 13) rfl) h0 ?_
    refine x_aload_n (pc := 28) cx (dA ddX1_turnTo (i := 14) rfl) rfl ?_
    refine x_aload_n (pc := 29) cx (dA ddX1_turnTo (i := 15) rfl) rfl ?_
    refine x_V0 (pc := 30) mX1_68 oo (c_X0_sorts oH (show HouseV (sI (rAI V (p + 1 + 1) 0 20 (fun j => V.2.2.1 (h + 1) j)) 51 p (nI (M 0))) h M from fun j hj => (rAI_ne (by omega) j).trans (oV j hj)) mB) cx (dA ddX1_turnTo (i := 16) rfl) (kI ?_)
    refine pX1_71 (pc := 33)  cx (dA ddX1_turnTo (i := 17) rfl) h0 ?_
    refine x_aload_n (pc := 36) cx (dA ddX1_turnTo (i := 18) rfl) rfl ?_
    refine x_aload_n (pc := 37) cx (dA ddX1_turnTo (i := 19) rfl) rfl ?_
    refine x_V0 (pc := 38) mX1_73 oo (c_X0_states oH (show HouseV (sI (sI (rAI V (p + 1 + 1) 0 20 (fun j => V.2.2.1 (h + 1) j)) 51 p (nI (M 0))) 52 p (nI (M 4))) h M from fun j hj => (rAI_ne (by omega) j).trans (oV j hj)) mB) cx (dA ddX1_turnTo (i := 20) rfl) (kI ?_)
    refine pX1_76 (pc := 41)  cx (dA ddX1_turnTo (i := 21) rfl) h0 ?_
    refine x_aload_n (pc := 44) cx (dA ddX1_turnTo (i := 22) rfl) rfl ?_
    refine x_iconst (pc := 45) (v := -1) cx (dA ddX1_turnTo (i := 23) rfl) (by decide) ?_
    refine pX1_47 (pc := 46)  cx (dA ddX1_turnTo (i := 24) rfl) h0 ?_
    refine x_aload_n (pc := 49) cx (dA ddX1_turnTo (i := 25) rfl) rfl ?_
    refine x_iconst (pc := 50) (v := -1) cx (dA ddX1_turnTo (i := 26) rfl) (by decide) ?_
    refine pX1_51 (pc := 51)  cx (dA ddX1_turnTo (i := 27) rfl) h0 ?_
    refine x_iconst (pc := 54) (v := nI 0) cx (dA ddX1_turnTo (i := 28) rfl) (by decide) ?_
    refine x_istore_n (pc := 55) cx (dA ddX1_turnTo (i := 29) rfl) (by decide) rfl ?_
    have L56 : ∀ s, s ≤ 5 ^ M 4 → ∀ V1, tuI V V1 p M s → Wm Z X 3 G V1 0 0 (rQ Z X 0 0 (pVx G (fun V' => PlanT V' p M ∧ SameB V V' p (p + 12)))) 56 [(0, some (.ref p)), (2, some (.int (nI s)))] [] := by
      refine lpU (5 ^ M 4) (fun s hs ih => ?_)
      intro V1 hI
      refine x_iload_n (pc := 56) cx (dA ddX1_turnTo (i := 30) rfl) rfl ?_
      refine x_aload_n (pc := 57) cx (dA ddX1_turnTo (i := 31) rfl) rfl ?_
      refine gX1_76 (pc := 58) (congrArg Value.int hI.2.1.2.2.1) cx (dA ddX1_turnTo (i := 32) rfl) h0 ?_
      refine x_icmp_ge (pc := 61) (tgt := 137) cx (dA ddX1_turnTo (i := 33) rfl) (by decide) (fun c61 => ?_) (fun c61 => ?_)
      · have c61 := cleT (by omega) (by omega) c61
        have es : s = 5 ^ M 4 := by omega
        subst es
        refine x_return (pc := 137) cx (dA ddX1_turnTo (i := 71) rfl) (by first | exact Nat.le_of_ble_eq_true rfl | omega) (by first | exact Nat.le_of_ble_eq_true rfl | omega) ?_
        exact ⟨rfl, rfl, tu_end hM hI⟩
      · have c61 := cleF (by omega) (by omega) c61
        refine x_aload_n (pc := 64) cx (dA ddX1_turnTo (i := 34) rfl) rfl ?_
        refine gX1_18 (pc := 65) (rfA hP.2.2.2.1.1) cx (dA ddX1_turnTo (i := 35) rfl) h0 ?_
        refine x_iload_n (pc := 68) cx (dA ddX1_turnTo (i := 36) rfl) rfl ?_
        refine x_aload_n (pc := 69) cx (dA ddX1_turnTo (i := 37) rfl) rfl ?_
        refine gX1_12 (pc := 70) (rfA hP.2.1) cx (dA ddX1_turnTo (i := 38) rfl) h0 ?_
        refine x_iload_n (pc := 73) cx (dA ddX1_turnTo (i := 39) rfl) rfl ?_
        refine x_iconst (pc := 74) (v := nI 0) cx (dA ddX1_turnTo (i := 40) rfl) (by decide) ?_
        refine x_V2 (pc := 75) mX1_78 hh (c_X0_sumOf (V := V1) hP.2.2.1 hI.1 mB (s := s) (w := 0) (by omega) (by omega)) cx (dA ddX1_turnTo (i := 41) rfl) (kI ?_)
        refine x_SN3 (pc := 78) mX1_82 (c_X7_put hP.2.2.2.1.2 (by omega) (by decide)) cx (dA ddX1_turnTo (i := 42) rfl) (kV ?_)
        refine x_aload_n (pc := 81) cx (dA ddX1_turnTo (i := 43) rfl) rfl ?_
        refine gX1_22 (pc := 82) (rfA hP.2.2.2.2.1.1) cx (dA ddX1_turnTo (i := 44) rfl) h0 ?_
        refine x_iload_n (pc := 85) cx (dA ddX1_turnTo (i := 45) rfl) rfl ?_
        refine x_aload_n (pc := 86) cx (dA ddX1_turnTo (i := 46) rfl) rfl ?_
        refine gX1_12 (pc := 87) (rfA hP.2.1) cx (dA ddX1_turnTo (i := 47) rfl) h0 ?_
        refine x_iload_n (pc := 90) cx (dA ddX1_turnTo (i := 48) rfl) rfl ?_
        refine x_iconst (pc := 91) (v := nI 2) cx (dA ddX1_turnTo (i := 49) rfl) (by decide) ?_
        refine x_V2 (pc := 92) mX1_78 hh (c_X0_sumOf (V := (sAI V1 (p + 3) s (nI (sumP M s 0)))) hP.2.2.1 (hI.1.sAI (by omega)) mB (s := s) (w := 2) (by omega) (by omega)) cx (dA ddX1_turnTo (i := 50) rfl) (kI ?_)
        refine x_SN3 (pc := 95) mX1_82 (c_X7_put hP.2.2.2.2.1.2 (by omega) (by decide)) cx (dA ddX1_turnTo (i := 51) rfl) (kV ?_)
        refine x_aload_n (pc := 98) cx (dA ddX1_turnTo (i := 52) rfl) rfl ?_
        refine gX1_25 (pc := 99) (rfA hP.2.2.2.2.2.1.1) cx (dA ddX1_turnTo (i := 53) rfl) h0 ?_
        refine x_iload_n (pc := 102) cx (dA ddX1_turnTo (i := 54) rfl) rfl ?_
        refine x_aload_n (pc := 103) cx (dA ddX1_turnTo (i := 55) rfl) rfl ?_
        refine gX1_12 (pc := 104) (rfA hP.2.1) cx (dA ddX1_turnTo (i := 56) rfl) h0 ?_
        refine x_iload_n (pc := 107) cx (dA ddX1_turnTo (i := 57) rfl) rfl ?_
        refine x_iconst (pc := 108) (v := nI 4) cx (dA ddX1_turnTo (i := 58) rfl) (by decide) ?_
        refine x_V2 (pc := 109) mX1_78 hh (c_X0_sumOf (V := (sAI (sAI V1 (p + 3) s (nI (sumP M s 0))) (p + 4) s (nI (sumP M s 2)))) hP.2.2.1 ((hI.1.sAI (by omega)).sAI (by omega)) mB (s := s) (w := 4) (by omega) (by omega)) cx (dA ddX1_turnTo (i := 59) rfl) (kI ?_)
        refine x_SN3 (pc := 112) mX1_82 (c_X7_put hP.2.2.2.2.2.1.2 (by omega) (by decide)) cx (dA ddX1_turnTo (i := 60) rfl) (kV ?_)
        refine x_aload_n (pc := 115) cx (dA ddX1_turnTo (i := 61) rfl) rfl ?_
        refine gX1_28 (pc := 116) (rfA hP.2.2.2.2.2.2.1.1) cx (dA ddX1_turnTo (i := 62) rfl) h0 ?_
        refine x_iload_n (pc := 119) cx (dA ddX1_turnTo (i := 63) rfl) rfl ?_
        refine x_aload_n (pc := 120) cx (dA ddX1_turnTo (i := 64) rfl) rfl ?_
        refine gX1_12 (pc := 121) (rfA hP.2.1) cx (dA ddX1_turnTo (i := 65) rfl) h0 ?_
        refine x_iload_n (pc := 124) cx (dA ddX1_turnTo (i := 66) rfl) rfl ?_
        refine x_V1 (pc := 125) mX1_86 hh (c_X0_fillFor (V := (sAI (sAI (sAI V1 (p + 3) s (nI (sumP M s 0))) (p + 4) s (nI (sumP M s 2))) (p + 5) s (nI (sumP M s 4)))) hP.2.2.1 (((hI.1.sAI (by omega)).sAI (by omega)).sAI (by omega)) mB (s := s) (by omega)) cx (dA ddX1_turnTo (i := 67) rfl) (kI ?_)
        refine x_SN3 (pc := 128) mX1_82 (c_X7_put hP.2.2.2.2.2.2.1.2 (by omega) (by decide)) cx (dA ddX1_turnTo (i := 68) rfl) (kV ?_)
        refine x_iinc (pc := 131) cx (dA ddX1_turnTo (i := 69) rfl) rfl (iinc1 _) (by decide) rfl ?_
        refine x_goto (pc := 134) (tgt := 56) cx (dA ddX1_turnTo (i := 70) rfl) (by decide) ?_
        exact x_enter (ih (by omega) _ (tu_s hI)) ⟨.inr rfl, .inr rfl, trivial⟩
    exact x_enter (L56 0 (Nat.zero_le _) _ (tu_0 oV)) ⟨.inr rfl, .inr rfl, trivial⟩
  · have lk := zN.like zM (b2p_ne c8)
    subst lk
    refine x_return (pc := 11) cx (dA ddX1_turnTo (i := 5) rfl) (by first | exact Nat.le_of_ble_eq_true rfl | omega) (by first | exact Nat.le_of_ble_eq_true rfl | omega) ?_
    exact ⟨rfl, rfl, hK hM, SameB.refl _ _ _⟩
