/-- a world becomes another: i houses are done -/
def wbI (V V1 : zV) (w o i : Nat) : Prop := (∀ x, x < w ∨ w + 17 ≤ x → same4 V V1 x) ∧ V1.1 301 w = V.1 301 o ∧ V1.1 302 w = V.1 302 o ∧ (∀ f, 252 ≤ f → f ≤ 257 → V1.1 f (w + 2) = V.1 f (o + 2)) ∧ (∀ j, j < 20 → V1.2.2.1 (w + 2 + 1 + 1) j = V.2.2.1 (o + 2 + 1 + 1) j) ∧ ∀ k, k < i → ∀ j, j < 20 → V1.2.2.1 (w + 5 + 2 * k + 1) j = V.2.2.1 (o + 5 + 2 * k + 1) j
theorem wbI_s {V V1 : zV} {w o i : Nat} (hi : i < 6) (ho : o + 17 ≤ w ∨ w + 17 ≤ o) (h : wbI V V1 w o i) : wbI V (rAI V1 (w + 5 + 2 * i + 1) 0 20 (fun j => V1.2.2.1 (o + 5 + 2 * i + 1) j)) w o (i + 1) := by
  obtain ⟨a, b, c, d, e, f⟩ := h
  refine ⟨fun x hx => (a x hx).rAI (by omega), b, c, d, fun j hj => (rAI_ne (by omega) j).trans (e j hj), fun k hk j hj => ?_⟩
  by_cases q : k = i
  · subst q
    exact (rAI_at hj).trans ((a _ (by omega)).2.2.1 j)
  · exact (rAI_ne (by omega) j).trans (f k (by omega) j hj)
theorem wc_get {V : zV} {w o f : Nat} (ow : o ≠ w) (h1 : 252 ≤ f) (h2 : f ≤ 257) : (wcV V w o).1 f w = V.1 f o := by
  unfold wcV sI u2
  rcases (show f = 252 ∨ f = 253 ∨ f = 254 ∨ f = 255 ∨ f = 256 ∨ f = 257 by omega) with h | h | h | h | h | h <;> subst h <;> simp [ow]
theorem wc_ne {V : zV} {w o x : Nat} (h : x ≠ w) (f : Nat) : (wcV V w o).1 f x = V.1 f x := by
  unfold wcV
  rw [sI_na h, sI_na h, sI_na h, sI_na h, sI_na h, sI_na h]
theorem wbI_0 {V : zV} {w o : Nat} (ho : o + 17 ≤ w ∨ w + 17 ≤ o) : wbI V (wcV (rAI (sI (sI V 301 w (V.1 301 o)) 302 w (V.1 302 o)) (w + 2 + 1 + 1) 0 20 (fun j => (sI (sI V 301 w (V.1 301 o)) 302 w (V.1 302 o)).2.2.1 (o + 2 + 1 + 1) j)) (w + 2) (o + 2)) w o 0 := by
  refine ⟨fun x hx => ⟨fun i => ?_, fun i => rfl, fun j => ?_, fun j => rfl⟩, ?_, ?_, fun f h1 h2 => ?_, fun j hj => ?_, fun k hk => absurd hk (Nat.not_lt_zero _)⟩
  · rw [wc_ne (by omega)]
    show (sI (sI V 301 w (V.1 301 o)) 302 w (V.1 302 o)).1 i x = _
    rw [sI_na (by omega), sI_na (by omega)]
  · show (rAI _ (w + 2 + 1 + 1) 0 20 _).2.2.1 x j = _
    rw [rAI_ne (by omega)]
    rfl
  · rw [wc_ne (by omega)]
    show (sI (sI V 301 w (V.1 301 o)) 302 w (V.1 302 o)).1 301 w = _
    rw [sI_ne (by decide), sI_eq]
  · rw [wc_ne (by omega)]
    show (sI (sI V 301 w (V.1 301 o)) 302 w (V.1 302 o)).1 302 w = _
    rw [sI_eq]
  · rw [wc_get (by omega) h1 h2]
    show (sI (sI V 301 w (V.1 301 o)) 302 w (V.1 302 o)).1 f (o + 2) = _
    rw [sI_na (by omega), sI_na (by omega)]
  · show (rAI _ (w + 2 + 1 + 1) 0 20 _).2.2.1 (w + 2 + 1 + 1) j = _
    rw [rAI_at hj]
    rfl
theorem c_X6_become {l : Launch} {Z : zP} {G : zG} {V : zV} {w : Nat} (hD : WorldAt Z G w) {o : Nat} (oD : WorldAt Z G o) (ho : o + 17 ≤ w ∨ w + 17 ≤ o) : CT l Z yX6_become cX6_become 3 none 3 0 0 [.ref w, .ref o] G V (pVx (sR G 251 (w + 2) (G.2.2.1 251 (o + 2))) (fun V2 => wbI V V2 w o 6)) := by
  refine CT.of (by decide +kernel) (Nat.le_of_ble_eq_true rfl) (fun X hX cx => ?_)
  subst hX
  show Wm Z X 3 G V 0 0 _ 0 [(0, some (.ref w)), (1, some (.ref o))] []
  have h0 := hD.1
  have hA := hD.2.2.1
  have oA := oD.2.2.1
  refine x_aload_n (pc := 0) cx (dA ddX6_become (i := 0) rfl) rfl ?_
  refine x_aload_n (pc := 1) cx (dA ddX6_become (i := 1) rfl) rfl ?_
  refine gX6_29 (pc := 2) rfl cx (dA ddX6_become (i := 2) rfl) oD.1 ?_
  refine pX6_29 (pc := 5)  cx (dA ddX6_become (i := 3) rfl) h0 ?_
  refine x_aload_n (pc := 8) cx (dA ddX6_become (i := 4) rfl) rfl ?_
  refine x_aload_n (pc := 9) cx (dA ddX6_become (i := 5) rfl) rfl ?_
  refine gX6_17 (pc := 10) (congrArg Value.int (show (sI V 301 w (V.1 301 o)).1 302 o = V.1 302 o from sI_ne (by decide))) cx (dA ddX6_become (i := 6) rfl) oD.1 ?_
  refine pX6_17 (pc := 13)  cx (dA ddX6_become (i := 7) rfl) h0 ?_
  refine x_aload_n (pc := 16) cx (dA ddX6_become (i := 8) rfl) rfl ?_
  refine gX6_24 (pc := 17) (rfA hD.2.2.2.1) cx (dA ddX6_become (i := 9) rfl) h0 ?_
  refine x_aload_n (pc := 20) cx (dA ddX6_become (i := 10) rfl) rfl ?_
  refine gX6_24 (pc := 21) (rfA oD.2.2.2.1) cx (dA ddX6_become (i := 11) rfl) oD.1 ?_
  refine x_V1 (pc := 24) mX6_32 hD.2.2.2.2.1.1 (c_X5_become hD.2.2.2.2.1 oD.2.2.2.2.1 (by omega)) cx (dA ddX6_become (i := 12) rfl) (kV ?_)
  refine x_iconst (pc := 27) (v := nI 0) cx (dA ddX6_become (i := 13) rfl) (by decide) ?_
  refine x_istore_n (pc := 28) cx (dA ddX6_become (i := 14) rfl) (by decide) rfl ?_
  have L29 : ∀ i, i ≤ 6 → ∀ V1, wbI V V1 w o i → Wm Z X 3 (sR G 251 (w + 2) (G.2.2.1 251 (o + 2))) V1 0 0 (rQ Z X 0 0 (pVx (sR G 251 (w + 2) (G.2.2.1 251 (o + 2))) (fun V2 => wbI V V2 w o 6))) 29 [(0, some (.ref w)), (1, some (.ref o)), (2, some (.int (nI i)))] [] := by
    refine lpU 6 (fun i hi ih => ?_)
    intro V1 hI
    refine x_iload_n (pc := 29) cx (dA ddX6_become (i := 15) rfl) rfl ?_
    refine x_aload_n (pc := 30) cx (dA ddX6_become (i := 16) rfl) rfl ?_
    refine gX6_11 (pc := 31) (rfA hD.2.1) cx (dA ddX6_become (i := 17) rfl) h0 ?_
    refine x_alen (pc := 34) cx (dA ddX6_become (i := 18) rfl) hA (by decide) ?_
    refine x_icmp_ge (pc := 35) (tgt := 86) cx (dA ddX6_become (i := 19) rfl) (by decide) (fun c35 => ?_) (fun c35 => ?_)
    · have c35 := cleT (by omega) (by omega) c35
      have ei : i = 6 := by omega
      subst ei
      refine x_return (pc := 86) cx (dA ddX6_become (i := 46) rfl) (by first | exact Nat.le_of_ble_eq_true rfl | omega) (by first | exact Nat.le_of_ble_eq_true rfl | omega) ?_
      exact ⟨rfl, rfl, hI⟩
    · have c35 := cleF (by omega) (by omega) c35
      refine x_iload_n (pc := 38) cx (dA ddX6_become (i := 20) rfl) rfl ?_
      refine x_aload_n (pc := 39) cx (dA ddX6_become (i := 21) rfl) rfl ?_
      refine gX6_11 (pc := 40) (rfA oD.2.1) cx (dA ddX6_become (i := 22) rfl) oD.1 ?_
      refine x_alen (pc := 43) cx (dA ddX6_become (i := 23) rfl) oA (by decide) ?_
      refine x_icmp_ge (pc := 44) (tgt := 86) cx (dA ddX6_become (i := 24) rfl) (by decide) (fun c44 => ?_) (fun c44 => ?_)
      · have c44 := cleT (by omega) (by omega) c44
        exact absurd c44 (by omega)
      · have c44 := cleF (by omega) (by omega) c44
        refine x_aload_n (pc := 47) cx (dA ddX6_become (i := 25) rfl) rfl ?_
        refine gX6_11 (pc := 48) (rfA hD.2.1) cx (dA ddX6_become (i := 26) rfl) h0 ?_
        refine x_iload_n (pc := 51) cx (dA ddX6_become (i := 27) rfl) rfl ?_
        refine x_aaload (pc := 52) cx (dA ddX6_become (i := 28) rfl) hA (by decide) (by decide) (by omega) (by decide) ?_
        rw [show va_rf ((sR G 251 (w + 2) (G.2.2.1 251 (o + 2))).2.2.2 (w + 1) i) = .ref (w + 5 + 2 * i) from arA (hD.2.2.2.2.2 i (by omega)).1]
        refine x_ifnull_s (pc := 53) cx (dA ddX6_become (i := 29) rfl) ?_
        refine x_aload_n (pc := 56) cx (dA ddX6_become (i := 30) rfl) rfl ?_
        refine gX6_11 (pc := 57) (rfA oD.2.1) cx (dA ddX6_become (i := 31) rfl) oD.1 ?_
        refine x_iload_n (pc := 60) cx (dA ddX6_become (i := 32) rfl) rfl ?_
        refine x_aaload (pc := 61) cx (dA ddX6_become (i := 33) rfl) oA (by decide) (by decide) (by omega) (by decide) ?_
        rw [show va_rf ((sR G 251 (w + 2) (G.2.2.1 251 (o + 2))).2.2.2 (o + 1) i) = .ref (o + 5 + 2 * i) from arA (oD.2.2.2.2.2 i (by omega)).1]
        refine x_ifnull_s (pc := 62) cx (dA ddX6_become (i := 34) rfl) ?_
        refine x_aload_n (pc := 65) cx (dA ddX6_become (i := 35) rfl) rfl ?_
        refine gX6_11 (pc := 66) (rfA hD.2.1) cx (dA ddX6_become (i := 36) rfl) h0 ?_
        refine x_iload_n (pc := 69) cx (dA ddX6_become (i := 37) rfl) rfl ?_
        refine x_aaload (pc := 70) cx (dA ddX6_become (i := 38) rfl) hA (by decide) (by decide) (by omega) (by decide) ?_
        rw [show va_rf ((sR G 251 (w + 2) (G.2.2.1 251 (o + 2))).2.2.2 (w + 1) i) = .ref (w + 5 + 2 * i) from arA (hD.2.2.2.2.2 i (by omega)).1]
        refine x_aload_n (pc := 71) cx (dA ddX6_become (i := 39) rfl) rfl ?_
        refine gX6_11 (pc := 72) (rfA oD.2.1) cx (dA ddX6_become (i := 40) rfl) oD.1 ?_
        refine x_iload_n (pc := 75) cx (dA ddX6_become (i := 41) rfl) rfl ?_
        refine x_aaload (pc := 76) cx (dA ddX6_become (i := 42) rfl) oA (by decide) (by decide) (by omega) (by decide) ?_
        rw [show va_rf ((sR G 251 (w + 2) (G.2.2.1 251 (o + 2))).2.2.2 (o + 1) i) = .ref (o + 5 + 2 * i) from arA (oD.2.2.2.2.2 i (by omega)).1]
        refine x_V1 (pc := 77) mX6_36 ((hD.2.2.2.2.2 i (by omega)).2.1) (c_X0_become (show HouseAt Z (sR G 251 (w + 2) (G.2.2.1 251 (o + 2))) (w + 5 + 2 * i) from (hD.2.2.2.2.2 i (by omega)).2) (show HouseAt Z (sR G 251 (w + 2) (G.2.2.1 251 (o + 2))) (o + 5 + 2 * i) from (oD.2.2.2.2.2 i (by omega)).2)) cx (dA ddX6_become (i := 43) rfl) (kV ?_)
        refine x_iinc (pc := 80) cx (dA ddX6_become (i := 44) rfl) rfl (iinc1 _) (by decide) rfl ?_
        refine x_goto (pc := 83) (tgt := 29) cx (dA ddX6_become (i := 45) rfl) (by decide) ?_
        exact x_enter (ih (by omega) _ (wbI_s (by omega) ho hI)) ⟨.inr rfl, .inr rfl, .inr rfl, trivial⟩
  exact x_enter (L29 0 (Nat.zero_le _) _ (wbI_0 ho)) ⟨.inr rfl, .inr rfl, .inr rfl, trivial⟩
