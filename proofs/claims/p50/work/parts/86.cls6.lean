theorem WeekV.sm {V V' : zV} {w : Nat} {τ : WK} (h : WeekV V w τ) (hs : ∀ f, 252 ≤ f → f ≤ 257 → V'.1 f w = V.1 f w) : WeekV V' w τ := by
  obtain ⟨a, b, c, d, e, f⟩ := h
  exact ⟨(hs _ (by omega) (by omega)).trans a, (hs _ (by omega) (by omega)).trans b, (hs _ (by omega) (by omega)).trans c, (hs _ (by omega) (by omega)).trans d, (hs _ (by omega) (by omega)).trans e, (hs _ (by omega) (by omega)).trans f⟩
theorem WdC.bec {Z : zP} {G G' : zG} {V V' : zV} {col : Nat → Nat} {w o : Nat} {W : WD} (h : WdC Z G V col o W) (ht : G.1 ≤ G'.1) (hs : ∀ a, a < G.1 → col a = 3 → sameG G G' a ∧ same4 V V' a) (hg : G'.2.2.1 251 (w + 2) = G.2.2.1 251 (o + 2)) (hb : wbI V V' w o 6) : WdC Z G' V' col w W := by
  obtain ⟨a, b, c, d, e, f⟩ := h
  obtain ⟨-, b1, b2, b3, b4, b5⟩ := hb
  refine ⟨b1.trans a, b, fun i hi => ⟨fun j hj => (b5 i (by omega) j hj).trans ((c i hi).1 j hj), (c i hi).2⟩, b2.trans d, fun z => hg.trans (e z), fun ws hws => ?_⟩
  obtain ⟨q, q1, q2, q3, q4, q5, q6, q7⟩ := f ws hws
  exact ⟨q, hg.trans q1, q2.st ht (fun _ _ => rfl) hs, fun j hj => (b4 j hj).trans (q3 j hj), q4, q5, ⟨(b3 _ (by omega) (by omega)).trans q6.1, (b3 _ (by omega) (by omega)).trans q6.2.1, (b3 _ (by omega) (by omega)).trans q6.2.2.1, (b3 _ (by omega) (by omega)).trans q6.2.2.2.1, (b3 _ (by omega) (by omega)).trans q6.2.2.2.2.1, (b3 _ (by omega) (by omega)).trans q6.2.2.2.2.2⟩, q7⟩
theorem gW.sR {G : zG} {x a : Nat} {v : Option Nat} (ha : a = x + 3 ∨ a = x + 20 ∨ a = x + 67) : gW G (sR G 251 a v) x := ⟨Nat.le_refl _, fun b _ _ => ⟨rfl, fun f hf => sR_ne hf, fun h1 h2 h3 h4 h5 => (sameG.refl G b).sR (by omega)⟩⟩
theorem kEx {α : Type} {Z : zP} {X : xP} {nL : Nat} {k n : Nat} {Q : State → Prop} {pc : Nat} {lw : List (Nat × Option Value)} {G1 : zG} {F : α → zV} {v : Int32} {rest : List Value} (h : ∀ τ, Wm Z X nL G1 (F τ) k n Q pc lw (.int v :: rest)) : ∀ (r : Option Value) (G' : zG) (V' : zV), (∃ τ, pI v G1 (F τ) r G' V') → Wm Z X nL G' V' k n Q pc lw (r.toList ++ rest) := by
  rintro r G' V' ⟨τ, rfl, rfl, rfl⟩
  exact h τ
theorem rAI_cg {V : zV} {a n : Nat} {f g : Nat → Int32} (h : ∀ j, j < n → f j = g j) : rAI V a 0 n f = rAI V a 0 n g := by
  have e : rw2 V.2.2.1 a 0 n f = rw2 V.2.2.1 a 0 n g := by
    funext b j
    by_cases eb : b = a
    · subst eb
      by_cases ej : j < n
      · rw [rw2_in0 ej, rw2_in0 ej, h j ej]
      · rw [rw2_out (by omega), rw2_out (by omega)]
    · rw [rw2_ne eb, rw2_ne eb]
  show (V.1, V.2.1, rw2 V.2.2.1 a 0 n f, V.2.2.2) = (V.1, V.2.1, rw2 V.2.2.1 a 0 n g, V.2.2.2)
  rw [e]
theorem same4.wk {V V' : zV} {x w : Nat} {τ : WK} (h : same4 V V' x) (ha : x ≠ w) : same4 V (wkV V' w τ) x := ⟨fun f => (wkV_ex ha f).trans (h.1 f), h.2⟩
theorem c_X7_begin {l : Launch} {Z : zP} {G : zG} {V : zV} {x : Nat} {col : Nat → Nat} {S : SX} (hRC : RC Z G V x col S) {h r : Int32} : CT l Z yX7_begin cX7_begin 5 (some .int) 8 0 0 [.ref x, .int h, .int r] G V (pCI Z G V x col (fBegin S h r)) := by
  refine CT.of (by decide +kernel) (Nat.le_of_ble_eq_true rfl) (fun X hX cx => ?_)
  subst hX
  show Wm Z X 5 G V 0 0 _ 0 [(0, some (.ref x)), (1, some (.int h)), (2, some (.int r))] []
  have hQ := hRC.1
  have h0 := hQ.1
  have hWd := hRC.2.2.2.2.1
  have c6 := hWd.2.1
  have hO := RO.refl hRC
  refine x_aload_n (pc := 0) cx (dA ddX7_begin (i := 0) rfl) rfl ?_
  refine gX7_10 (pc := 1) (rfA hQ.2.1.1) cx (dA ddX7_begin (i := 1) rfl) h0 ?_
  refine x_iload_n (pc := 4) cx (dA ddX7_begin (i := 2) rfl) rfl ?_
  by_cases ch : okc S h
  · obtain ⟨i, hi, rfl, ti⟩ := i32_in ch
    have i6 : i < 6 := by omega
    have eX : hX S (nI i) = S.1.2.1 i := hX_at (by omega)
    obtain ⟨hV, hN, zN⟩ := hWd.2.2.1 i hi
    have oH := (hQ.2.1.2.2.2.2.2.2 i i6).2
    have hB := hN.1
    have b4 := hB.1
    have n125 := st125 b4
    have h06 := hN.2.1
    have ehs : hsA (x + 1) S.1.1 (nI i) = some (x + 1 + 5 + 2 * i) := by unfold hsA; rw [nI_toInt (by omega), if_pos (by omega)]; rfl
    refine x_V1 (pc := 5) mX7_156 hQ.2.1.2.1 (c_X6_houseAt hQ.2.1.2 hWd.1 c6) cx (dA ddX7_begin (i := 3) rfl) (kR ?_)
    rw [ehs, show va_rf (some (x + 1 + 5 + 2 * i)) = .ref (x + 1 + 5 + 2 * i) from rfl]
    refine x_astore_n (pc := 8) cx (dA ddX7_begin (i := 4) rfl) (by decide) rfl ?_
    refine x_aload_n (pc := 9) cx (dA ddX7_begin (i := 5) rfl) rfl ?_
    refine x_ifnull_s (pc := 10) cx (dA ddX7_begin (i := 6) rfl) ?_
    refine x_iload_n (pc := 13) cx (dA ddX7_begin (i := 7) rfl) rfl ?_
    refine x_S1 (pc := 14) mX7_70 c_X7_isShelf cx (dA ddX7_begin (i := 8) rfl) (kI ?_)
    refine x_if_ne (pc := 17) (tgt := 27) cx (dA ddX7_begin (i := 9) rfl) (by decide) (fun c17 => ?_) (fun c17 => ?_)
    · have cr0 := b2i_ne c17
      obtain ⟨r, hr, rfl, tr⟩ := i32_in (x := r) (n := 8) cr0
      have cr : oks (nI r) := cr0
      refine x_aload_n (pc := 27) cx (dA ddX7_begin (i := 14) rfl) rfl ?_
      refine x_iload_n (pc := 28) cx (dA ddX7_begin (i := 15) rfl) rfl ?_
      rcases sh3 (S.2.2.2.1 r) with e | ⟨q, e⟩ | ⟨q, e⟩
      · obtain ⟨e7, e8⟩ := hO.1.sh0 hr e
        refine x_V1 (pc := 29) mX7_99 h0 (c_X7_ruleAt hQ) cx (dA ddX7_begin (i := 16) rfl) (kR ?_)
        rw [e8, show va_rf none = .null from rfl]
        refine x_astoreN (pc := 32) cx (dA ddX7_begin (i := 17) rfl) (by decide) rfl ?_
        refine x_aloadN (pc := 34) cx (dA ddX7_begin (i := 18) rfl) rfl ?_
        refine x_ifnonnull_n (pc := 36) cx (dA ddX7_begin (i := 19) rfl) ?_
        refine x_aload_n (pc := 39) cx (dA ddX7_begin (i := 20) rfl) rfl ?_
        refine x_aload_n (pc := 40) cx (dA ddX7_begin (i := 21) rfl) rfl ?_
        refine x_iload_n (pc := 41) cx (dA ddX7_begin (i := 22) rfl) rfl ?_
        refine x_V1 (pc := 42) mX7_89 h0 (c_X7_lackOnShelf hQ) cx (dA ddX7_begin (i := 23) rfl) (kI ?_)
        rw [if_pos ⟨e7, e8⟩]
        refine x_V1 (pc := 45) mX7_74 h0 (c_X7_refuse hQ (i := 2) (by decide) rfl) cx (dA ddX7_begin (i := 24) rfl) (kI ?_)
        refine x_ireturn (pc := 48) cx (dA ddX7_begin (i := 25) rfl) (by first | exact Nat.le_of_ble_eq_true rfl | omega) (by first | exact Nat.le_of_ble_eq_true rfl | omega) ?_
        exact pCI.r hO (by decide) (by unfold fBegin; rw [if_pos ⟨ch, cr⟩, (shX_at hr).trans e])
      · obtain ⟨e8, a, e7, hRw, rT, t5, rE, -, -⟩ := hO.1.shl hr e
        refine x_V1 (pc := 29) mX7_99 h0 (c_X7_ruleAt hQ) cx (dA ddX7_begin (i := 16) rfl) (kR ?_)
        rw [e8, show va_rf none = .null from rfl]
        refine x_astoreN (pc := 32) cx (dA ddX7_begin (i := 17) rfl) (by decide) rfl ?_
        refine x_aloadN (pc := 34) cx (dA ddX7_begin (i := 18) rfl) rfl ?_
        refine x_ifnonnull_n (pc := 36) cx (dA ddX7_begin (i := 19) rfl) ?_
        refine x_aload_n (pc := 39) cx (dA ddX7_begin (i := 20) rfl) rfl ?_
        refine x_aload_n (pc := 40) cx (dA ddX7_begin (i := 21) rfl) rfl ?_
        refine x_iload_n (pc := 41) cx (dA ddX7_begin (i := 22) rfl) rfl ?_
        refine x_V1 (pc := 42) mX7_89 h0 (c_X7_lackOnShelf hQ) cx (dA ddX7_begin (i := 23) rfl) (kI ?_)
        rw [if_neg (fun z => by rw [e7] at z; cases z.1)]
        refine x_V1 (pc := 45) mX7_74 h0 (c_X7_refuse hQ (i := 1) (by decide) rfl) cx (dA ddX7_begin (i := 24) rfl) (kI ?_)
        refine x_ireturn (pc := 48) cx (dA ddX7_begin (i := 25) rfl) (by first | exact Nat.le_of_ble_eq_true rfl | omega) (by first | exact Nat.le_of_ble_eq_true rfl | omega) ?_
        exact pCI.r hO (by decide) (by unfold fBegin; rw [if_pos ⟨ch, cr⟩, (shX_at hr).trans e])
      · obtain ⟨e7, a, e8, hR⟩ := hO.1.shr hr e
        refine x_V1 (pc := 29) mX7_99 h0 (c_X7_ruleAt hQ) cx (dA ddX7_begin (i := 16) rfl) (kR ?_)
        rw [e8, show va_rf (some a) = .ref a from rfl]
        refine x_astore (pc := 32) cx (dA ddX7_begin (i := 17) rfl) (by decide) rfl ?_
        refine x_aload (pc := 34) cx (dA ddX7_begin (i := 18) rfl) rfl ?_
        refine x_ifnonnull_s (pc := 36) (tgt := 49) cx (dA ddX7_begin (i := 19) rfl) (by decide) ?_
        refine x_aload_n (pc := 49) cx (dA ddX7_begin (i := 26) rfl) rfl ?_
        refine gX7_10 (pc := 50) (rfA hQ.2.1.1) cx (dA ddX7_begin (i := 27) rfl) h0 ?_
        refine gX7_307 (pc := 53) (rfA hQ.2.1.2.2.2.2.1) cx (dA ddX7_begin (i := 28) rfl) hQ.2.1.2.1 ?_
        refine x_aload_n (pc := 56) cx (dA ddX7_begin (i := 29) rfl) rfl ?_
        refine x_aload (pc := 57) cx (dA ddX7_begin (i := 30) rfl) rfl ?_
        refine x_V2 (pc := 59) mX7_310 hQ.2.1.2.2.2.2.2.1.1 (c_X5_start hQ.2.1.2.2.2.2.2.1 oH hV hB (by omega)) cx (dA ddX7_begin (i := 31) rfl) (kV ?_)
        refine x_aload_n (pc := 62) cx (dA ddX7_begin (i := 32) rfl) rfl ?_
        have oH2 := ((hQ.g (gW.sR (v := some a) (a := x + 1 + 2) (Or.inl (by omega)))).2.1.2.2.2.2.2.2 i i6).2
        refine x_V0 (pc := 63) mX7_193 oH2.1 (c_X0_days (V := (wkV (rAI V (x + 1 + 2 + 1 + 1) 0 20 (fun j => V.2.2.1 (x + 1 + 5 + 2 * i + 1) j)) (x + 1 + 2) (S.1.2.1 i 0, 0, 0, 0, 0, 0))) oH2 (N := (S.1.2.1 i)) (hV.same (((same4.refl V _).rAI (by omega)).wk (by omega))) hB) cx (dA ddX7_begin (i := 33) rfl) (kI ?_)
        refine x_ireturn (pc := 66) cx (dA ddX7_begin (i := 34) rfl) (by first | exact Nat.le_of_ble_eq_true rfl | omega) (by first | exact Nat.le_of_ble_eq_true rfl | omega) ?_
        exact pCI.g (S' := (putW S (S.1.1, S.1.2.1, S.1.2.2.1, some ((S.1.2.1 i), q, ((S.1.2.1 i) 0, 0, 0, 0, 0, 0))))) (by unfold fBegin; rw [if_pos ⟨ch, cr⟩, (shX_at hr).trans e, eX]) (hRC.tg (S' := (putW S (S.1.1, S.1.2.1, S.1.2.2.1, some ((S.1.2.1 i), q, ((S.1.2.1 i) 0, 0, 0, 0, 0, 0))))) (T := fun a => a = x + 1 + 2 ∨ a = x + 1 + 2 + 1 + 1) (gW.sR (Or.inl (by omega))) (fun _ _ => rfl) hRC.2.2.2.1 (fun a _ _ hT => ⟨(sameG.refl G a).sR (by omega), ((same4.refl V a).rAI (by omega)).wk (by omega)⟩) (fun a ha e => by rcases hRC.out3 e with q | q <;> omega) (Or.inr ⟨(wkV_lo (Or.inr (by decide))).trans hWd.1, c6, fun j hj => ⟨(hWd.2.2.1 j hj).1.same (((same4.refl V _).rAI (by omega)).wk (by omega)), (hWd.2.2.1 j hj).2⟩, (wkV_lo (Or.inr (by decide))).trans hWd.2.2.2.1, fun z => (by cases z), fun ws hws => by cases hws; exact ⟨a, sR_eq, hR.st (Nat.le_refl _) (fun _ _ => rfl) (fun a _ h2 => by have o := hRC.out3 h2; exact ⟨(sameG.refl G a).sR (by omega), ((same4.refl V a).rAI (by omega)).wk (by omega)⟩), fun j hj => (rAI_at hj).trans (hV j hj), hN, zN, wkV_V, Nat.le_refl _, Nat.pow_pos (by decide)⟩⟩) (Or.inl ⟨fun a _ _ => by omega, by omega, rfl⟩) (Or.inl ⟨by omega, by omega, rfl⟩) (Or.inl ⟨by omega, by omega, fun a ha e => by rcases hRC.out2 ha with q | q <;> omega, rfl⟩) (Or.inl ⟨by omega, rfl⟩) (fun i hi => Or.inl fun a _ _ => by omega) (Or.inl fun a _ _ => by omega) (Or.inl fun a _ _ => by omega)) (Nat.le_refl _) (fun _ _ => rfl) (fun a _ ha => by have o := hRC.out0 ha; exact ⟨(sameG.refl G a).sR (by omega), ((same4.refl V a).rAI (by omega)).wk (by omega)⟩)
    · have cr := b2i_eq c17
      refine x_aload_n (pc := 20) cx (dA ddX7_begin (i := 10) rfl) rfl ?_
      refine x_bipush (pc := 21) (v := -2) cx (dA ddX7_begin (i := 11) rfl) (by decide) ?_
      refine x_V1 (pc := 23) mX7_74 h0 (c_X7_refuse hQ (i := 0) (by decide) rfl) cx (dA ddX7_begin (i := 12) rfl) (kI ?_)
      refine x_ireturn (pc := 26) cx (dA ddX7_begin (i := 13) rfl) (by first | exact Nat.le_of_ble_eq_true rfl | omega) (by first | exact Nat.le_of_ble_eq_true rfl | omega) ?_
      first | exact pCI.r hO (by decide) (if_neg (fun q => ch q.1)) | exact pCI.r hO (by decide) (if_neg (fun q => cr q.2))
  · have ehs : hsA (x + 1) S.1.1 h = none := if_neg ch
    refine x_V1 (pc := 5) mX7_156 hQ.2.1.2.1 (c_X6_houseAt hQ.2.1.2 hWd.1 c6) cx (dA ddX7_begin (i := 3) rfl) (kR ?_)
    rw [ehs, show va_rf none = .null from rfl]
    refine x_astore_nN (pc := 8) cx (dA ddX7_begin (i := 4) rfl) (by decide) rfl ?_
    refine x_aload_nN (pc := 9) cx (dA ddX7_begin (i := 5) rfl) rfl ?_
    refine x_ifnull_n (pc := 10) (tgt := 20) cx (dA ddX7_begin (i := 6) rfl) (by decide) ?_
    refine x_aload_n (pc := 20) cx (dA ddX7_begin (i := 10) rfl) rfl ?_
    refine x_bipush (pc := 21) (v := -2) cx (dA ddX7_begin (i := 11) rfl) (by decide) ?_
    refine x_V1 (pc := 23) mX7_74 h0 (c_X7_refuse hQ (i := 0) (by decide) rfl) cx (dA ddX7_begin (i := 12) rfl) (kI ?_)
    refine x_ireturn (pc := 26) cx (dA ddX7_begin (i := 13) rfl) (by first | exact Nat.le_of_ble_eq_true rfl | omega) (by first | exact Nat.le_of_ble_eq_true rfl | omega) ?_
    first | exact pCI.r hO (by decide) (if_neg (fun q => ch q.1)) | exact pCI.r hO (by decide) (if_neg (fun q => cr q.2))
theorem c_X7_image {l : Launch} {Z : zP} {G : zG} {V : zV} {x : Nat} {col : Nat → Nat} {S : SX} (hRC : RC Z G V x col S) : CT l Z yX7_image cX7_image 1 (some .int) 8 0 0 [.ref x] G V (pCI Z G V x col (fImage S)) := by
  refine CT.of (by decide +kernel) (Nat.le_of_ble_eq_true rfl) (fun X hX cx => ?_)
  subst hX
  show Wm Z X 1 G V 0 0 _ 0 [(0, some (.ref x))] []
  have hQ := hRC.1
  have h0 := hQ.1
  have hWd := hRC.2.2.2.2.1
  have c6 := hWd.2.1
  have hO := RO.refl hRC
  refine x_aload_n (pc := 0) cx (dA ddX7_image (i := 0) rfl) rfl ?_
  refine gX7_16 (pc := 1) (rfA hQ.2.2.1.1) cx (dA ddX7_image (i := 1) rfl) h0 ?_
  refine x_aload_n (pc := 4) cx (dA ddX7_image (i := 2) rfl) rfl ?_
  refine gX7_10 (pc := 5) (rfA hQ.2.1.1) cx (dA ddX7_image (i := 3) rfl) h0 ?_
  refine x_V1 (pc := 8) mX7_338 hQ.2.2.1.2.1 (c_X6_become hQ.2.2.1.2 hQ.2.1.2 (Or.inl (by omega))) cx (dA ddX7_image (i := 4) rfl) (kVx fun V2 ob => ?_)
  refine x_aload_n (pc := 11) cx (dA ddX7_image (i := 5) rfl) rfl ?_
  refine x_iconst (pc := 12) (v := nI 1) cx (dA ddX7_image (i := 6) rfl) (by decide) ?_
  refine pX7_341 (pc := 13) (x := 1) rfl rfl cx (dA ddX7_image (i := 7) rfl) h0 ?_
  refine x_iconst (pc := 16) (v := nI 1) cx (dA ddX7_image (i := 8) rfl) (by decide) ?_
  refine x_ireturn (pc := 17) cx (dA ddX7_image (i := 9) rfl) (by first | exact Nat.le_of_ble_eq_true rfl | omega) (by first | exact Nat.le_of_ble_eq_true rfl | omega) ?_
  have hW2 : WdC Z (sR G 251 (x + 18 + 2) (G.2.2.1 251 (x + 1 + 2))) V2 col (x + 18) S.1 := hWd.bec (Nat.le_refl _) (fun a _ h2 => by have o := hRC.out3 h2; exact ⟨(sameG.refl G a).sR (by omega), ob.1 a (by omega)⟩) sR_eq ob
  have hk := hW2.st (V' := sI V2 352 x 1) (Nat.le_refl _) (fun _ _ => rfl) (fun a h1 h2 => by have o := hRC.out3 h2; exact ⟨sameG.refl _ a, (same4.refl V2 a).sI (by omega)⟩) (fun a _ _ => ⟨sameG.refl _ a, (same4.refl V2 a).sI (by omega)⟩)
  exact pCI.g (S' := ((S.1, some S.1, S.2.2) : SX)) rfl (hRC.tg (S' := ((S.1, some S.1, S.2.2) : SX)) (T := fun a => x + 18 ≤ a ∧ a < x + 35 ∨ a = x) (gW.sR (Or.inr (Or.inl (by omega)))) (fun _ _ => rfl) hRC.2.2.2.1 (fun a _ _ hT => ⟨(sameG.refl G a).sR (by omega), ((ob.1 a (by omega)).sI (by omega))⟩) (fun a ha e => by rcases hRC.out3 e with q | q <;> omega) (Or.inl ⟨fun a _ _ => by omega, rfl⟩) (Or.inr (Or.inr ⟨S.1, rfl, sI_eq, hk⟩)) (Or.inl ⟨by omega, by omega, rfl⟩) (Or.inl ⟨by omega, by omega, fun a ha e => by rcases hRC.out2 ha with q | q <;> omega, rfl⟩) (Or.inl ⟨by omega, rfl⟩) (fun i hi => Or.inl fun a _ _ => by omega) (Or.inl fun a _ _ => by omega) (Or.inl fun a _ _ => by omega)) (Nat.le_refl _) (fun _ _ => rfl) (fun a _ ha => by have o := hRC.out0 ha; exact ⟨(sameG.refl G a).sR (by omega), ((ob.1 a (by omega)).sI (by omega))⟩)
theorem c_X7_back {l : Launch} {Z : zP} {G : zG} {V : zV} {x : Nat} {col : Nat → Nat} {S : SX} (hRC : RC Z G V x col S) : CT l Z yX7_back cX7_back 1 (some .int) 8 0 0 [.ref x] G V (pCI Z G V x col (fBack S)) := by
  refine CT.of (by decide +kernel) (Nat.le_of_ble_eq_true rfl) (fun X hX cx => ?_)
  subst hX
  show Wm Z X 1 G V 0 0 _ 0 [(0, some (.ref x))] []
  have hQ := hRC.1
  have h0 := hQ.1
  have hWd := hRC.2.2.2.2.1
  have c6 := hWd.2.1
  have hO := RO.refl hRC
  refine x_aload_n (pc := 0) cx (dA ddX7_back (i := 0) rfl) rfl ?_
  rcases hRC.2.2.2.2.2.1 with ⟨e, e2⟩ | ⟨W, e, e2, hW⟩
  · refine gX7_341 (pc := 1) (congrArg Value.int e2) cx (dA ddX7_back (i := 1) rfl) h0 ?_
    refine x_if_ne (pc := 4) (tgt := 14) cx (dA ddX7_back (i := 2) rfl) (by decide) (fun c4 => absurd (show nI 0 = 0 from rfl) c4) (fun c4 => ?_)
    refine x_aload_n (pc := 7) cx (dA ddX7_back (i := 3) rfl) rfl ?_
    refine x_bipush (pc := 8) (v := -5) cx (dA ddX7_back (i := 4) rfl) (by decide) ?_
    refine x_V1 (pc := 10) mX7_74 h0 (c_X7_refuse hQ (i := 3) (by decide) rfl) cx (dA ddX7_back (i := 5) rfl) (kI ?_)
    refine x_ireturn (pc := 13) cx (dA ddX7_back (i := 6) rfl) (by first | exact Nat.le_of_ble_eq_true rfl | omega) (by first | exact Nat.le_of_ble_eq_true rfl | omega) ?_
    exact pCI.r hO (by decide) (by unfold fBack; rw [e])
  · refine gX7_341 (pc := 1) (congrArg Value.int e2) cx (dA ddX7_back (i := 1) rfl) h0 ?_
    refine x_if_ne (pc := 4) (tgt := 14) cx (dA ddX7_back (i := 2) rfl) (by decide) (fun c4 => ?_) (fun c4 => absurd c4 (by decide))
    refine x_aload_n (pc := 14) cx (dA ddX7_back (i := 7) rfl) rfl ?_
    refine gX7_10 (pc := 15) (rfA hQ.2.1.1) cx (dA ddX7_back (i := 8) rfl) h0 ?_
    refine x_aload_n (pc := 18) cx (dA ddX7_back (i := 9) rfl) rfl ?_
    refine gX7_16 (pc := 19) (rfA hQ.2.2.1.1) cx (dA ddX7_back (i := 10) rfl) h0 ?_
    refine x_V1 (pc := 22) mX7_338 hQ.2.1.2.1 (c_X6_become hQ.2.1.2 hQ.2.2.1.2 (Or.inr (by omega))) cx (dA ddX7_back (i := 11) rfl) (kVx fun V2 ob => ?_)
    refine x_iconst (pc := 25) (v := nI 1) cx (dA ddX7_back (i := 12) rfl) (by decide) ?_
    refine x_ireturn (pc := 26) cx (dA ddX7_back (i := 13) rfl) (by first | exact Nat.le_of_ble_eq_true rfl | omega) (by first | exact Nat.le_of_ble_eq_true rfl | omega) ?_
    exact pCI.g (S' := (putW S W)) (by unfold fBack; rw [e]; rfl) (hRC.tg (S' := (putW S W)) (T := fun a => x + 1 ≤ a ∧ a < x + 18) (gW.sR (Or.inl (by omega))) (fun _ _ => rfl) hRC.2.2.2.1 (fun a _ _ hT => ⟨(sameG.refl G a).sR (by omega), (ob.1 a (by omega))⟩) (fun a ha e => by rcases hRC.out3 e with q | q <;> omega) (Or.inr (hW.bec (Nat.le_refl _) (fun a _ h2 => by have o := hRC.out3 h2; exact ⟨(sameG.refl G a).sR (by omega), ob.1 a (by omega)⟩) sR_eq ob)) (Or.inl ⟨fun a _ _ => by omega, by omega, rfl⟩) (Or.inl ⟨by omega, by omega, rfl⟩) (Or.inl ⟨by omega, by omega, fun a ha e => by rcases hRC.out2 ha with q | q <;> omega, rfl⟩) (Or.inl ⟨by omega, rfl⟩) (fun i hi => Or.inl fun a _ _ => by omega) (Or.inl fun a _ _ => by omega) (Or.inl fun a _ _ => by omega)) (Nat.le_refl _) (fun _ _ => rfl) (fun a _ ha => by have o := hRC.out0 ha; exact ⟨(sameG.refl G a).sR (by omega), (ob.1 a (by omega))⟩)
