theorem alt_hh {V V' : zV} {w n i : Nat} {f : Nat → Nat → Nat} {M : Nat → Nat} (h : ∀ j, j < n → j ≠ i → HouseV V (w + 5 + 2 * j) (f j) ∧ HOK (f j) ∧ NZ (f j)) (hM : HouseV V' (w + 5 + 2 * i) M ∧ HOK M ∧ NZ M) (hs : ∀ j, j < n → j ≠ i → same4 V V' (w + 5 + 2 * j + 1)) : ∀ j, j < n → HouseV V' (w + 5 + 2 * j) (if j = i then M else f j) ∧ HOK (if j = i then M else f j) ∧ NZ (if j = i then M else f j) := by
  intro j hj
  by_cases e : j = i
  · subst e
    rw [if_pos rfl]
    exact hM
  · rw [if_neg e]
    exact ⟨(h j hj e).1.same (hs j hj e), (h j hj e).2⟩
theorem NZ.put {N : Nat → Nat} {i v : Nat} (h : NZ N) (hi : i < 20) : NZ (numP N i v) := fun j hj => (numP_ne (by omega)).trans (h j hj)
theorem RC.row {Z : zP} {G : zG} {V V' : zV} {col : Nat → Nat} {x : Nat} {S : SX} (h : RC Z G V x col S) {r : Nat} (hr : r < 8) {q : Nat × Nat × (Nat → Int64)} (e : S.2.2.2.1 r = some (.inl q)) {a : Nat} (e7 : G.2.2.2 (x + 37) r = some a) (hs : ∀ z, z ≠ a + 1 → same4 V V' z) {vals : Nat → Int64} (hI : ∀ f, V'.1 f (a + 1) = V.1 f (a + 1)) (hv : ∀ j, j < q.2.1 → V'.2.2.2 (a + 1) j = vals j) : RC Z G V' x col (putS S r (some (.inl (q.1, q.2.1, vals)))) := by
  have a8 := h.2.2.2.2.2.2.2.1
  have a9 := h.2.2.2.2.2.2.2.2.1
  obtain ⟨a', b1, b2, b3, b4, b5, b6, b7, b8⟩ := (a8 r hr).2.1 q e
  rw [e7] at b1
  cases b1
  have o2 := h.out2 b8
  refine h.tg (S' := putS S r (some (.inl (q.1, q.2.1, vals)))) (T := fun z => z = a + 1) (gW.refl G x) (fun _ _ => rfl) h.2.2.2.1 (fun z _ _ hT => ⟨sameG.refl G z, hs z hT⟩) (fun z hz => by rw [hz, b8]; decide) (Or.inl ⟨fun a _ _ => by omega, rfl⟩) (Or.inl ⟨fun a _ _ => by omega, by omega, rfl⟩) (Or.inl ⟨by omega, by omega, rfl⟩) (Or.inr ⟨fun s hs8 => ?_, a9⟩) (Or.inl ⟨by omega, rfl⟩) (fun i hi => Or.inl fun a _ _ => by omega) (Or.inl fun a _ _ => by omega) (Or.inl fun a _ _ => by omega)
  show ShC Z G V' col x s (if s = r then some (.inl (q.1, q.2.1, vals)) else S.2.2.2.1 s)
  by_cases es : s = r
  · subst es
    rw [if_pos rfl]
    refine ⟨fun z => (by cases z), fun q' hq => ?_, fun q' hq => (by cases hq)⟩
    cases hq
    exact ⟨a, e7, b2, b3, ((hs a (by omega)).1 _).trans b4, b5, hv, b7, b8⟩
  · rw [if_neg es]
    refine (a8 s hs8).st (Nat.le_refl _) (fun _ _ => rfl) (fun z _ hz => ⟨sameG.refl G z, hs z (fun q => by rw [q, b8] at hz; cases hz)⟩) rfl rfl fun r' hr' => ?_
    have nr : r' ≠ a := fun q => es (a9 s r a hs8 hr (by rw [hr', q]) e7)
    have ee : ∃ q, S.2.2.2.1 s = some (.inl q) := by
      match e : S.2.2.2.1 s with
      | none => rw [((a8 s hs8).1 e).1] at hr'; cases hr'
      | some (.inl q) => exact ⟨q, rfl⟩
      | some (.inr q) => rw [((a8 s hs8).2.2 q e).1] at hr'; cases hr'
    obtain ⟨q', e'⟩ := ee
    obtain ⟨r2, c1, -, c3, -⟩ := (a8 s hs8).2.1 q' e'
    rw [hr'] at c1
    cases c1
    have n1 : r' ≠ a + 1 := fun q => by
      have t1 := c3.1.2.2
      have t2 := b3.2.2.1.2.2
      rw [q, t2] at t1
      cases t1
    exact ⟨⟨sameG.refl G _, hs _ n1⟩, sameG.refl G _, hs _ (by omega)⟩
theorem c_X7_feed {l : Launch} {Z : zP} {G : zG} {V : zV} {x : Nat} {col : Nat → Nat} {S : SX} (hRC : RC Z G V x col S) {v n : Int32} : CT l Z yX7_feed cX7_feed 3 (some .int) 8 0 0 [.ref x, .int v, .int n] G V (pCI Z G V x col (fFeed S v n)) := by
  refine CT.of (by decide +kernel) (Nat.le_of_ble_eq_true rfl) (fun X hX cx => ?_)
  subst hX
  show Wm Z X 3 G V 0 0 _ 0 [(0, some (.ref x)), (1, some (.int v)), (2, some (.int n))] []
  have hQ := hRC.1
  have h0 := hQ.1
  have hWd := hRC.2.2.2.2.1
  have c6 := hWd.2.1
  have hO := RO.refl hRC
  have hT := hRC.2.2.2.2.2.2.1
  have hT3 := hT.2.2.1
  have hTA := hQ.2.2.2.1.2
  refine x_iload_n (pc := 0) cx (dA ddX7_feed (i := 0) rfl) rfl ?_
  refine x_iconst (pc := 1) (v := nI 1) cx (dA ddX7_feed (i := 1) rfl) (by decide) ?_
  refine x_icmp_lt (pc := 2) (tgt := 10) cx (dA ddX7_feed (i := 2) rfl) (by decide) (fun c2 => ?_) (fun c2 => ?_)
  · rw [i32_lt, show (nI 1).toInt = 1 from rfl] at c2
    refine x_aload_n (pc := 10) cx (dA ddX7_feed (i := 6) rfl) rfl ?_
    refine x_bipush (pc := 11) (v := -2) cx (dA ddX7_feed (i := 7) rfl) (by decide) ?_
    refine x_V1 (pc := 13) mX7_74 h0 (c_X7_refuse hQ (i := 0) (by decide) rfl) cx (dA ddX7_feed (i := 8) rfl) (kI ?_)
    refine x_ireturn (pc := 16) cx (dA ddX7_feed (i := 9) rfl) (by first | exact Nat.le_of_ble_eq_true rfl | omega) (by first | exact Nat.le_of_ble_eq_true rfl | omega) ?_
    first | exact pCI.r hO (by decide) (if_neg (fun q => by have := q; omega))
  · rw [i32_lt, show (nI 1).toInt = 1 from rfl] at c2
    refine x_iload_n (pc := 5) cx (dA ddX7_feed (i := 3) rfl) rfl ?_
    refine x_iconst (pc := 6) (v := nI 4) cx (dA ddX7_feed (i := 4) rfl) (by decide) ?_
    refine x_icmp_le (pc := 7) (tgt := 17) cx (dA ddX7_feed (i := 5) rfl) (by decide) (fun c7 => ?_) (fun c7 => ?_)
    · rw [i32_le, show (nI 4).toInt = 4 from rfl] at c7
      have cN : 1 ≤ n.toInt ∧ n.toInt ≤ 4 := by omega
      obtain ⟨n, hn, rfl, tn9⟩ := i32_in (x := n) (n := 5) (by omega)
      have n1 : 1 ≤ n := by have := cN.1; rw [nI_toInt (by omega)] at this; omega
      refine x_aload_n (pc := 17) cx (dA ddX7_feed (i := 10) rfl) rfl ?_
      refine gX7_22 (pc := 18) (rfA hQ.2.2.2.1.1) cx (dA ddX7_feed (i := 11) rfl) h0 ?_
      refine x_iload_n (pc := 21) cx (dA ddX7_feed (i := 12) rfl) rfl ?_
      refine x_V1 (pc := 22) mX7_134 hQ.2.2.2.1.2.1 (c_X4_hasPlaceFor hTA hT (n := n) (by omega)) cx (dA ddX7_feed (i := 13) rfl) (kI ?_)
      refine x_if_eq (pc := 25) (tgt := 40) cx (dA ddX7_feed (i := 14) rfl) (by decide) (fun c25 => ?_) (fun c25 => ?_)
      · have hf : ¬ n ≤ 160 - S.2.2.1.2 := b2i_eq c25
        refine x_aload_n (pc := 40) cx (dA ddX7_feed (i := 21) rfl) rfl ?_
        refine x_bipush (pc := 41) (v := -6) cx (dA ddX7_feed (i := 22) rfl) (by decide) ?_
        refine x_V1 (pc := 43) mX7_74 h0 (c_X7_refuse hQ (i := 4) (by decide) rfl) cx (dA ddX7_feed (i := 23) rfl) (kI ?_)
        refine x_ireturn (pc := 46) cx (dA ddX7_feed (i := 24) rfl) (by first | exact Nat.le_of_ble_eq_true rfl | omega) (by first | exact Nat.le_of_ble_eq_true rfl | omega) ?_
        exact pCI.r hO (by decide) (by unfold fFeed; rw [if_pos cN, tn9, if_neg hf])
      · have hf : S.2.2.1.2 + n ≤ 160 := by have := b2i_ne c25; omega
        refine x_aload_n (pc := 28) cx (dA ddX7_feed (i := 15) rfl) rfl ?_
        refine gX7_22 (pc := 29) (rfA hQ.2.2.2.1.1) cx (dA ddX7_feed (i := 16) rfl) h0 ?_
        refine x_iload_n (pc := 32) cx (dA ddX7_feed (i := 17) rfl) rfl ?_
        refine x_iload_n (pc := 33) cx (dA ddX7_feed (i := 18) rfl) rfl ?_
        refine x_V2 (pc := 34) mX7_137 hQ.2.2.2.1.2.1 (c_X4_append hTA hT n1 (by omega) hf) cx (dA ddX7_feed (i := 19) rfl) (kI ?_)
        refine x_goto (pc := 37) (tgt := 46) cx (dA ddX7_feed (i := 20) rfl) (by decide) ?_
        refine x_ireturn (pc := 46) cx (dA ddX7_feed (i := 24) rfl) (by first | exact Nat.le_of_ble_eq_true rfl | omega) (by first | exact Nat.le_of_ble_eq_true rfl | omega) ?_
        exact pCI.g (S' := (putT S (feedB S.2.2.1.1 S.2.2.1.2 v n, S.2.2.1.2 + n))) (by unfold fFeed; rw [if_pos cN, tn9, if_pos (by omega)]) (hRC.tg (S' := (putT S (feedB S.2.2.1.1 S.2.2.1.2 v n, S.2.2.1.2 + n))) (T := fun a => a = x + 35 ∨ a = x + 36) (gW.refl G x) (fun _ _ => rfl) hRC.2.2.2.1 (fun a _ _ hT => ⟨sameG.refl G a, ((same4.refl V a).rAI (by omega)).sI (by omega)⟩) (fun a ha e => by rcases hRC.out3 e with q | q <;> omega) (Or.inl ⟨fun a _ _ => by omega, rfl⟩) (Or.inl ⟨fun a _ _ => by omega, by omega, rfl⟩) (Or.inr (hT.feed hf)) (Or.inl ⟨by omega, by omega, fun a ha e => by rcases hRC.out2 ha with q | q <;> omega, rfl⟩) (Or.inl ⟨by omega, rfl⟩) (fun i hi => Or.inl fun a _ _ => by omega) (Or.inl fun a _ _ => by omega) (Or.inl fun a _ _ => by omega)) (Nat.le_refl _) (fun _ _ => rfl) (fun a _ ha => by have o := hRC.out0 ha; exact ⟨sameG.refl G a, ((same4.refl V a).rAI (by omega)).sI (by omega)⟩)
    · rw [i32_le, show (nI 4).toInt = 4 from rfl] at c7
      refine x_aload_n (pc := 10) cx (dA ddX7_feed (i := 6) rfl) rfl ?_
      refine x_bipush (pc := 11) (v := -2) cx (dA ddX7_feed (i := 7) rfl) (by decide) ?_
      refine x_V1 (pc := 13) mX7_74 h0 (c_X7_refuse hQ (i := 0) (by decide) rfl) cx (dA ddX7_feed (i := 8) rfl) (kI ?_)
      refine x_ireturn (pc := 16) cx (dA ddX7_feed (i := 9) rfl) (by first | exact Nat.le_of_ble_eq_true rfl | omega) (by first | exact Nat.le_of_ble_eq_true rfl | omega) ?_
      first | exact pCI.r hO (by decide) (if_neg (fun q => by have := q; omega))
theorem c_X7_alter {l : Launch} {Z : zP} {G : zG} {V : zV} {x : Nat} {col : Nat → Nat} {S : SX} (hRC : RC Z G V x col S) {h w v : Int32} : CT l Z yX7_alter cX7_alter 7 (some .int) 8 0 0 [.ref x, .int h, .int w, .int v] G V (pCI Z G V x col (fAlter S h w v)) := by
  refine CT.of (by decide +kernel) (Nat.le_of_ble_eq_true rfl) (fun X hX cx => ?_)
  subst hX
  show Wm Z X 7 G V 0 0 _ 0 [(0, some (.ref x)), (1, some (.int h)), (2, some (.int w)), (3, some (.int v))] []
  have hQ := hRC.1
  have h0 := hQ.1
  have hWd := hRC.2.2.2.2.1
  have c6 := hWd.2.1
  have hO := RO.refl hRC
  refine x_aload_n (pc := 0) cx (dA ddX7_alter (i := 0) rfl) rfl ?_
  refine gX7_10 (pc := 1) (rfA hQ.2.1.1) cx (dA ddX7_alter (i := 1) rfl) h0 ?_
  refine x_iload_n (pc := 4) cx (dA ddX7_alter (i := 2) rfl) rfl ?_
  by_cases ch : okc S h
  · obtain ⟨i, hi, rfl, ti⟩ := i32_in ch
    have i6 : i < 6 := by omega
    have eX : hX S (nI i) = S.1.2.1 i := hX_at (by omega)
    obtain ⟨hV, hN, zN⟩ := hWd.2.2.1 i hi
    have oH := (hQ.2.1.2.2.2.2.2.2 i i6).2
    have hB := hN.1
    have b4 := hB.1
    have n125 := st125 b4
    have h06 := hN.2.1
    have ehs : hsA (x + 1) S.1.1 (nI i) = some (x + 1 + 5 + 2 * i) := by unfold hsA; rw [nI_toInt (by omega), if_pos (by omega)]; rfl
    refine x_V1 (pc := 5) mX7_156 hQ.2.1.2.1 (c_X6_houseAt hQ.2.1.2 hWd.1 c6) cx (dA ddX7_alter (i := 3) rfl) (kR ?_)
    rw [ehs, show va_rf (some (x + 1 + 5 + 2 * i)) = .ref (x + 1 + 5 + 2 * i) from rfl]
    refine x_astore (pc := 8) cx (dA ddX7_alter (i := 4) rfl) (by decide) rfl ?_
    refine x_iconst (pc := 10) (v := nI 1) cx (dA ddX7_alter (i := 5) rfl) (by decide) ?_
    refine x_iload_n (pc := 11) cx (dA ddX7_alter (i := 6) rfl) rfl ?_
    refine x_iadd (pc := 12) cx (dA ddX7_alter (i := 7) rfl) ?_
    refine x_istore (pc := 13) cx (dA ddX7_alter (i := 8) rfl) (by decide) rfl ?_
    refine x_aload (pc := 15) cx (dA ddX7_alter (i := 9) rfl) rfl ?_
    refine x_ifnull_s (pc := 17) cx (dA ddX7_alter (i := 10) rfl) ?_
    refine x_iload_n (pc := 20) cx (dA ddX7_alter (i := 11) rfl) rfl ?_
    refine x_if_lt (pc := 21) (tgt := 38) cx (dA ddX7_alter (i := 12) rfl) (by decide) (fun c21 => ?_) (fun c21 => ?_)
    · rw [i32_lt, toI_0] at c21
      refine x_aload_n (pc := 38) cx (dA ddX7_alter (i := 20) rfl) rfl ?_
      refine x_bipush (pc := 39) (v := -2) cx (dA ddX7_alter (i := 21) rfl) (by decide) ?_
      refine x_V1 (pc := 41) mX7_74 h0 (c_X7_refuse hQ (i := 0) (by decide) rfl) cx (dA ddX7_alter (i := 22) rfl) (kI ?_)
      refine x_ireturn (pc := 44) cx (dA ddX7_alter (i := 23) rfl) (by first | exact Nat.le_of_ble_eq_true rfl | omega) (by first | exact Nat.le_of_ble_eq_true rfl | omega) ?_
      first | exact pCI.r hO (by decide) (if_neg (fun q => ch q.1)) | exact pCI.r hO (by decide) (if_neg (fun q => by have := q.2.1; omega)) | exact pCI.r hO (by decide) (if_neg (fun q => cv (by have z := q.2.2; rw [tw] at z; exact z)))
    · rw [i32_lt, toI_0] at c21
      refine x_iload_n (pc := 24) cx (dA ddX7_alter (i := 13) rfl) rfl ?_
      refine x_iconst (pc := 25) (v := nI 2) cx (dA ddX7_alter (i := 14) rfl) (by decide) ?_
      refine x_icmp_gt (pc := 26) (tgt := 38) cx (dA ddX7_alter (i := 15) rfl) (by decide) (fun c26 => ?_) (fun c26 => ?_)
      · rw [i32_lt, show (nI 2).toInt = 2 from rfl] at c26
        refine x_aload_n (pc := 38) cx (dA ddX7_alter (i := 20) rfl) rfl ?_
        refine x_bipush (pc := 39) (v := -2) cx (dA ddX7_alter (i := 21) rfl) (by decide) ?_
        refine x_V1 (pc := 41) mX7_74 h0 (c_X7_refuse hQ (i := 0) (by decide) rfl) cx (dA ddX7_alter (i := 22) rfl) (kI ?_)
        refine x_ireturn (pc := 44) cx (dA ddX7_alter (i := 23) rfl) (by first | exact Nat.le_of_ble_eq_true rfl | omega) (by first | exact Nat.le_of_ble_eq_true rfl | omega) ?_
        first | exact pCI.r hO (by decide) (if_neg (fun q => ch q.1)) | exact pCI.r hO (by decide) (if_neg (fun q => by have := q.2.1; omega)) | exact pCI.r hO (by decide) (if_neg (fun q => cv (by have z := q.2.2; rw [tw] at z; exact z)))
      · rw [i32_lt, show (nI 2).toInt = 2 from rfl] at c26
        have cw : 0 ≤ w.toInt ∧ w.toInt ≤ 2 := by omega
        obtain ⟨w, hw, rfl, tw⟩ := i32_in (x := w) (n := 3) (by omega)
        refine x_iload (pc := 29) cx (dA ddX7_alter (i := 16) rfl) rfl ?_
        refine x_iload_n (pc := 31) cx (dA ddX7_alter (i := 17) rfl) rfl ?_
        rw [nI_add]
        refine x_S2 (pc := 32) mX7_169 (c_X0_mayBe (w := 1 + w) (by omega)) cx (dA ddX7_alter (i := 18) rfl) (kI ?_)
        refine x_if_ne (pc := 35) (tgt := 45) cx (dA ddX7_alter (i := 19) rfl) (by decide) (fun c35 => ?_) (fun c35 => ?_)
        · have cv := b2i_ne c35
          have lh : 0 ≤ mLo1 (1 + w) ∧ mHi1 (1 + w) ≤ 99 := by rcases (show w = 0 ∨ w = 1 ∨ w = 2 by omega) with h | h | h <;> rw [h] <;> decide
          obtain ⟨v, hv, rfl, tv⟩ := i32_in (x := v) (n := 100) ⟨by omega, by omega⟩
          have C : okc S (nI i) ∧ (0 ≤ (nI w).toInt ∧ (nI w).toInt ≤ 2) ∧ mLo1 (1 + tn (nI w)) ≤ (nI v).toInt ∧ (nI v).toInt ≤ mHi1 (1 + tn (nI w)) := ⟨ch, cw, by rw [tw]; exact cv⟩
          rw [nI_toInt (by omega)] at cv
          refine x_aload (pc := 45) cx (dA ddX7_alter (i := 24) rfl) rfl ?_
          refine x_iload (pc := 47) cx (dA ddX7_alter (i := 25) rfl) rfl ?_
          refine x_V1 (pc := 49) mX7_160 oH.1 (c_X0_number oH hV hB (w := 1 + w) (by omega)) cx (dA ddX7_alter (i := 26) rfl) (kI ?_)
          refine x_istore (pc := 52) cx (dA ddX7_alter (i := 27) rfl) (by decide) rfl ?_
          refine x_aload (pc := 54) cx (dA ddX7_alter (i := 28) rfl) rfl ?_
          refine x_iload (pc := 56) cx (dA ddX7_alter (i := 29) rfl) rfl ?_
          refine x_iload_n (pc := 58) cx (dA ddX7_alter (i := 30) rfl) rfl ?_
          refine x_V2 (pc := 59) mX7_170 oH.1 (c_X0_putNumber oH (w := 1 + w) (by omega)) cx (dA ddX7_alter (i := 31) rfl) (kV ?_)
          refine x_iload (pc := 62) cx (dA ddX7_alter (i := 32) rfl) rfl ?_
          refine x_ireturn (pc := 64) cx (dA ddX7_alter (i := 33) rfl) (by first | exact Nat.le_of_ble_eq_true rfl | omega) (by first | exact Nat.le_of_ble_eq_true rfl | omega) ?_
          have hM : HOK (numP (S.1.2.1 i) (1 + w) v) := by
            rcases (show w = 0 ∨ w = 1 ∨ w = 2 by omega) with h | h | h <;> subst h
            · exact hN.put (by decide) (fun e => by omega) (fun e => by omega) (fun e => by omega) (fun e => by omega)
            · exact hN.put (by decide) (fun e => by omega) (fun e => by omega) (fun e => by have z : mLo1 (1 + 1) = 1 ∧ mHi1 (1 + 1) = 40 := ⟨rfl, rfl⟩; omega) (fun e => by omega)
            · exact hN.put (by decide) (fun e => by omega) (fun e => by omega) (fun e => by omega) (fun e => by have z : mLo1 (1 + 2) = 0 ∧ mHi1 (1 + 2) = 3 := ⟨rfl, rfl⟩; omega)
          have zM : NZ (numP (S.1.2.1 i) (1 + w) v) := zN.put (by omega)
          exact pCI.g (S' := (putW S (altW S.1 i (numP (S.1.2.1 i) (1 + w) v)))) (by unfold fAlter; rw [if_pos C, tw, tv, ti, eX]) (hRC.tg (S' := (putW S (altW S.1 i (numP (S.1.2.1 i) (1 + w) v)))) (T := fun a => a = x + 1 + 5 + 2 * i + 1) (gW.refl G x) (fun _ _ => rfl) hRC.2.2.2.1 (fun a _ _ hT => ⟨sameG.refl G a, (same4.refl V a).sAI (by omega)⟩) (fun a ha e => by rcases hRC.out3 e with q | q <;> omega) (Or.inr (hWd.hs (Nat.le_refl _) (fun _ _ => rfl) (fun a _ h2 => by have o := hRC.out3 h2; exact ⟨sameG.refl G a, (same4.refl V a).sAI (by omega)⟩) (sameG.refl G _) ((same4.refl V _).sAI (by omega)) ((same4.refl V _).sAI (by omega)) hWd.1 c6 (alt_hh (fun j hj _ => hWd.2.2.1 j hj) ⟨hV.put, hM, zM⟩ (fun j _ hj => (same4.refl V _).sAI (by omega))) hWd.2.2.2.1 rfl)) (Or.inl ⟨fun a _ _ => by omega, by omega, rfl⟩) (Or.inl ⟨by omega, by omega, rfl⟩) (Or.inl ⟨by omega, by omega, fun a ha e => by rcases hRC.out2 ha with q | q <;> omega, rfl⟩) (Or.inl ⟨by omega, rfl⟩) (fun i hi => Or.inl fun a _ _ => by omega) (Or.inl fun a _ _ => by omega) (Or.inl fun a _ _ => by omega)) (Nat.le_refl _) (fun _ _ => rfl) (fun a _ ha => by have o := hRC.out0 ha; exact ⟨sameG.refl G a, (same4.refl V a).sAI (by omega)⟩)
        · have cv := b2i_eq c35
          refine x_aload_n (pc := 38) cx (dA ddX7_alter (i := 20) rfl) rfl ?_
          refine x_bipush (pc := 39) (v := -2) cx (dA ddX7_alter (i := 21) rfl) (by decide) ?_
          refine x_V1 (pc := 41) mX7_74 h0 (c_X7_refuse hQ (i := 0) (by decide) rfl) cx (dA ddX7_alter (i := 22) rfl) (kI ?_)
          refine x_ireturn (pc := 44) cx (dA ddX7_alter (i := 23) rfl) (by first | exact Nat.le_of_ble_eq_true rfl | omega) (by first | exact Nat.le_of_ble_eq_true rfl | omega) ?_
          first | exact pCI.r hO (by decide) (if_neg (fun q => ch q.1)) | exact pCI.r hO (by decide) (if_neg (fun q => by have := q.2.1; omega)) | exact pCI.r hO (by decide) (if_neg (fun q => cv (by have z := q.2.2; rw [tw] at z; exact z)))
  · have ehs : hsA (x + 1) S.1.1 h = none := if_neg ch
    refine x_V1 (pc := 5) mX7_156 hQ.2.1.2.1 (c_X6_houseAt hQ.2.1.2 hWd.1 c6) cx (dA ddX7_alter (i := 3) rfl) (kR ?_)
    rw [ehs, show va_rf none = .null from rfl]
    refine x_astoreN (pc := 8) cx (dA ddX7_alter (i := 4) rfl) (by decide) rfl ?_
    refine x_iconst (pc := 10) (v := nI 1) cx (dA ddX7_alter (i := 5) rfl) (by decide) ?_
    refine x_iload_n (pc := 11) cx (dA ddX7_alter (i := 6) rfl) rfl ?_
    refine x_iadd (pc := 12) cx (dA ddX7_alter (i := 7) rfl) ?_
    refine x_istore (pc := 13) cx (dA ddX7_alter (i := 8) rfl) (by decide) rfl ?_
    refine x_aloadN (pc := 15) cx (dA ddX7_alter (i := 9) rfl) rfl ?_
    refine x_ifnull_n (pc := 17) (tgt := 38) cx (dA ddX7_alter (i := 10) rfl) (by decide) ?_
    refine x_aload_n (pc := 38) cx (dA ddX7_alter (i := 20) rfl) rfl ?_
    refine x_bipush (pc := 39) (v := -2) cx (dA ddX7_alter (i := 21) rfl) (by decide) ?_
    refine x_V1 (pc := 41) mX7_74 h0 (c_X7_refuse hQ (i := 0) (by decide) rfl) cx (dA ddX7_alter (i := 22) rfl) (kI ?_)
    refine x_ireturn (pc := 44) cx (dA ddX7_alter (i := 23) rfl) (by first | exact Nat.le_of_ble_eq_true rfl | omega) (by first | exact Nat.le_of_ble_eq_true rfl | omega) ?_
    first | exact pCI.r hO (by decide) (if_neg (fun q => ch q.1)) | exact pCI.r hO (by decide) (if_neg (fun q => by have := q.2.1; omega)) | exact pCI.r hO (by decide) (if_neg (fun q => cv (by have z := q.2.2; rw [tw] at z; exact z)))
theorem c_X7_change {l : Launch} {Z : zP} {G : zG} {V : zV} {x : Nat} {col : Nat → Nat} {S : SX} (hRC : RC Z G V x col S) {h k w v : Int32} : CT l Z yX7_change cX7_change 8 (some .int) 8 0 0 [.ref x, .int h, .int k, .int w, .int v] G V (pCI Z G V x col (fChange S h k w v)) := by
  refine CT.of (by decide +kernel) (Nat.le_of_ble_eq_true rfl) (fun X hX cx => ?_)
  subst hX
  show Wm Z X 8 G V 0 0 _ 0 [(0, some (.ref x)), (1, some (.int h)), (2, some (.int k)), (3, some (.int w)), (4, some (.int v))] []
  have hQ := hRC.1
  have h0 := hQ.1
  have hWd := hRC.2.2.2.2.1
  have c6 := hWd.2.1
  have hO := RO.refl hRC
  refine x_aload_n (pc := 0) cx (dA ddX7_change (i := 0) rfl) rfl ?_
  refine gX7_10 (pc := 1) (rfA hQ.2.1.1) cx (dA ddX7_change (i := 1) rfl) h0 ?_
  refine x_iload_n (pc := 4) cx (dA ddX7_change (i := 2) rfl) rfl ?_
  by_cases ch : okc S h
  · obtain ⟨i, hi, rfl, ti⟩ := i32_in ch
    have i6 : i < 6 := by omega
    have eX : hX S (nI i) = S.1.2.1 i := hX_at (by omega)
    obtain ⟨hV, hN, zN⟩ := hWd.2.2.1 i hi
    have oH := (hQ.2.1.2.2.2.2.2.2 i i6).2
    have hB := hN.1
    have b4 := hB.1
    have n125 := st125 b4
    have h06 := hN.2.1
    have ehs : hsA (x + 1) S.1.1 (nI i) = some (x + 1 + 5 + 2 * i) := by unfold hsA; rw [nI_toInt (by omega), if_pos (by omega)]; rfl
    refine x_V1 (pc := 5) mX7_156 hQ.2.1.2.1 (c_X6_houseAt hQ.2.1.2 hWd.1 c6) cx (dA ddX7_change (i := 3) rfl) (kR ?_)
    rw [ehs, show va_rf (some (x + 1 + 5 + 2 * i)) = .ref (x + 1 + 5 + 2 * i) from rfl]
    refine x_astore (pc := 8) cx (dA ddX7_change (i := 4) rfl) (by decide) rfl ?_
    refine x_iconst (pc := 10) (v := nI 1) cx (dA ddX7_change (i := 5) rfl) (by decide) ?_
    refine x_iload_n (pc := 11) cx (dA ddX7_change (i := 6) rfl) rfl ?_
    refine x_iadd (pc := 12) cx (dA ddX7_change (i := 7) rfl) ?_
    refine x_istore (pc := 13) cx (dA ddX7_change (i := 8) rfl) (by decide) rfl ?_
    refine x_aload (pc := 15) cx (dA ddX7_change (i := 9) rfl) rfl ?_
    refine x_ifnull_s (pc := 17) cx (dA ddX7_change (i := 10) rfl) ?_
    refine x_aload (pc := 20) cx (dA ddX7_change (i := 11) rfl) rfl ?_
    refine x_iload_n (pc := 22) cx (dA ddX7_change (i := 12) rfl) rfl ?_
    refine x_V1 (pc := 23) mX7_163 oH.1 (c_X0_hasSort oH hV hB) cx (dA ddX7_change (i := 13) rfl) (kI ?_)
    refine x_if_eq (pc := 26) (tgt := 48) cx (dA ddX7_change (i := 14) rfl) (by decide) (fun c26 => ?_) (fun c26 => ?_)
    · have cK : ¬ okk (hX S (nI i)) k := by rw [eX]; exact b2i_eq c26
      refine x_aload_n (pc := 48) cx (dA ddX7_change (i := 24) rfl) rfl ?_
      refine x_bipush (pc := 49) (v := -2) cx (dA ddX7_change (i := 25) rfl) (by decide) ?_
      refine x_V1 (pc := 51) mX7_74 h0 (c_X7_refuse hQ (i := 0) (by decide) rfl) cx (dA ddX7_change (i := 26) rfl) (kI ?_)
      refine x_ireturn (pc := 54) cx (dA ddX7_change (i := 27) rfl) (by first | exact Nat.le_of_ble_eq_true rfl | omega) (by first | exact Nat.le_of_ble_eq_true rfl | omega) ?_
      first | exact pCI.r hO (by decide) (if_neg (fun q => ch q.1)) | exact pCI.r hO (by decide) (if_neg (fun q => cK q.2.1)) | exact pCI.r hO (by decide) (if_neg (fun q => by have := q.2.2.1; omega)) | exact pCI.r hO (by decide) (if_neg (fun q => cv (by have z := q.2.2.2; rw [tw] at z; exact z)))
    · have cK := b2i_ne c26
      obtain ⟨k, hk, rfl, tk⟩ := i32_in (x := k) (n := S.1.2.1 i 4) cK
      have cK : okk (hX S (nI i)) (nI k) := by rw [eX]; exact cK
      refine x_iload_n (pc := 29) cx (dA ddX7_change (i := 15) rfl) rfl ?_
      refine x_if_lt (pc := 30) (tgt := 48) cx (dA ddX7_change (i := 16) rfl) (by decide) (fun c30 => ?_) (fun c30 => ?_)
      · rw [i32_lt, toI_0] at c30
        refine x_aload_n (pc := 48) cx (dA ddX7_change (i := 24) rfl) rfl ?_
        refine x_bipush (pc := 49) (v := -2) cx (dA ddX7_change (i := 25) rfl) (by decide) ?_
        refine x_V1 (pc := 51) mX7_74 h0 (c_X7_refuse hQ (i := 0) (by decide) rfl) cx (dA ddX7_change (i := 26) rfl) (kI ?_)
        refine x_ireturn (pc := 54) cx (dA ddX7_change (i := 27) rfl) (by first | exact Nat.le_of_ble_eq_true rfl | omega) (by first | exact Nat.le_of_ble_eq_true rfl | omega) ?_
        first | exact pCI.r hO (by decide) (if_neg (fun q => ch q.1)) | exact pCI.r hO (by decide) (if_neg (fun q => cK q.2.1)) | exact pCI.r hO (by decide) (if_neg (fun q => by have := q.2.2.1; omega)) | exact pCI.r hO (by decide) (if_neg (fun q => cv (by have z := q.2.2.2; rw [tw] at z; exact z)))
      · rw [i32_lt, toI_0] at c30
        refine x_iload_n (pc := 33) cx (dA ddX7_change (i := 17) rfl) rfl ?_
        refine x_iconst (pc := 34) (v := nI 3) cx (dA ddX7_change (i := 18) rfl) (by decide) ?_
        refine x_icmp_gt (pc := 35) (tgt := 48) cx (dA ddX7_change (i := 19) rfl) (by decide) (fun c35 => ?_) (fun c35 => ?_)
        · rw [i32_lt, show (nI 3).toInt = 3 from rfl] at c35
          refine x_aload_n (pc := 48) cx (dA ddX7_change (i := 24) rfl) rfl ?_
          refine x_bipush (pc := 49) (v := -2) cx (dA ddX7_change (i := 25) rfl) (by decide) ?_
          refine x_V1 (pc := 51) mX7_74 h0 (c_X7_refuse hQ (i := 0) (by decide) rfl) cx (dA ddX7_change (i := 26) rfl) (kI ?_)
          refine x_ireturn (pc := 54) cx (dA ddX7_change (i := 27) rfl) (by first | exact Nat.le_of_ble_eq_true rfl | omega) (by first | exact Nat.le_of_ble_eq_true rfl | omega) ?_
          first | exact pCI.r hO (by decide) (if_neg (fun q => ch q.1)) | exact pCI.r hO (by decide) (if_neg (fun q => cK q.2.1)) | exact pCI.r hO (by decide) (if_neg (fun q => by have := q.2.2.1; omega)) | exact pCI.r hO (by decide) (if_neg (fun q => cv (by have z := q.2.2.2; rw [tw] at z; exact z)))
        · rw [i32_lt, show (nI 3).toInt = 3 from rfl] at c35
          have cw : 0 ≤ w.toInt ∧ w.toInt ≤ 3 := by omega
          obtain ⟨w, hw, rfl, tw⟩ := i32_in (x := w) (n := 4) (by omega)
          refine x_iload (pc := 38) cx (dA ddX7_change (i := 20) rfl) rfl ?_
          refine x_iload (pc := 40) cx (dA ddX7_change (i := 21) rfl) rfl ?_
          rw [nI_add]
          refine x_S2 (pc := 42) mX7_173 (c_X0_mayBeOfSort (w := 1 + w) (by omega)) cx (dA ddX7_change (i := 22) rfl) (kI ?_)
          refine x_if_ne (pc := 45) (tgt := 55) cx (dA ddX7_change (i := 23) rfl) (by decide) (fun c45 => ?_) (fun c45 => ?_)
          · have cv := b2i_ne c45
            have lh : 0 ≤ mLo2 (1 + w) ∧ mHi2 (1 + w) ≤ 99 := by rcases (show w = 0 ∨ w = 1 ∨ w = 2 ∨ w = 3 by omega) with h | h | h | h <;> rw [h] <;> decide
            obtain ⟨v, hv, rfl, tv⟩ := i32_in (x := v) (n := 100) ⟨by omega, by omega⟩
            have nv : (nI v).toInt = v := nI_toInt (by omega)
            have C : okc S (nI i) ∧ okk (hX S (nI i)) (nI k) ∧ (0 ≤ (nI w).toInt ∧ (nI w).toInt ≤ 3) ∧ mLo2 (1 + tn (nI w)) ≤ (nI v).toInt ∧ (nI v).toInt ≤ mHi2 (1 + tn (nI w)) := ⟨ch, cK, cw, by rw [tw]; exact cv⟩
            rw [nv] at cv
            refine x_aload (pc := 55) cx (dA ddX7_change (i := 28) rfl) rfl ?_
            refine x_iload_n (pc := 57) cx (dA ddX7_change (i := 29) rfl) rfl ?_
            refine x_iload (pc := 58) cx (dA ddX7_change (i := 30) rfl) rfl ?_
            refine x_V2 (pc := 60) mX7_166 oH.1 (c_X0_sortNumber oH hV hB (s := k) (w := 1 + w) (by omega) (by omega)) cx (dA ddX7_change (i := 31) rfl) (kI ?_)
            refine x_istore (pc := 63) cx (dA ddX7_change (i := 32) rfl) (by decide) rfl ?_
            refine x_aload (pc := 65) cx (dA ddX7_change (i := 33) rfl) rfl ?_
            refine x_iload_n (pc := 67) cx (dA ddX7_change (i := 34) rfl) rfl ?_
            refine x_iload (pc := 68) cx (dA ddX7_change (i := 35) rfl) rfl ?_
            refine x_iload (pc := 70) cx (dA ddX7_change (i := 36) rfl) rfl ?_
            refine x_V3 (pc := 72) mX7_176 oH.1 (c_X0_putSortNumber oH (s := k) (w := 1 + w) (by omega) (by omega)) cx (dA ddX7_change (i := 37) rfl) (kV ?_)
            refine x_iload (pc := 75) cx (dA ddX7_change (i := 38) rfl) rfl ?_
            refine x_ireturn (pc := 77) cx (dA ddX7_change (i := 39) rfl) (by first | exact Nat.le_of_ble_eq_true rfl | omega) (by first | exact Nat.le_of_ble_eq_true rfl | omega) ?_
            have hM : HOK (numP (S.1.2.1 i) (5 + 5 * k + (1 + w)) v) := HOK.putS hN hk (show 1 + w < 5 by omega) (by obtain ⟨z1, z2⟩ := C.2.2.2; rw [tw, ← sLo_eq, nv] at z1; rw [tw, ← sHi_eq, nv] at z2; exact ⟨by omega, by omega⟩)
            have zM : NZ (numP (S.1.2.1 i) (5 + 5 * k + (1 + w)) v) := zN.put (by omega)
            exact pCI.g (S' := (putW S (altW S.1 i (numP (S.1.2.1 i) (5 + 5 * k + (1 + w)) v)))) (by unfold fChange; rw [if_pos C, tw, tv, ti, tk, eX]) (hRC.tg (S' := (putW S (altW S.1 i (numP (S.1.2.1 i) (5 + 5 * k + (1 + w)) v)))) (T := fun a => a = x + 1 + 5 + 2 * i + 1) (gW.refl G x) (fun _ _ => rfl) hRC.2.2.2.1 (fun a _ _ hT => ⟨sameG.refl G a, (same4.refl V a).sAI (by omega)⟩) (fun a ha e => by rcases hRC.out3 e with q | q <;> omega) (Or.inr (hWd.hs (Nat.le_refl _) (fun _ _ => rfl) (fun a _ h2 => by have o := hRC.out3 h2; exact ⟨sameG.refl G a, (same4.refl V a).sAI (by omega)⟩) (sameG.refl G _) ((same4.refl V _).sAI (by omega)) ((same4.refl V _).sAI (by omega)) hWd.1 c6 (alt_hh (fun j hj _ => hWd.2.2.1 j hj) ⟨hV.put, hM, zM⟩ (fun j _ hj => (same4.refl V _).sAI (by omega))) hWd.2.2.2.1 rfl)) (Or.inl ⟨fun a _ _ => by omega, by omega, rfl⟩) (Or.inl ⟨by omega, by omega, rfl⟩) (Or.inl ⟨by omega, by omega, fun a ha e => by rcases hRC.out2 ha with q | q <;> omega, rfl⟩) (Or.inl ⟨by omega, rfl⟩) (fun i hi => Or.inl fun a _ _ => by omega) (Or.inl fun a _ _ => by omega) (Or.inl fun a _ _ => by omega)) (Nat.le_refl _) (fun _ _ => rfl) (fun a _ ha => by have o := hRC.out0 ha; exact ⟨sameG.refl G a, (same4.refl V a).sAI (by omega)⟩)
          · have cv := b2i_eq c45
            refine x_aload_n (pc := 48) cx (dA ddX7_change (i := 24) rfl) rfl ?_
            refine x_bipush (pc := 49) (v := -2) cx (dA ddX7_change (i := 25) rfl) (by decide) ?_
            refine x_V1 (pc := 51) mX7_74 h0 (c_X7_refuse hQ (i := 0) (by decide) rfl) cx (dA ddX7_change (i := 26) rfl) (kI ?_)
            refine x_ireturn (pc := 54) cx (dA ddX7_change (i := 27) rfl) (by first | exact Nat.le_of_ble_eq_true rfl | omega) (by first | exact Nat.le_of_ble_eq_true rfl | omega) ?_
            first | exact pCI.r hO (by decide) (if_neg (fun q => ch q.1)) | exact pCI.r hO (by decide) (if_neg (fun q => cK q.2.1)) | exact pCI.r hO (by decide) (if_neg (fun q => by have := q.2.2.1; omega)) | exact pCI.r hO (by decide) (if_neg (fun q => cv (by have z := q.2.2.2; rw [tw] at z; exact z)))
  · have ehs : hsA (x + 1) S.1.1 h = none := if_neg ch
    refine x_V1 (pc := 5) mX7_156 hQ.2.1.2.1 (c_X6_houseAt hQ.2.1.2 hWd.1 c6) cx (dA ddX7_change (i := 3) rfl) (kR ?_)
    rw [ehs, show va_rf none = .null from rfl]
    refine x_astoreN (pc := 8) cx (dA ddX7_change (i := 4) rfl) (by decide) rfl ?_
    refine x_iconst (pc := 10) (v := nI 1) cx (dA ddX7_change (i := 5) rfl) (by decide) ?_
    refine x_iload_n (pc := 11) cx (dA ddX7_change (i := 6) rfl) rfl ?_
    refine x_iadd (pc := 12) cx (dA ddX7_change (i := 7) rfl) ?_
    refine x_istore (pc := 13) cx (dA ddX7_change (i := 8) rfl) (by decide) rfl ?_
    refine x_aloadN (pc := 15) cx (dA ddX7_change (i := 9) rfl) rfl ?_
    refine x_ifnull_n (pc := 17) (tgt := 48) cx (dA ddX7_change (i := 10) rfl) (by decide) ?_
    refine x_aload_n (pc := 48) cx (dA ddX7_change (i := 24) rfl) rfl ?_
    refine x_bipush (pc := 49) (v := -2) cx (dA ddX7_change (i := 25) rfl) (by decide) ?_
    refine x_V1 (pc := 51) mX7_74 h0 (c_X7_refuse hQ (i := 0) (by decide) rfl) cx (dA ddX7_change (i := 26) rfl) (kI ?_)
    refine x_ireturn (pc := 54) cx (dA ddX7_change (i := 27) rfl) (by first | exact Nat.le_of_ble_eq_true rfl | omega) (by first | exact Nat.le_of_ble_eq_true rfl | omega) ?_
    first | exact pCI.r hO (by decide) (if_neg (fun q => ch q.1)) | exact pCI.r hO (by decide) (if_neg (fun q => cK q.2.1)) | exact pCI.r hO (by decide) (if_neg (fun q => by have := q.2.2.1; omega)) | exact pCI.r hO (by decide) (if_neg (fun q => cv (by have z := q.2.2.2; rw [tw] at z; exact z)))
theorem c_X7_set {l : Launch} {Z : zP} {G : zG} {V : zV} {x : Nat} {col : Nat → Nat} {S : SX} (hRC : RC Z G V x col S) {r i : Int32} {v : Int64} : CT l Z yX7_set cX7_set 6 (some .int) 8 0 0 [.ref x, .int r, .int i, .long v] G V (pCI Z G V x col (fSet S r i v)) := by
  refine CT.of (by decide +kernel) (Nat.le_of_ble_eq_true rfl) (fun X hX cx => ?_)
  subst hX
  show Wm Z X 6 G V 0 0 _ 0 [(0, some (.ref x)), (1, some (.int r)), (2, some (.int i)), (3, some (.long v))] []
  have hQ := hRC.1
  have h0 := hQ.1
  have hWd := hRC.2.2.2.2.1
  have c6 := hWd.2.1
  have hO := RO.refl hRC
  refine x_iload_n (pc := 0) cx (dA ddX7_set (i := 0) rfl) rfl ?_
  refine x_S1 (pc := 1) mX7_70 c_X7_isShelf cx (dA ddX7_set (i := 1) rfl) (kI ?_)
  refine x_if_ne (pc := 4) (tgt := 14) cx (dA ddX7_set (i := 2) rfl) (by decide) (fun c4 => ?_) (fun c4 => ?_)
  · have cr0 := b2i_ne c4
    obtain ⟨r, hr, rfl, tr⟩ := i32_in (x := r) (n := 8) cr0
    have cr : oks (nI r) := cr0
    refine x_aload_n (pc := 14) cx (dA ddX7_set (i := 7) rfl) rfl ?_
    refine x_iload_n (pc := 15) cx (dA ddX7_set (i := 8) rfl) rfl ?_
    rcases sh3 (S.2.2.2.1 r) with e | ⟨q, e⟩ | ⟨q, e⟩
    · obtain ⟨e7, e8⟩ := hO.1.sh0 hr e
      refine x_V1 (pc := 16) mX7_85 h0 (c_X7_rowAt hQ) cx (dA ddX7_set (i := 9) rfl) (kR ?_)
      rw [e7, show va_rf none = .null from rfl]
      refine x_astoreN (pc := 19) cx (dA ddX7_set (i := 10) rfl) (by decide) rfl ?_
      refine x_aloadN (pc := 21) cx (dA ddX7_set (i := 11) rfl) rfl ?_
      refine x_ifnonnull_n (pc := 23) cx (dA ddX7_set (i := 12) rfl) ?_
      refine x_aload_n (pc := 26) cx (dA ddX7_set (i := 13) rfl) rfl ?_
      refine x_aload_n (pc := 27) cx (dA ddX7_set (i := 14) rfl) rfl ?_
      refine x_iload_n (pc := 28) cx (dA ddX7_set (i := 15) rfl) rfl ?_
      refine x_V1 (pc := 29) mX7_89 h0 (c_X7_lackOnShelf hQ) cx (dA ddX7_set (i := 16) rfl) (kI ?_)
      rw [if_pos ⟨e7, e8⟩]
      refine x_V1 (pc := 32) mX7_74 h0 (c_X7_refuse hQ (i := 2) (by decide) rfl) cx (dA ddX7_set (i := 17) rfl) (kI ?_)
      refine x_ireturn (pc := 35) cx (dA ddX7_set (i := 18) rfl) (by first | exact Nat.le_of_ble_eq_true rfl | omega) (by first | exact Nat.le_of_ble_eq_true rfl | omega) ?_
      exact pCI.r hO (by decide) (by unfold fSet; rw [if_pos cr, (shX_at hr).trans e])
    · obtain ⟨e8, a, e7, hRw, rT, t5, rE, ac, a1c⟩ := hO.1.shl hr e
      refine x_V1 (pc := 16) mX7_85 h0 (c_X7_rowAt hQ) cx (dA ddX7_set (i := 9) rfl) (kR ?_)
      rw [e7, show va_rf (some a) = .ref a from rfl]
      refine x_astore (pc := 19) cx (dA ddX7_set (i := 10) rfl) (by decide) rfl ?_
      refine x_aload (pc := 21) cx (dA ddX7_set (i := 11) rfl) rfl ?_
      refine x_ifnonnull_s (pc := 23) (tgt := 36) cx (dA ddX7_set (i := 12) rfl) (by decide) ?_
      refine x_aload (pc := 36) cx (dA ddX7_set (i := 19) rfl) rfl ?_
      refine x_iload_n (pc := 38) cx (dA ddX7_set (i := 20) rfl) rfl ?_
      refine x_V1 (pc := 39) mX7_92 hRw.1 (c_X2_hasPlace hRw (x := i)) cx (dA ddX7_set (i := 21) rfl) (kI ?_)
      refine x_if_ne (pc := 42) (tgt := 52) cx (dA ddX7_set (i := 22) rfl) (by decide) (fun c42 => ?_) (fun c42 => ?_)
      · have ci := b2i_ne c42
        obtain ⟨i, hi, rfl, ti⟩ := i32_in ci
        refine x_aload (pc := 52) cx (dA ddX7_set (i := 27) rfl) rfl ?_
        refine x_iload_n (pc := 54) cx (dA ddX7_set (i := 28) rfl) rfl ?_
        refine x_lload_n (pc := 55) cx (dA ddX7_set (i := 29) rfl) rfl ?_
        refine x_V2 (pc := 56) mX7_95 hRw.1 (c_X2_put hRw rT t5 (j := i) hi) cx (dA ddX7_set (i := 30) rfl) (kV ?_)
        refine x_iconst (pc := 59) (v := nI 1) cx (dA ddX7_set (i := 31) rfl) (by decide) ?_
        refine x_ireturn (pc := 60) cx (dA ddX7_set (i := 32) rfl) (by first | exact Nat.le_of_ble_eq_true rfl | omega) (by first | exact Nat.le_of_ble_eq_true rfl | omega) ?_
        rw [slA_n hr] at e7
        have hRC2 := hRC.row hr e e7 (V' := sAJ V (a + 1) i (lowP q.1 v)) (vals := (fun z => if z = i then lowP q.1 v else q.2.2 z)) (fun z hz => (same4.refl V z).sAJ hz) (fun f => rfl) (fun j hj => by show (sAJ V (a + 1) i (lowP q.1 v)).2.2.2 (a + 1) j = if j = i then lowP q.1 v else q.2.2 j; by_cases ej : j = i; (subst ej; rw [sAJ_eq, if_pos rfl]); (rw [sAJ_nj ej, if_neg ej]; exact rE j hj))
        exact pCI.g (S' := putS S r (some (.inl (q.1, q.2.1, (fun z => if z = i then lowP q.1 v else q.2.2 z))))) (by unfold fSet; rw [if_pos cr, (shX_at hr).trans e]; exact (if_pos ci).trans (by rw [ti, tr]; rfl)) hRC2 (Nat.le_refl _) (fun _ _ => rfl) (fun z _ hz => ⟨sameG.refl G z, (same4.refl V z).sAJ (fun w => by rw [w, a1c] at hz; cases hz)⟩)
      · have ci := b2i_eq c42
        refine x_aload_n (pc := 45) cx (dA ddX7_set (i := 23) rfl) rfl ?_
        refine x_bipush (pc := 46) (v := -2) cx (dA ddX7_set (i := 24) rfl) (by decide) ?_
        refine x_V1 (pc := 48) mX7_74 h0 (c_X7_refuse hQ (i := 0) (by decide) rfl) cx (dA ddX7_set (i := 25) rfl) (kI ?_)
        refine x_ireturn (pc := 51) cx (dA ddX7_set (i := 26) rfl) (by first | exact Nat.le_of_ble_eq_true rfl | omega) (by first | exact Nat.le_of_ble_eq_true rfl | omega) ?_
        exact pCI.r hO (by decide) (by unfold fSet; rw [if_pos cr, (shX_at hr).trans e]; exact if_neg ci)
    · obtain ⟨e7, a, e8, hR⟩ := hO.1.shr hr e
      refine x_V1 (pc := 16) mX7_85 h0 (c_X7_rowAt hQ) cx (dA ddX7_set (i := 9) rfl) (kR ?_)
      rw [e7, show va_rf none = .null from rfl]
      refine x_astoreN (pc := 19) cx (dA ddX7_set (i := 10) rfl) (by decide) rfl ?_
      refine x_aloadN (pc := 21) cx (dA ddX7_set (i := 11) rfl) rfl ?_
      refine x_ifnonnull_n (pc := 23) cx (dA ddX7_set (i := 12) rfl) ?_
      refine x_aload_n (pc := 26) cx (dA ddX7_set (i := 13) rfl) rfl ?_
      refine x_aload_n (pc := 27) cx (dA ddX7_set (i := 14) rfl) rfl ?_
      refine x_iload_n (pc := 28) cx (dA ddX7_set (i := 15) rfl) rfl ?_
      refine x_V1 (pc := 29) mX7_89 h0 (c_X7_lackOnShelf hQ) cx (dA ddX7_set (i := 16) rfl) (kI ?_)
      rw [if_neg (fun z => by rw [e8] at z; cases z.2)]
      refine x_V1 (pc := 32) mX7_74 h0 (c_X7_refuse hQ (i := 1) (by decide) rfl) cx (dA ddX7_set (i := 17) rfl) (kI ?_)
      refine x_ireturn (pc := 35) cx (dA ddX7_set (i := 18) rfl) (by first | exact Nat.le_of_ble_eq_true rfl | omega) (by first | exact Nat.le_of_ble_eq_true rfl | omega) ?_
      exact pCI.r hO (by decide) (by unfold fSet; rw [if_pos cr, (shX_at hr).trans e])
  · have cr := b2i_eq c4
    refine x_aload_n (pc := 7) cx (dA ddX7_set (i := 3) rfl) rfl ?_
    refine x_bipush (pc := 8) (v := -2) cx (dA ddX7_set (i := 4) rfl) (by decide) ?_
    refine x_V1 (pc := 10) mX7_74 h0 (c_X7_refuse hQ (i := 0) (by decide) rfl) cx (dA ddX7_set (i := 5) rfl) (kI ?_)
    refine x_ireturn (pc := 13) cx (dA ddX7_set (i := 6) rfl) (by first | exact Nat.le_of_ble_eq_true rfl | omega) (by first | exact Nat.le_of_ble_eq_true rfl | omega) ?_
    first | exact pCI.r hO (by decide) (if_neg (fun q => cr q))
