section SHF
variable {Z : zP} {G G' : zG} {V V' : zV} {col col' : Nat → Nat} {x : Nat} {S : SX}
theorem RC.rowlt (h : RC Z G V x col S) {s r : Nat} (hs : s < 8) (hr : G.2.2.2 (x + 37) s = some r) : r < G.1 ∧ r + 1 < G.1 ∧ col r = 2 ∧ col (r + 1) = 2 := by
  have a8 := h.2.2.2.2.2.2.2.1 s hs
  have e : ∃ q, S.2.2.2.1 s = some (.inl q) := by
    match e : S.2.2.2.1 s with
    | none => rw [(a8.1 e).1] at hr; cases hr
    | some (.inl q) => exact ⟨q, rfl⟩
    | some (.inr q) => rw [(a8.2.2 q e).1] at hr; cases hr
  obtain ⟨q, e⟩ := e
  obtain ⟨r', b1, -, b3, -, -, -, b7, b8⟩ := a8.2.1 q e
  rw [hr] at b1
  cases b1
  exact ⟨b3.1.2.1, b3.2.2.1.2.1, b7, b8⟩
theorem RC.shelf (h : RC Z G V x col S) {s : Nat} {sh : SH} (hs : s < 8) (hg : gW G G' x) (hc : ∀ a, a < G.1 → col' a = col a) (hc0 : ∀ a, G'.1 ≤ a → col' a = 0) (hE : ∀ a, a < G.1 → a ≠ x + 37 → a ≠ x + 38 → sameG G G' a ∧ same4 V V' a) (h7 : ∀ s', s' ≠ s → G'.2.2.2 (x + 37) s' = G.2.2.2 (x + 37) s') (h8 : ∀ s', s' ≠ s → G'.2.2.2 (x + 38) s' = G.2.2.2 (x + 38) s') (hn : ShC Z G' V' col' x s sh) (hi : ∀ r, G'.2.2.2 (x + 37) s = some r → G.1 ≤ r) : RC Z G' V' x col' (putS S s sh) := by
  have a8 := h.2.2.2.2.2.2.2.1
  have a9 := h.2.2.2.2.2.2.2.2.1
  refine h.tg (S' := putS S s sh) (T := fun a => a = x + 37 ∨ a = x + 38) hg hc hc0 (fun a h1 _ hT => hE a h1 (by omega) (by omega)) (fun a ha e => by rcases h.out3 e with q | q <;> omega) (Or.inl ⟨fun a _ _ => by omega, rfl⟩) (Or.inl ⟨fun a _ _ => by omega, by omega, rfl⟩) (Or.inl ⟨by omega, by omega, rfl⟩) (Or.inr ⟨fun s' hs8 => ?_, fun s1 s2 r p1 p2 p3 p4 => ?_⟩) (Or.inl ⟨by omega, rfl⟩) (fun i hi => Or.inl fun a _ _ => by omega) (Or.inl fun a _ _ => by omega) (Or.inl fun a _ _ => by omega)
  · show ShC Z G' V' col' x s' (if s' = s then sh else S.2.2.2.1 s')
    by_cases es : s' = s
    · subst es
      rw [if_pos rfl]
      exact hn
    · rw [if_neg es]
      refine (a8 s' hs8).st hg.1 hc (fun a h1 h3 => by have o := h.out3 h3; exact hE a h1 (by omega) (by omega)) (h7 s' es) (h8 s' es) fun r hr => ?_
      obtain ⟨b1, b2, b3, b4⟩ := h.rowlt hs8 hr
      have o1 := h.out2 b3
      have o2 := h.out2 b4
      exact ⟨hE r b1 (by omega) (by omega), hE _ b2 (by omega) (by omega)⟩
  · by_cases e1 : s1 = s
    · by_cases e2 : s2 = s
      · omega
      · rw [e1] at p3
        rw [h7 s2 e2] at p4
        have q1 := hi r p3
        have q2 := h.rowlt p2 p4
        omega
    · by_cases e2 : s2 = s
      · rw [e2] at p4
        rw [h7 s1 e1] at p3
        have q1 := hi r p4
        have q2 := h.rowlt p1 p3
        omega
      · rw [h7 s1 e1] at p3
        rw [h7 s2 e2] at p4
        exact a9 s1 s2 r p1 p2 p3 p4
theorem RC.tne (h : RC Z G V x col S) : x + 142 ≤ G.1 := h.2.1
end SHF
theorem c_X7_join {l : Launch} {Z : zP} {G : zG} {V : zV} {x : Nat} {col : Nat → Nat} {S : SX} (hRC : RC Z G V x col S) {h o : Int32} : CT l Z yX7_join cX7_join 5 (some .int) 8 0 0 [.ref x, .int h, .int o] G V (pCI Z G V x col (fJoin S h o)) := by
  refine CT.of (by decide +kernel) (Nat.le_of_ble_eq_true rfl) (fun X hX cx => ?_)
  subst hX
  show Wm Z X 5 G V 0 0 _ 0 [(0, some (.ref x)), (1, some (.int h)), (2, some (.int o))] []
  have hQ := hRC.1
  have h0 := hQ.1
  have hWd := hRC.2.2.2.2.1
  have hO := RO.refl hRC
  have c66 := hWd.2.1
  refine x_aload_n (pc := 0) cx (dA ddX7_join (i := 0) rfl) rfl ?_
  refine gX7_10 (pc := 1) (rfA hQ.2.1.1) cx (dA ddX7_join (i := 1) rfl) h0 ?_
  refine x_iload_n (pc := 4) cx (dA ddX7_join (i := 2) rfl) rfl ?_
  by_cases ch : okc S h
  · obtain ⟨i, hi, rfl, ti⟩ := i32_in ch
    have i6 : i < 6 := by omega
    have eXi : hX S (nI i) = S.1.2.1 i := hX_at (by omega)
    obtain ⟨aV, aN, azN⟩ := hWd.2.2.1 i hi
    have aH := (hQ.2.1.2.2.2.2.2.2 i i6).2
    have aB := aN.1
    have a4 := aB.1
    have a06 := aN.2.1
    have eis : hsA (x + 1) S.1.1 (nI i) = some (x + 1 + 5 + 2 * i) := by unfold hsA; rw [nI_toInt (by omega), if_pos (by omega)]; rfl
    refine x_V1 (pc := 5) mX7_156 hQ.2.1.2.1 (c_X6_houseAt hQ.2.1.2 hWd.1 c66) cx (dA ddX7_join (i := 3) rfl) (kR ?_)
    rw [eis, show va_rf (some (x + 1 + 5 + 2 * i)) = .ref (x + 1 + 5 + 2 * i) from rfl]
    refine x_astore_n (pc := 8) cx (dA ddX7_join (i := 4) rfl) (by decide) rfl ?_
    refine x_aload_n (pc := 9) cx (dA ddX7_join (i := 5) rfl) rfl ?_
    refine gX7_10 (pc := 10) (rfA hQ.2.1.1) cx (dA ddX7_join (i := 6) rfl) h0 ?_
    refine x_iload_n (pc := 13) cx (dA ddX7_join (i := 7) rfl) rfl ?_
    by_cases co : okc S o
    · obtain ⟨k, hk, rfl, tk⟩ := i32_in co
      have k6 : k < 6 := by omega
      have eXk : hX S (nI k) = S.1.2.1 k := hX_at (by omega)
      obtain ⟨bV, bN, bzN⟩ := hWd.2.2.1 k hk
      have bH := (hQ.2.1.2.2.2.2.2.2 k k6).2
      have bB := bN.1
      have b4 := bB.1
      have b06 := bN.2.1
      have eks : hsA (x + 1) S.1.1 (nI k) = some (x + 1 + 5 + 2 * k) := by unfold hsA; rw [nI_toInt (by omega), if_pos (by omega)]; rfl
      refine x_V1 (pc := 14) mX7_156 hQ.2.1.2.1 (c_X6_houseAt hQ.2.1.2 hWd.1 c66) cx (dA ddX7_join (i := 8) rfl) (kR ?_)
      rw [eks, show va_rf (some (x + 1 + 5 + 2 * k)) = .ref (x + 1 + 5 + 2 * k) from rfl]
      refine x_astore (pc := 17) cx (dA ddX7_join (i := 9) rfl) (by decide) rfl ?_
      refine x_aload_n (pc := 19) cx (dA ddX7_join (i := 10) rfl) rfl ?_
      refine x_ifnull_s (pc := 20) cx (dA ddX7_join (i := 11) rfl) ?_
      refine x_aload (pc := 23) cx (dA ddX7_join (i := 12) rfl) rfl ?_
      refine x_ifnull_s (pc := 25) cx (dA ddX7_join (i := 13) rfl) ?_
      refine x_iload_n (pc := 28) cx (dA ddX7_join (i := 14) rfl) rfl ?_
      refine x_iload_n (pc := 29) cx (dA ddX7_join (i := 15) rfl) rfl ?_
      refine x_icmp_ne (pc := 30) (tgt := 40) cx (dA ddX7_join (i := 16) rfl) (by decide) (fun c30 => ?_) (fun c30 => ?_)
      · have cne : nI i ≠ nI k := c30
        have CA : okc S (nI i) ∧ okc S (nI k) ∧ nI i ≠ nI k := ⟨ch, co, cne⟩
        refine x_aload_n (pc := 40) cx (dA ddX7_join (i := 21) rfl) rfl ?_
        refine x_aload (pc := 41) cx (dA ddX7_join (i := 22) rfl) rfl ?_
        refine x_V1 (pc := 43) mX7_278 aH.1 (c_X0_goesWith aH aV aB bH bV bB) cx (dA ddX7_join (i := 23) rfl) (kI ?_)
        refine x_if_ne (pc := 46) (tgt := 56) cx (dA ddX7_join (i := 24) rfl) (by decide) (fun c46 => ?_) (fun c46 => ?_)
        · have cj := b2i_ne c46
          have CJ : hX S (nI i) 0 = hX S (nI k) 0 ∧ hX S (nI i) 4 + hX S (nI k) 4 ≤ 3 := by rw [eXi, eXk]; exact cj
          refine x_aload_n (pc := 56) cx (dA ddX7_join (i := 29) rfl) rfl ?_
          refine gX7_10 (pc := 57) (rfA hQ.2.1.1) cx (dA ddX7_join (i := 30) rfl) h0 ?_
          refine x_V0 (pc := 60) mX7_145 hQ.2.1.2.1 (c_X6_isFull hQ.2.1.2 hWd.1 c66) cx (dA ddX7_join (i := 31) rfl) (kI ?_)
          refine x_if_eq (pc := 63) (tgt := 73) cx (dA ddX7_join (i := 32) rfl) (by decide) (fun c63 => ?_) (fun c63 => ?_)
          · have c5 : S.1.1 < 6 := by have := b2i_eq c63; omega
            refine x_aload_n (pc := 73) cx (dA ddX7_join (i := 37) rfl) rfl ?_
            refine gX7_59 (pc := 74) (rfA hQ.2.2.2.2.2.2.2.2.2.2.1.1) cx (dA ddX7_join (i := 38) rfl) h0 ?_
            refine x_aload_n (pc := 77) cx (dA ddX7_join (i := 39) rfl) rfl ?_
            refine x_V1 (pc := 78) mX7_282 hQ.2.2.2.2.2.2.2.2.2.2.1.2.1 (c_X0_become hQ.2.2.2.2.2.2.2.2.2.2.1.2 aH) cx (dA ddX7_join (i := 40) rfl) (kV ?_)
            rw [show rAI V (x + 65 + 1) 0 20 (fun j => V.2.2.1 (x + 1 + 5 + 2 * i + 1) j) = setN V (x + 65) (S.1.2.1 i) from rAI_cg (fun j hj => aV j hj)]
            refine x_aload_n (pc := 81) cx (dA ddX7_join (i := 41) rfl) rfl ?_
            refine gX7_59 (pc := 82) (rfA hQ.2.2.2.2.2.2.2.2.2.2.1.1) cx (dA ddX7_join (i := 42) rfl) h0 ?_
            refine x_aload (pc := 85) cx (dA ddX7_join (i := 43) rfl) rfl ?_
            refine x_V1 (pc := 87) mX7_286 hQ.2.2.2.2.2.2.2.2.2.2.1.2.1 (c_X0_addSortsOf hQ.2.2.2.2.2.2.2.2.2.2.1.2 bH (by omega) (M := (S.1.2.1 k)) bV aB bB cj.2) cx (dA ddX7_join (i := 44) rfl) (kV ?_)
            refine x_aload_n (pc := 90) cx (dA ddX7_join (i := 45) rfl) rfl ?_
            refine gX7_10 (pc := 91) (rfA hQ.2.1.1) cx (dA ddX7_join (i := 46) rfl) h0 ?_
            refine x_aload_n (pc := 94) cx (dA ddX7_join (i := 47) rfl) rfl ?_
            refine gX7_59 (pc := 95) (rfA hQ.2.2.2.2.2.2.2.2.2.2.1.1) cx (dA ddX7_join (i := 48) rfl) h0 ?_
            refine x_V1 (pc := 98) mX7_153 hQ.2.1.2.1 (c_X6_add (V := (setN V (x + 65) (addO (S.1.2.1 i) (S.1.2.1 k) ((S.1.2.1 k) 4)))) hQ.2.1.2 hWd.1 c5 hQ.2.2.2.2.2.2.2.2.2.2.1.2) cx (dA ddX7_join (i := 49) rfl) (kI ?_)
            refine x_ireturn (pc := 101) cx (dA ddX7_join (i := 50) rfl) (by first | exact Nat.le_of_ble_eq_true rfl | omega) (by first | exact Nat.le_of_ble_eq_true rfl | omega) ?_
            exact pCI.g (S' := (putW S (addW S.1 (addO (S.1.2.1 i) (S.1.2.1 k) ((S.1.2.1 k) 4))))) (by unfold fJoin; rw [if_pos CA, if_pos CJ, if_neg (by omega), eXi, eXk]) (hRC.tg (S' := (putW S (addW S.1 (addO (S.1.2.1 i) (S.1.2.1 k) ((S.1.2.1 k) 4))))) (T := fun a => a = x + 1 ∨ a = x + 66 ∨ a = x + 1 + 5 + 2 * S.1.1 + 1) (gW.refl G x) (fun _ _ => rfl) hRC.2.2.2.1 (fun a _ _ hT => ⟨sameG.refl G a, (((same4.refl V a).rAI (by omega)).rAI (by omega)).sI (by omega)⟩) (fun a ha e => by rcases hRC.out3 e with q | q <;> omega) (Or.inr (hWd.hs (Nat.le_refl _) (fun _ _ => rfl) (fun a _ h2 => by have o := hRC.out3 h2; exact ⟨sameG.refl G a, (((same4.refl V a).rAI (by omega)).rAI (by omega)).sI (by omega)⟩) (sameG.refl G _) ((((same4.refl V _).rAI (by omega)).rAI (by omega)).sI (by omega)) ((((same4.refl V _).rAI (by omega)).rAI (by omega)).sI (by omega)) sI_eq (show S.1.1 + 1 ≤ 6 by omega) (alt_hh (V := V) (n := S.1.1 + 1) (fun j hj hne => hWd.2.2.1 j (by omega)) ⟨fun j hj => (rAI_at hj).trans (rAI_at hj), addO_OK aN bN cj.2, addO_NZ azN _ cj.2⟩ (fun j hj _ => (((same4.refl V _).rAI (by omega)).rAI (by omega)).sI (by omega))) ((sI_ne (by decide)).trans hWd.2.2.2.1) rfl)) (Or.inl ⟨fun a _ _ => by omega, by omega, rfl⟩) (Or.inl ⟨by omega, by omega, rfl⟩) (Or.inl ⟨by omega, by omega, fun a ha e => by rcases hRC.out2 ha with q | q <;> omega, rfl⟩) (Or.inl ⟨by omega, rfl⟩) (fun i hi => Or.inl fun a _ _ => by omega) (Or.inl fun a _ _ => by omega) (Or.inl fun a _ _ => by omega)) (Nat.le_refl _) (fun _ _ => rfl) (fun a _ ha => by have o := hRC.out0 ha; exact ⟨sameG.refl G a, (((same4.refl V a).rAI (by omega)).rAI (by omega)).sI (by omega)⟩)
          · have c6 : S.1.1 = 6 := by have := b2i_ne c63; omega
            refine x_aload_n (pc := 66) cx (dA ddX7_join (i := 33) rfl) rfl ?_
            refine x_bipush (pc := 67) (v := -6) cx (dA ddX7_join (i := 34) rfl) (by decide) ?_
            refine x_V1 (pc := 69) mX7_74 h0 (c_X7_refuse hQ (i := 4) (by decide) rfl) cx (dA ddX7_join (i := 35) rfl) (kI ?_)
            refine x_ireturn (pc := 72) cx (dA ddX7_join (i := 36) rfl) (by first | exact Nat.le_of_ble_eq_true rfl | omega) (by first | exact Nat.le_of_ble_eq_true rfl | omega) ?_
            exact pCI.r hO (by decide) (by unfold fJoin; rw [if_pos CA, if_pos CJ, if_pos c6])
        · have cj := b2i_eq c46
          refine x_aload_n (pc := 49) cx (dA ddX7_join (i := 25) rfl) rfl ?_
          refine x_bipush (pc := 50) (v := -5) cx (dA ddX7_join (i := 26) rfl) (by decide) ?_
          refine x_V1 (pc := 52) mX7_74 h0 (c_X7_refuse hQ (i := 3) (by decide) rfl) cx (dA ddX7_join (i := 27) rfl) (kI ?_)
          refine x_ireturn (pc := 55) cx (dA ddX7_join (i := 28) rfl) (by first | exact Nat.le_of_ble_eq_true rfl | omega) (by first | exact Nat.le_of_ble_eq_true rfl | omega) ?_
          exact pCI.r hO (by decide) (by unfold fJoin; rw [if_pos CA, if_neg (by rw [eXi, eXk]; exact cj)])
      · refine x_aload_n (pc := 33) cx (dA ddX7_join (i := 17) rfl) rfl ?_
        refine x_bipush (pc := 34) (v := -2) cx (dA ddX7_join (i := 18) rfl) (by decide) ?_
        refine x_V1 (pc := 36) mX7_74 h0 (c_X7_refuse hQ (i := 0) (by decide) rfl) cx (dA ddX7_join (i := 19) rfl) (kI ?_)
        refine x_ireturn (pc := 39) cx (dA ddX7_join (i := 20) rfl) (by first | exact Nat.le_of_ble_eq_true rfl | omega) (by first | exact Nat.le_of_ble_eq_true rfl | omega) ?_
        first | exact pCI.r hO (by decide) (if_neg (fun q => ch q.1)) | exact pCI.r hO (by decide) (if_neg (fun q => co q.2.1)) | exact pCI.r hO (by decide) (if_neg (fun q => q.2.2 c30))
    · have eks : hsA (x + 1) S.1.1 o = none := if_neg co
      refine x_V1 (pc := 14) mX7_156 hQ.2.1.2.1 (c_X6_houseAt hQ.2.1.2 hWd.1 c66) cx (dA ddX7_join (i := 8) rfl) (kR ?_)
      rw [eks, show va_rf none = .null from rfl]
      refine x_astoreN (pc := 17) cx (dA ddX7_join (i := 9) rfl) (by decide) rfl ?_
      refine x_aload_n (pc := 19) cx (dA ddX7_join (i := 10) rfl) rfl ?_
      refine x_ifnull_s (pc := 20) cx (dA ddX7_join (i := 11) rfl) ?_
      refine x_aloadN (pc := 23) cx (dA ddX7_join (i := 12) rfl) rfl ?_
      refine x_ifnull_n (pc := 25) (tgt := 33) cx (dA ddX7_join (i := 13) rfl) (by decide) ?_
      refine x_aload_n (pc := 33) cx (dA ddX7_join (i := 17) rfl) rfl ?_
      refine x_bipush (pc := 34) (v := -2) cx (dA ddX7_join (i := 18) rfl) (by decide) ?_
      refine x_V1 (pc := 36) mX7_74 h0 (c_X7_refuse hQ (i := 0) (by decide) rfl) cx (dA ddX7_join (i := 19) rfl) (kI ?_)
      refine x_ireturn (pc := 39) cx (dA ddX7_join (i := 20) rfl) (by first | exact Nat.le_of_ble_eq_true rfl | omega) (by first | exact Nat.le_of_ble_eq_true rfl | omega) ?_
      first | exact pCI.r hO (by decide) (if_neg (fun q => ch q.1)) | exact pCI.r hO (by decide) (if_neg (fun q => co q.2.1)) | exact pCI.r hO (by decide) (if_neg (fun q => q.2.2 c30))
  · have eis : hsA (x + 1) S.1.1 h = none := if_neg ch
    refine x_V1 (pc := 5) mX7_156 hQ.2.1.2.1 (c_X6_houseAt hQ.2.1.2 hWd.1 c66) cx (dA ddX7_join (i := 3) rfl) (kR ?_)
    rw [eis, show va_rf none = .null from rfl]
    refine x_astore_nN (pc := 8) cx (dA ddX7_join (i := 4) rfl) (by decide) rfl ?_
    refine x_aload_n (pc := 9) cx (dA ddX7_join (i := 5) rfl) rfl ?_
    refine gX7_10 (pc := 10) (rfA hQ.2.1.1) cx (dA ddX7_join (i := 6) rfl) h0 ?_
    refine x_iload_n (pc := 13) cx (dA ddX7_join (i := 7) rfl) rfl ?_
    by_cases co : okc S o
    · obtain ⟨k, hk, rfl, tk⟩ := i32_in co
      have k6 : k < 6 := by omega
      have eXk : hX S (nI k) = S.1.2.1 k := hX_at (by omega)
      obtain ⟨bV, bN, bzN⟩ := hWd.2.2.1 k hk
      have bH := (hQ.2.1.2.2.2.2.2.2 k k6).2
      have bB := bN.1
      have b4 := bB.1
      have b06 := bN.2.1
      have eks : hsA (x + 1) S.1.1 (nI k) = some (x + 1 + 5 + 2 * k) := by unfold hsA; rw [nI_toInt (by omega), if_pos (by omega)]; rfl
      refine x_V1 (pc := 14) mX7_156 hQ.2.1.2.1 (c_X6_houseAt hQ.2.1.2 hWd.1 c66) cx (dA ddX7_join (i := 8) rfl) (kR ?_)
      rw [eks, show va_rf (some (x + 1 + 5 + 2 * k)) = .ref (x + 1 + 5 + 2 * k) from rfl]
      refine x_astore (pc := 17) cx (dA ddX7_join (i := 9) rfl) (by decide) rfl ?_
      refine x_aload_nN (pc := 19) cx (dA ddX7_join (i := 10) rfl) rfl ?_
      refine x_ifnull_n (pc := 20) (tgt := 33) cx (dA ddX7_join (i := 11) rfl) (by decide) ?_
      refine x_aload_n (pc := 33) cx (dA ddX7_join (i := 17) rfl) rfl ?_
      refine x_bipush (pc := 34) (v := -2) cx (dA ddX7_join (i := 18) rfl) (by decide) ?_
      refine x_V1 (pc := 36) mX7_74 h0 (c_X7_refuse hQ (i := 0) (by decide) rfl) cx (dA ddX7_join (i := 19) rfl) (kI ?_)
      refine x_ireturn (pc := 39) cx (dA ddX7_join (i := 20) rfl) (by first | exact Nat.le_of_ble_eq_true rfl | omega) (by first | exact Nat.le_of_ble_eq_true rfl | omega) ?_
      first | exact pCI.r hO (by decide) (if_neg (fun q => ch q.1)) | exact pCI.r hO (by decide) (if_neg (fun q => co q.2.1)) | exact pCI.r hO (by decide) (if_neg (fun q => q.2.2 c30))
    · have eks : hsA (x + 1) S.1.1 o = none := if_neg co
      refine x_V1 (pc := 14) mX7_156 hQ.2.1.2.1 (c_X6_houseAt hQ.2.1.2 hWd.1 c66) cx (dA ddX7_join (i := 8) rfl) (kR ?_)
      rw [eks, show va_rf none = .null from rfl]
      refine x_astoreN (pc := 17) cx (dA ddX7_join (i := 9) rfl) (by decide) rfl ?_
      refine x_aload_nN (pc := 19) cx (dA ddX7_join (i := 10) rfl) rfl ?_
      refine x_ifnull_n (pc := 20) (tgt := 33) cx (dA ddX7_join (i := 11) rfl) (by decide) ?_
      refine x_aload_n (pc := 33) cx (dA ddX7_join (i := 17) rfl) rfl ?_
      refine x_bipush (pc := 34) (v := -2) cx (dA ddX7_join (i := 18) rfl) (by decide) ?_
      refine x_V1 (pc := 36) mX7_74 h0 (c_X7_refuse hQ (i := 0) (by decide) rfl) cx (dA ddX7_join (i := 19) rfl) (kI ?_)
      refine x_ireturn (pc := 39) cx (dA ddX7_join (i := 20) rfl) (by first | exact Nat.le_of_ble_eq_true rfl | omega) (by first | exact Nat.le_of_ble_eq_true rfl | omega) ?_
      first | exact pCI.r hO (by decide) (if_neg (fun q => ch q.1)) | exact pCI.r hO (by decide) (if_neg (fun q => co q.2.1)) | exact pCI.r hO (by decide) (if_neg (fun q => q.2.2 c30))
