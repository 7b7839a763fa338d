theorem isK_mG {Z : zP} {G : zG} {a c t N M : Nat} (h : isK Z G a c) : isK Z (mG G t N M) a c := ⟨h.1, by have := h.2.1; show a < G.1 + 1 + N; omega, by show (if a = G.1 then _ else if G.1 < a ∧ _ then _ else G.2.1 a : Nat × Nat).1 = c; rw [if_neg (Nat.ne_of_lt h.2.1), if_neg (fun q => absurd q.1 (Nat.not_lt.mpr (Nat.le_of_lt h.2.1)))]; exact h.2.2⟩
/-- what is made for y so far: field, place, type, rows (0: it is one), length -/
def mH (Z : zP) (G : zG) (y : Nat) (q : Nat × Nat × Nat × Nat × Nat) : Prop := G.2.2.1 q.1 y = some (y + q.2.1) ∧ (q.2.2.2.1 = 0 → isA Z G (y + q.2.1) q.2.2.1 q.2.2.2.2) ∧ (q.2.2.2.1 ≠ 0 → isA Z G (y + q.2.1) (6 + q.2.2.1) q.2.2.2.1 ∧ ∀ i, i < q.2.2.2.1 → G.2.2.2 (y + q.2.1) i = some (y + q.2.1 + 1 + i) ∧ isA Z G (y + q.2.1 + 1 + i) q.2.2.1 q.2.2.2.2)
def mAll (Z : zP) (G0 G : zG) (y T : Nat) (L : List (Nat × Nat × Nat × Nat × Nat)) : Prop := isK Z G y 8 ∧ G.1 = y + T ∧ (∀ a, a < y → sameG G0 G a) ∧ ∀ q ∈ L, mH Z G y q ∧ 1 ≤ q.2.1 ∧ q.2.1 + 1 + q.2.2.2.1 ≤ T
def nof2 (f : Nat) (L : List (Nat × Nat × Nat × Nat × Nat)) : Bool := L.all fun q => !Nat.beq q.1 f
theorem mAll.step {Z : zP} {G0 G G2 : zG} {y T T2 f t r n : Nat} {L : List (Nat × Nat × Nat × Nat × Nat)} (hm : mAll Z G0 G y T L) (t2 : G2.1 = y + T2) (h1 : 1 ≤ T) (h2 : T + 1 + r ≤ T2) (hR : G2.2.2.1 = G.2.2.1) (hs : ∀ a, a < y + T → G2.2.1 a = G.2.1 a ∧ ∀ i, G2.2.2.2 a i = G.2.2.2 a i)
    (q0 : r = 0 → isA Z G2 (y + T) t n) (qr : r ≠ 0 → isA Z G2 (y + T) (6 + t) r ∧ ∀ i, i < r → G2.2.2.2 (y + T) i = some (y + T + 1 + i) ∧ isA Z G2 (y + T + 1 + i) t n) (hn : nof2 f L = true) : mAll Z G0 (sR G2 f y (some (y + T))) y T2 ((f, T, t, r, n) :: L) := by
  obtain ⟨k, e, s, l⟩ := hm
  have mv : ∀ a t n, a < y + T → isA Z G a t n → isA Z (sR G2 f y (some (y + T))) a t n := fun a t n ha h => ⟨h.1, by show a < G2.1; omega, (hs a ha).1.trans h.2.2⟩
  refine ⟨⟨k.1, by show y < G2.1; omega, by show (G2.2.1 y).1 = 8; rw [(hs y (by omega)).1]; exact k.2.2⟩, t2, fun a ha => ⟨(hs a (by omega)).1.trans (s a ha).1, fun g => (sR_na (show a ≠ y by omega)).trans ((congrFun (congrFun hR g) a).trans ((s a ha).2.1 g)), fun i => ((hs a (by omega)).2 i).trans ((s a ha).2.2 i)⟩, fun q hq => ?_⟩
  rcases List.mem_cons.mp hq with rfl | hq
  · exact ⟨⟨sR_eq, q0, qr⟩, h1, h2⟩
  · obtain ⟨⟨a1, a2, a3⟩, b1, b2⟩ := l q hq
    have h3 := List.all_eq_true.mp hn _ hq
    have ne : q.1 ≠ f := by
      intro e
      rw [e, Nat.beq_refl] at h3
      cases h3
    refine ⟨⟨(sR_ne ne).trans ((congrFun (congrFun hR _) _).trans a1), fun z => mv _ _ _ (by omega) (a2 z), fun z => ⟨mv _ _ _ (by omega) (a3 z).1, fun i hi => ⟨((hs _ (by omega)).2 i).trans ((a3 z).2 i hi).1, mv _ _ _ (by omega) ((a3 z).2 i hi).2⟩⟩⟩, b1, by omega⟩
theorem mAll.one {Z : zP} {G0 G : zG} {y T f t n : Nat} {L : List (Nat × Nat × Nat × Nat × Nat)} (hz : Z.1 ≤ y) (hm : mAll Z G0 G y T L) (h1 : 1 ≤ T) (hn : nof2 f L = true) : mAll Z G0 (sR (nG G (9 + t) n) f y (some (y + T))) y (T + 1) ((f, T, t, 0, n) :: L) :=
  hm.step (by show G.1 + 1 = _; have := hm.2.1; omega) h1 (Nat.le_refl _) rfl (fun a ha => ⟨va_up_ne _ _ (by have := hm.2.1; omega), fun _ => rfl⟩) (fun _ => isA_new (by have := hm.2.1; omega) hm.2.1) (fun h => absurd rfl h) hn
theorem mAll.two {Z : zP} {G0 G : zG} {y T f t r n : Nat} {L : List (Nat × Nat × Nat × Nat × Nat)} (hz : Z.1 ≤ y) (hm : mAll Z G0 G y T L) (h1 : 1 ≤ T) (hr : r ≠ 0) (hn : nof2 f L = true) : mAll Z G0 (sR (mG G t r n) f y (some (y + T))) y (T + 1 + r) ((f, T, t, r, n) :: L) := by
  have e := hm.2.1
  refine hm.step (by show G.1 + 1 + r = _; omega) h1 (Nat.le_refl _) rfl (fun a ha => ⟨?_, fun i => if_neg (by omega)⟩) (fun h => absurd h hr) (fun _ => ⟨⟨by omega, by show y + T < G.1 + 1 + r; omega, if_pos e.symm⟩, fun i hi => ⟨?_, by omega, by show _ < G.1 + 1 + r; omega, ?_⟩⟩) hn
  · exact (if_neg (by omega)).trans (if_neg (by omega))
  · rw [← e]; exact if_pos ⟨rfl, hi⟩
  · exact (if_neg (by omega)).trans (if_pos (by omega))
theorem mAll.g1 {Z : zP} {G0 G : zG} {y T f o t n : Nat} {L : List (Nat × Nat × Nat × Nat × Nat)} (hm : mAll Z G0 G y T L) (k : Nat) (h : L[k]? = some (f, o, t, 0, n)) : A1 Z G y f o t n := by
  have q := (hm.2.2.2 _ (List.mem_of_getElem? h)).1
  exact ⟨q.1, q.2.1 rfl⟩
theorem mAll.g2 {Z : zP} {G0 G : zG} {y T f o t r n : Nat} {L : List (Nat × Nat × Nat × Nat × Nat)} (hm : mAll Z G0 G y T L) (k : Nat) (hr : r ≠ 0) (h : L[k]? = some (f, o, t, r, n)) : A2 Z G y f o t r n := by
  have q := (hm.2.2.2 _ (List.mem_of_getElem? h)).1
  exact ⟨q.1, q.2.2 hr⟩
theorem c_X8_init {l : Launch} {Z : zP} {G : zG} {V : zV} {y : Nat} (h0 : isK Z G y 8) (ht : G.1 = y + 1) : CT l Z yX8_init cX8_init 1 none 1 93 8835 [.ref y] G V (pVg (fun G' V' => G'.1 = y + 94 ∧ (∀ a, a < y → sameG G G' a) ∧ ModelAt Z G' y ∧ V' = sI (sI V 413 y (nI 1)) 439 y (-1))) := by
  refine CT.of (by decide +kernel) (Nat.le_of_ble_eq_true rfl) (fun X hX cx => ?_)
  subst hX
  show Wm Z X 1 G V 0 0 _ 0 [(0, some (.ref y))] []
  refine x_aload_n (pc := 0) cx (dA ddX8_init (i := 0) rfl) rfl ?_
  refine Wm.top fun hZ _ => ?_
  have m0 : mAll Z G G y 1 [] := ⟨h0, ht, fun a _ => sameG.refl G a, fun q h => absurd h (by simp)⟩
  have hz := h0.1
  refine x_objInit (pc := 1) koX8_1 ko_i ko_c cx (dA ddX8_init (i := 1) rfl) (by decide) (Nat.le_of_ble_eq_true rfl) ?_
  refine x_aload_n (pc := 4) cx (dA ddX8_init (i := 2) rfl) rfl ?_
  refine x_bipush (pc := 5) (v := nI 8) cx (dA ddX8_init (i := 3) rfl) (by decide) ?_
  refine x_newI (pc := 7) cx (dA ddX8_init (i := 4) rfl) (by decide) ?_
  rw [m0.2.1]
  refine pX8_7 (pc := 9) (x := some (y + 1)) cx (dA ddX8_init (i := 5) rfl) (isK_nG m0.1) ?_
  obtain ⟨G1, hG1⟩ : ∃ Gx, Gx = sR (nG G (9 + 1) 8) 400 y (some (y + 1)) := ⟨_, rfl⟩
  have m1 := m0.one (f := 400) (t := 1) (n := 8) hz (by decide) rfl
  rw [← hG1] at m1
  rw [← hG1]
  clear hG1 m0
  refine x_aload_n (pc := 12) cx (dA ddX8_init (i := 6) rfl) rfl ?_
  refine x_bipush (pc := 13) (v := nI 8) cx (dA ddX8_init (i := 7) rfl) (by decide) ?_
  refine x_newI (pc := 15) cx (dA ddX8_init (i := 8) rfl) (by decide) ?_
  rw [m1.2.1]
  refine pX8_13 (pc := 17) (x := some (y + 2)) cx (dA ddX8_init (i := 9) rfl) (isK_nG m1.1) ?_
  obtain ⟨G2, hG2⟩ : ∃ Gx, Gx = sR (nG G1 (9 + 1) 8) 401 y (some (y + 2)) := ⟨_, rfl⟩
  have m2 := m1.one (f := 401) (t := 1) (n := 8) hz (by decide) rfl
  rw [← hG2] at m2
  rw [← hG2]
  clear hG2 m1
  refine x_aload_n (pc := 20) cx (dA ddX8_init (i := 10) rfl) rfl ?_
  refine x_bipush (pc := 21) (v := nI 8) cx (dA ddX8_init (i := 11) rfl) (by decide) ?_
  refine x_newI (pc := 23) cx (dA ddX8_init (i := 12) rfl) (by decide) ?_
  rw [m2.2.1]
  refine pX8_16 (pc := 25) (x := some (y + 3)) cx (dA ddX8_init (i := 13) rfl) (isK_nG m2.1) ?_
  obtain ⟨G3, hG3⟩ : ∃ Gx, Gx = sR (nG G2 (9 + 1) 8) 402 y (some (y + 3)) := ⟨_, rfl⟩
  have m3 := m2.one (f := 402) (t := 1) (n := 8) hz (by decide) rfl
  rw [← hG3] at m3
  rw [← hG3]
  clear hG3 m2
  refine x_aload_n (pc := 28) cx (dA ddX8_init (i := 14) rfl) rfl ?_
  refine x_bipush (pc := 29) (v := nI 8) cx (dA ddX8_init (i := 15) rfl) (by decide) ?_
  refine x_bipush (pc := 31) (v := nI 125) cx (dA ddX8_init (i := 16) rfl) (by decide) ?_
  refine x_multiJ (pc := 33) (idx := 19) kkX8_19 cx (dA ddX8_init (i := 17) rfl) (by decide) (by decide) ?_
  rw [m3.2.1]
  refine pX8_21 (pc := 37) (x := some (y + 4)) cx (dA ddX8_init (i := 18) rfl) (isK_mG m3.1) ?_
  obtain ⟨G4, hG4⟩ : ∃ Gx, Gx = sR (mG G3 2 8 125) 403 y (some (y + 4)) := ⟨_, rfl⟩
  have m4 := m3.two (f := 403) (t := 2) (r := 8) (n := 125) hz (by decide) (by decide) rfl
  rw [← hG4] at m4
  rw [← hG4]
  clear hG4 m3
  refine x_aload_n (pc := 40) cx (dA ddX8_init (i := 19) rfl) rfl ?_
  refine x_bipush (pc := 41) (v := nI 125) cx (dA ddX8_init (i := 20) rfl) (by decide) ?_
  refine x_newJ (pc := 43) cx (dA ddX8_init (i := 21) rfl) (by decide) ?_
  rw [m4.2.1]
  refine pX8_24 (pc := 45) (x := some (y + 13)) cx (dA ddX8_init (i := 22) rfl) (isK_nG m4.1) ?_
  obtain ⟨G5, hG5⟩ : ∃ Gx, Gx = sR (nG G4 (9 + 2) 125) 404 y (some (y + 13)) := ⟨_, rfl⟩
  have m5 := m4.one (f := 404) (t := 2) (n := 125) hz (by decide) rfl
  rw [← hG5] at m5
  rw [← hG5]
  clear hG5 m4
  refine x_aload_n (pc := 48) cx (dA ddX8_init (i := 23) rfl) rfl ?_
  refine x_bipush (pc := 49) (v := nI 10) cx (dA ddX8_init (i := 24) rfl) (by decide) ?_
  refine x_newI (pc := 51) cx (dA ddX8_init (i := 25) rfl) (by decide) ?_
  rw [m5.2.1]
  refine pX8_28 (pc := 53) (x := some (y + 14)) cx (dA ddX8_init (i := 26) rfl) (isK_nG m5.1) ?_
  obtain ⟨G6, hG6⟩ : ∃ Gx, Gx = sR (nG G5 (9 + 1) 10) 405 y (some (y + 14)) := ⟨_, rfl⟩
  have m6 := m5.one (f := 405) (t := 1) (n := 10) hz (by decide) rfl
  rw [← hG6] at m6
  rw [← hG6]
  clear hG6 m5
  refine x_aload_n (pc := 56) cx (dA ddX8_init (i := 27) rfl) rfl ?_
  refine x_bipush (pc := 57) (v := nI 10) cx (dA ddX8_init (i := 28) rfl) (by decide) ?_
  refine x_newI (pc := 59) cx (dA ddX8_init (i := 29) rfl) (by decide) ?_
  rw [m6.2.1]
  refine pX8_31 (pc := 61) (x := some (y + 15)) cx (dA ddX8_init (i := 30) rfl) (isK_nG m6.1) ?_
  obtain ⟨G7, hG7⟩ : ∃ Gx, Gx = sR (nG G6 (9 + 1) 10) 406 y (some (y + 15)) := ⟨_, rfl⟩
  have m7 := m6.one (f := 406) (t := 1) (n := 10) hz (by decide) rfl
  rw [← hG7] at m7
  rw [← hG7]
  clear hG7 m6
  refine x_aload_n (pc := 64) cx (dA ddX8_init (i := 31) rfl) rfl ?_
  refine x_bipush (pc := 65) (v := nI 10) cx (dA ddX8_init (i := 32) rfl) (by decide) ?_
  refine x_bipush (pc := 67) (v := nI 125) cx (dA ddX8_init (i := 33) rfl) (by decide) ?_
  refine x_multiI (pc := 69) (idx := 34) kkX8_34 cx (dA ddX8_init (i := 34) rfl) (by decide) (by decide) ?_
  rw [m7.2.1]
  refine pX8_36 (pc := 73) (x := some (y + 16)) cx (dA ddX8_init (i := 35) rfl) (isK_mG m7.1) ?_
  obtain ⟨G8, hG8⟩ : ∃ Gx, Gx = sR (mG G7 1 10 125) 407 y (some (y + 16)) := ⟨_, rfl⟩
  have m8 := m7.two (f := 407) (t := 1) (r := 10) (n := 125) hz (by decide) (by decide) rfl
  rw [← hG8] at m8
  rw [← hG8]
  clear hG8 m7
  refine x_aload_n (pc := 76) cx (dA ddX8_init (i := 36) rfl) rfl ?_
  refine x_sipush (pc := 77) (v := nI 160) cx (dA ddX8_init (i := 37) rfl) (by decide) ?_
  refine x_newI (pc := 80) cx (dA ddX8_init (i := 38) rfl) (by decide) ?_
  rw [m8.2.1]
  refine pX8_39 (pc := 82) (x := some (y + 27)) cx (dA ddX8_init (i := 39) rfl) (isK_nG m8.1) ?_
  obtain ⟨G9, hG9⟩ : ∃ Gx, Gx = sR (nG G8 (9 + 1) 160) 408 y (some (y + 27)) := ⟨_, rfl⟩
  have m9 := m8.one (f := 408) (t := 1) (n := 160) hz (by decide) rfl
  rw [← hG9] at m9
  rw [← hG9]
  clear hG9 m8
  refine x_aload_n (pc := 85) cx (dA ddX8_init (i := 40) rfl) rfl ?_
  refine x_bipush (pc := 86) (v := nI 8) cx (dA ddX8_init (i := 41) rfl) (by decide) ?_
  refine x_newI (pc := 88) cx (dA ddX8_init (i := 42) rfl) (by decide) ?_
  rw [m9.2.1]
  refine pX8_42 (pc := 90) (x := some (y + 28)) cx (dA ddX8_init (i := 43) rfl) (isK_nG m9.1) ?_
  obtain ⟨G10, hG10⟩ : ∃ Gx, Gx = sR (nG G9 (9 + 1) 8) 410 y (some (y + 28)) := ⟨_, rfl⟩
  have m10 := m9.one (f := 410) (t := 1) (n := 8) hz (by decide) rfl
  rw [← hG10] at m10
  rw [← hG10]
  clear hG10 m9
  refine x_aload_n (pc := 93) cx (dA ddX8_init (i := 44) rfl) rfl ?_
  refine x_bipush (pc := 94) (v := nI 8) cx (dA ddX8_init (i := 45) rfl) (by decide) ?_
  refine x_bipush (pc := 96) (v := nI 20) cx (dA ddX8_init (i := 46) rfl) (by decide) ?_
  refine x_multiI (pc := 98) (idx := 34) kkX8_34 cx (dA ddX8_init (i := 47) rfl) (by decide) (by decide) ?_
  rw [m10.2.1]
  refine pX8_45 (pc := 102) (x := some (y + 29)) cx (dA ddX8_init (i := 48) rfl) (isK_mG m10.1) ?_
  obtain ⟨G11, hG11⟩ : ∃ Gx, Gx = sR (mG G10 1 8 20) 412 y (some (y + 29)) := ⟨_, rfl⟩
  have m11 := m10.two (f := 412) (t := 1) (r := 8) (n := 20) hz (by decide) (by decide) rfl
  rw [← hG11] at m11
  rw [← hG11]
  clear hG11 m10
  refine x_aload_n (pc := 105) cx (dA ddX8_init (i := 49) rfl) rfl ?_
  refine x_iconst (pc := 106) (v := nI 1) cx (dA ddX8_init (i := 50) rfl) (by decide) ?_
  refine pX8_48 (pc := 107)  cx (dA ddX8_init (i := 51) rfl) m11.1 ?_
  refine x_aload_n (pc := 110) cx (dA ddX8_init (i := 52) rfl) rfl ?_
  refine x_bipush (pc := 111) (v := nI 10) cx (dA ddX8_init (i := 53) rfl) (by decide) ?_
  refine x_newI (pc := 113) cx (dA ddX8_init (i := 54) rfl) (by decide) ?_
  rw [m11.2.1]
  refine pX8_52 (pc := 115) (x := some (y + 38)) cx (dA ddX8_init (i := 55) rfl) (isK_nG m11.1) ?_
  obtain ⟨G12, hG12⟩ : ∃ Gx, Gx = sR (nG G11 (9 + 1) 10) 422 y (some (y + 38)) := ⟨_, rfl⟩
  have m12 := m11.one (f := 422) (t := 1) (n := 10) hz (by decide) rfl
  rw [← hG12] at m12
  rw [← hG12]
  clear hG12 m11
  refine x_aload_n (pc := 118) cx (dA ddX8_init (i := 56) rfl) rfl ?_
  refine x_bipush (pc := 119) (v := nI 7) cx (dA ddX8_init (i := 57) rfl) (by decide) ?_
  refine x_bipush (pc := 121) (v := nI 125) cx (dA ddX8_init (i := 58) rfl) (by decide) ?_
  refine x_multiJ (pc := 123) (idx := 19) kkX8_19 cx (dA ddX8_init (i := 59) rfl) (by decide) (by decide) ?_
  rw [m12.2.1]
  refine pX8_55 (pc := 127) (x := some (y + 39)) cx (dA ddX8_init (i := 60) rfl) (isK_mG m12.1) ?_
  obtain ⟨G13, hG13⟩ : ∃ Gx, Gx = sR (mG G12 2 7 125) 428 y (some (y + 39)) := ⟨_, rfl⟩
  have m13 := m12.two (f := 428) (t := 2) (r := 7) (n := 125) hz (by decide) (by decide) rfl
  rw [← hG13] at m13
  rw [← hG13]
  clear hG13 m12
  refine x_aload_n (pc := 130) cx (dA ddX8_init (i := 61) rfl) rfl ?_
  refine x_bipush (pc := 131) (v := nI 7) cx (dA ddX8_init (i := 62) rfl) (by decide) ?_
  refine x_bipush (pc := 133) (v := nI 125) cx (dA ddX8_init (i := 63) rfl) (by decide) ?_
  refine x_multiI (pc := 135) (idx := 34) kkX8_34 cx (dA ddX8_init (i := 64) rfl) (by decide) (by decide) ?_
  rw [m13.2.1]
  refine pX8_58 (pc := 139) (x := some (y + 47)) cx (dA ddX8_init (i := 65) rfl) (isK_mG m13.1) ?_
  obtain ⟨G14, hG14⟩ : ∃ Gx, Gx = sR (mG G13 1 7 125) 429 y (some (y + 47)) := ⟨_, rfl⟩
  have m14 := m13.two (f := 429) (t := 1) (r := 7) (n := 125) hz (by decide) (by decide) rfl
  rw [← hG14] at m14
  rw [← hG14]
  clear hG14 m13
  refine x_aload_n (pc := 142) cx (dA ddX8_init (i := 66) rfl) rfl ?_
  refine x_bipush (pc := 143) (v := nI 7) cx (dA ddX8_init (i := 67) rfl) (by decide) ?_
  refine x_bipush (pc := 145) (v := nI 125) cx (dA ddX8_init (i := 68) rfl) (by decide) ?_
  refine x_multiJ (pc := 147) (idx := 19) kkX8_19 cx (dA ddX8_init (i := 69) rfl) (by decide) (by decide) ?_
  rw [m14.2.1]
  refine pX8_61 (pc := 151) (x := some (y + 55)) cx (dA ddX8_init (i := 70) rfl) (isK_mG m14.1) ?_
  obtain ⟨G15, hG15⟩ : ∃ Gx, Gx = sR (mG G14 2 7 125) 430 y (some (y + 55)) := ⟨_, rfl⟩
  have m15 := m14.two (f := 430) (t := 2) (r := 7) (n := 125) hz (by decide) (by decide) rfl
  rw [← hG15] at m15
  rw [← hG15]
  clear hG15 m14
  refine x_aload_n (pc := 154) cx (dA ddX8_init (i := 71) rfl) rfl ?_
  refine x_bipush (pc := 155) (v := nI 8) cx (dA ddX8_init (i := 72) rfl) (by decide) ?_
  refine x_newJ (pc := 157) cx (dA ddX8_init (i := 73) rfl) (by decide) ?_
  rw [m15.2.1]
  refine pX8_64 (pc := 159) (x := some (y + 63)) cx (dA ddX8_init (i := 74) rfl) (isK_nG m15.1) ?_
  obtain ⟨G16, hG16⟩ : ∃ Gx, Gx = sR (nG G15 (9 + 2) 8) 431 y (some (y + 63)) := ⟨_, rfl⟩
  have m16 := m15.one (f := 431) (t := 2) (n := 8) hz (by decide) rfl
  rw [← hG16] at m16
  rw [← hG16]
  clear hG16 m15
  refine x_aload_n (pc := 162) cx (dA ddX8_init (i := 75) rfl) rfl ?_
  refine x_bipush (pc := 163) (v := nI 8) cx (dA ddX8_init (i := 76) rfl) (by decide) ?_
  refine x_bipush (pc := 165) (v := nI 125) cx (dA ddX8_init (i := 77) rfl) (by decide) ?_
  refine x_multiI (pc := 167) (idx := 34) kkX8_34 cx (dA ddX8_init (i := 78) rfl) (by decide) (by decide) ?_
  rw [m16.2.1]
  refine pX8_67 (pc := 171) (x := some (y + 64)) cx (dA ddX8_init (i := 79) rfl) (isK_mG m16.1) ?_
  obtain ⟨G17, hG17⟩ : ∃ Gx, Gx = sR (mG G16 1 8 125) 432 y (some (y + 64)) := ⟨_, rfl⟩
  have m17 := m16.two (f := 432) (t := 1) (r := 8) (n := 125) hz (by decide) (by decide) rfl
  rw [← hG17] at m17
  rw [← hG17]
  clear hG17 m16
  refine x_aload_n (pc := 174) cx (dA ddX8_init (i := 80) rfl) rfl ?_
  refine x_bipush (pc := 175) (v := nI 8) cx (dA ddX8_init (i := 81) rfl) (by decide) ?_
  refine x_bipush (pc := 177) (v := nI 125) cx (dA ddX8_init (i := 82) rfl) (by decide) ?_
  refine x_multiI (pc := 179) (idx := 34) kkX8_34 cx (dA ddX8_init (i := 83) rfl) (by decide) (by decide) ?_
  rw [m17.2.1]
  refine pX8_70 (pc := 183) (x := some (y + 73)) cx (dA ddX8_init (i := 84) rfl) (isK_mG m17.1) ?_
  obtain ⟨G18, hG18⟩ : ∃ Gx, Gx = sR (mG G17 1 8 125) 433 y (some (y + 73)) := ⟨_, rfl⟩
  have m18 := m17.two (f := 433) (t := 1) (r := 8) (n := 125) hz (by decide) (by decide) rfl
  rw [← hG18] at m18
  rw [← hG18]
  clear hG18 m17
  refine x_aload_n (pc := 186) cx (dA ddX8_init (i := 85) rfl) rfl ?_
  refine x_bipush (pc := 187) (v := nI 125) cx (dA ddX8_init (i := 86) rfl) (by decide) ?_
  refine x_newI (pc := 189) cx (dA ddX8_init (i := 87) rfl) (by decide) ?_
  rw [m18.2.1]
  refine pX8_73 (pc := 191) (x := some (y + 82)) cx (dA ddX8_init (i := 88) rfl) (isK_nG m18.1) ?_
  obtain ⟨G19, hG19⟩ : ∃ Gx, Gx = sR (nG G18 (9 + 1) 125) 434 y (some (y + 82)) := ⟨_, rfl⟩
  have m19 := m18.one (f := 434) (t := 1) (n := 125) hz (by decide) rfl
  rw [← hG19] at m19
  rw [← hG19]
  clear hG19 m18
  refine x_aload_n (pc := 194) cx (dA ddX8_init (i := 89) rfl) rfl ?_
  refine x_bipush (pc := 195) (v := nI 125) cx (dA ddX8_init (i := 90) rfl) (by decide) ?_
  refine x_newI (pc := 197) cx (dA ddX8_init (i := 91) rfl) (by decide) ?_
  rw [m19.2.1]
  refine pX8_76 (pc := 199) (x := some (y + 83)) cx (dA ddX8_init (i := 92) rfl) (isK_nG m19.1) ?_
  obtain ⟨G20, hG20⟩ : ∃ Gx, Gx = sR (nG G19 (9 + 1) 125) 435 y (some (y + 83)) := ⟨_, rfl⟩
  have m20 := m19.one (f := 435) (t := 1) (n := 125) hz (by decide) rfl
  rw [← hG20] at m20
  rw [← hG20]
  clear hG20 m19
  refine x_aload_n (pc := 202) cx (dA ddX8_init (i := 93) rfl) rfl ?_
  refine x_bipush (pc := 203) (v := nI 125) cx (dA ddX8_init (i := 94) rfl) (by decide) ?_
  refine x_newI (pc := 205) cx (dA ddX8_init (i := 95) rfl) (by decide) ?_
  rw [m20.2.1]
  refine pX8_79 (pc := 207) (x := some (y + 84)) cx (dA ddX8_init (i := 96) rfl) (isK_nG m20.1) ?_
  obtain ⟨G21, hG21⟩ : ∃ Gx, Gx = sR (nG G20 (9 + 1) 125) 436 y (some (y + 84)) := ⟨_, rfl⟩
  have m21 := m20.one (f := 436) (t := 1) (n := 125) hz (by decide) rfl
  rw [← hG21] at m21
  rw [← hG21]
  clear hG21 m20
  refine x_aload_n (pc := 210) cx (dA ddX8_init (i := 97) rfl) rfl ?_
  refine x_bipush (pc := 211) (v := nI 125) cx (dA ddX8_init (i := 98) rfl) (by decide) ?_
  refine x_newJ (pc := 213) cx (dA ddX8_init (i := 99) rfl) (by decide) ?_
  rw [m21.2.1]
  refine pX8_82 (pc := 215) (x := some (y + 85)) cx (dA ddX8_init (i := 100) rfl) (isK_nG m21.1) ?_
  obtain ⟨G22, hG22⟩ : ∃ Gx, Gx = sR (nG G21 (9 + 2) 125) 437 y (some (y + 85)) := ⟨_, rfl⟩
  have m22 := m21.one (f := 437) (t := 2) (n := 125) hz (by decide) rfl
  rw [← hG22] at m22
  rw [← hG22]
  clear hG22 m21
  refine x_aload_n (pc := 218) cx (dA ddX8_init (i := 101) rfl) rfl ?_
  refine x_bipush (pc := 219) (v := nI 7) cx (dA ddX8_init (i := 102) rfl) (by decide) ?_
  refine x_bipush (pc := 221) (v := nI 125) cx (dA ddX8_init (i := 103) rfl) (by decide) ?_
  refine x_multiJ (pc := 223) (idx := 19) kkX8_19 cx (dA ddX8_init (i := 104) rfl) (by decide) (by decide) ?_
  rw [m22.2.1]
  refine pX8_85 (pc := 227) (x := some (y + 86)) cx (dA ddX8_init (i := 105) rfl) (isK_mG m22.1) ?_
  obtain ⟨G23, hG23⟩ : ∃ Gx, Gx = sR (mG G22 2 7 125) 438 y (some (y + 86)) := ⟨_, rfl⟩
  have m23 := m22.two (f := 438) (t := 2) (r := 7) (n := 125) hz (by decide) (by decide) rfl
  rw [← hG23] at m23
  rw [← hG23]
  clear hG23 m22
  refine x_aload_n (pc := 230) cx (dA ddX8_init (i := 106) rfl) rfl ?_
  refine x_iconst (pc := 231) (v := -1) cx (dA ddX8_init (i := 107) rfl) (by decide) ?_
  refine pX8_88 (pc := 232)  cx (dA ddX8_init (i := 108) rfl) m23.1 ?_
  refine x_return (pc := 235) cx (dA ddX8_init (i := 109) rfl) (by first | exact Nat.le_of_ble_eq_true rfl | omega) (by first | exact Nat.le_of_ble_eq_true rfl | omega) ?_
  exact ⟨rfl, m23.2.1, m23.2.2.1, ⟨m23.1, (m23.g1 22 rfl), (m23.g1 21 rfl), (m23.g1 20 rfl), (m23.g2 19 (by decide) rfl), (m23.g1 18 rfl), (m23.g1 17 rfl), (m23.g1 16 rfl), (m23.g2 15 (by decide) rfl), (m23.g1 14 rfl), (m23.g1 13 rfl), (m23.g2 12 (by decide) rfl), (m23.g1 11 rfl), (m23.g2 10 (by decide) rfl), (m23.g2 9 (by decide) rfl), (m23.g2 8 (by decide) rfl), (m23.g1 7 rfl), (m23.g2 6 (by decide) rfl), (m23.g2 5 (by decide) rfl), (m23.g1 4 rfl), (m23.g1 3 rfl), (m23.g1 2 rfl), (m23.g1 1 rfl), (m23.g2 0 (by decide) rfl)⟩, rfl⟩
