/-! CONSTRUCTORS, what they leave unset -/
/-- no week's rule and no kept one is written, nothing in arrays of references but those in W -/
def gN (G G' : zG) (W : Nat → Prop) : Prop := (∀ a, G'.2.2.1 251 a = G.2.2.1 251 a ∧ G'.2.2.1 421 a = G.2.2.1 421 a) ∧ ∀ a i, ¬ W a → G'.2.2.2 a i = G.2.2.2 a i
def W0 : Nat → Prop := fun _ => False
theorem gN.rf (G : zG) (W : Nat → Prop) : gN G G W := ⟨fun _ => ⟨rfl, rfl⟩, fun _ _ _ => rfl⟩
theorem gN.nG {G G' : zG} {W : Nat → Prop} {t n : Nat} (h : gN G G' W) : gN G (nG G' t n) W := h
theorem gN.sR {G G' : zG} {W : Nat → Prop} {f a : Nat} {v : Option Nat} (h : gN G G' W) (h1 : 251 ≠ f) (h2 : 421 ≠ f) : gN G (sR G' f a v) W := ⟨fun b => ⟨(sR_ne h1).trans (h.1 b).1, (sR_ne h2).trans (h.1 b).2⟩, h.2⟩
theorem gN.sAR {G G' : zG} {W : Nat → Prop} {a i : Nat} {v : Option Nat} (h : gN G G' W) (hW : W a) : gN G (sAR G' a i v) W := ⟨h.1, fun b j hb => (sAR_na (fun e => hb (by rw [e]; exact hW))).trans (h.2 b j hb)⟩
theorem gN.tr {G G' G'' : zG} {W U : Nat → Prop} (h : gN G G' W) (h2 : gN G' G'' U) (hu : ∀ a, U a → W a) : gN G G'' W := ⟨fun a => ⟨(h2.1 a).1.trans (h.1 a).1, (h2.1 a).2.trans (h.1 a).2⟩, fun a i ha => (h2.2 a i (fun q => ha (hu a q))).trans (h.2 a i ha)⟩
theorem gN.t0 {G G' G'' : zG} {W : Nat → Prop} (h : gN G G' W) (h2 : gN G' G'' W0) : gN G G'' W := h.tr h2 (fun _ q => absurd q id)
theorem d_X1_init {l : Launch} {Z : zP} {G : zG} {V : zV} {p : Nat} (h0 : isK Z G p 1) (ht : G.1 = p + 1) : CT l Z yX1_init cX1_init 1 none 2 11 3396 [.ref p] G V (pVg (fun G' V' => G'.1 = p + 12 ∧ (∀ a, a < p → sameG G G' a) ∧ PlanAt Z G' p ∧ V' = sI (sI V 63 p (-1)) 64 p (-1) ∧ gN G G' W0)) := by
  refine CT.of (by decide +kernel) (Nat.le_of_ble_eq_true rfl) (fun X hX cx => ?_)
  subst hX
  show Wm Z X 1 G V 0 0 _ 0 [(0, some (.ref p))] []
  refine x_aload_n (pc := 0) cx (dA ddX1_init (i := 0) rfl) rfl ?_
  refine Wm.top fun hZ _ => ?_
  refine x_objInit (pc := 1) koX1_3 ko_i ko_c cx (dA ddX1_init (i := 1) rfl) (by decide) (Nat.le_of_ble_eq_true rfl) ?_
  refine x_aload_n (pc := 4) cx (dA ddX1_init (i := 2) rfl) rfl ?_
  refine nX1_9 (pc := 5) cx (dA ddX1_init (i := 3) rfl) ?_
  refine x_dup (pc := 8) cx rfl (dA ddX1_init (i := 4) rfl) ?_
  refine x_IN0 (pc := 9) mX1_11 (c_X0_init ⟨by omega, Nat.lt_succ_self _, by show (va_up G.2.1 G.1 (0, 0) G.1).1 = 0; rw [va_up_self]⟩) cx (dA ddX1_init (i := 5) rfl) (kV ?_)
  obtain ⟨G1, hG1⟩ : ∃ G1, G1 = sR (nG (nG G 0 0) 10 20) 0 G.1 (some (nG G 0 0).1) := ⟨_, rfl⟩
  have g1 : gAll Z G1 [(2, 0, p + 1, p + 2), (1, p + 2, 1, 20), (0, p + 1, 0, 0), (0, p, 1, 0)] := by rw [hG1, show (nG G 0 0).1 = p + 2 from by show G.1 + 1 = _; omega, ht]; have hz2 := hZ; exact ((show (nG G 0 0).1 = p + 2 from by show G.1 + 1 = _; omega) ▸ (gAll.newA (t := 1) (n := 20) (by show Z.1 ≤ G.1 + 1; omega) (ht ▸ gAll.newK (c := 0) (n := 0) hZ (gAll.cons (q := (0, p, 1, 0)) h0 (gAll.nil Z G))))).ref rfl
  have t1 : G1.1 = p + 3 := by rw [hG1]; show G.1 + 2 = _; omega
  have s1 : ∀ a, a < p → sameG G G1 a := fun a ha => by rw [hG1]; exact ((((sameG.refl G a).nG (by omega)).nG (by show a < G.1 + 1; omega)).sR (by omega))
  have n1 : gN G G1 W0 := by rw [hG1]; exact ((gN.rf G W0).nG.nG).sR (by decide) (by decide)
  rw [← hG1, ht]
  clear hG1
  refine pX1_12 (pc := 12) (x := some (p + 1)) cx (dA ddX1_init (i := 6) rfl) (g1.get 3 rfl) ?_
  obtain ⟨G2, hG2⟩ : ∃ G2, G2 = sR G1 50 p (some (p + 1)) := ⟨_, rfl⟩
  have g2 := g1.ref (f := 50) (a := p) (v := p + 1) rfl
  rw [← hG2] at g2
  have t2 : G2.1 = p + 3 := by rw [hG2]; exact t1
  have s2 : ∀ a, a < p → sameG G G2 a := fun a ha => by rw [hG2]; exact (s1 a ha).sR (by omega)
  have n2 : gN G G2 W0 := by rw [hG2]; exact n1.sR (by decide) (by decide)
  rw [← hG2]
  clear hG2
  refine x_aload_n (pc := 15) cx (dA ddX1_init (i := 7) rfl) rfl ?_
  refine x_bipush (pc := 16) (v := nI 125) cx (dA ddX1_init (i := 8) rfl) (by decide) ?_
  refine x_newI (pc := 18) cx (dA ddX1_init (i := 9) rfl) (by decide) ?_
  have w2 := gAll.newA (t := 1) (n := 125) (by omega) g2
  rw [t2] at w2 ⊢
  refine pX1_18 (pc := 20) (x := some (p + 3)) cx (dA ddX1_init (i := 10) rfl) (isK_nG (g2.get 4 rfl)) ?_
  obtain ⟨G3, hG3⟩ : ∃ Gx, Gx = sR (nG G2 (9 + 1) 125) 54 p (some (p + 3)) := ⟨_, rfl⟩
  have g3 := w2.ref (f := 54) (a := p) (v := p + 3) rfl
  rw [← hG3] at g3
  have t3 : G3.1 = p + 4 := by rw [hG3]; show G2.1 + 1 = _; omega
  have s3 : ∀ a, a < p → sameG G G3 a := fun a ha => by rw [hG3]; exact ((s2 a ha).nG (by omega)).sR (by omega)
  have n3 : gN G G3 W0 := by rw [hG3]; exact n2.nG.sR (by decide) (by decide)
  first | rw [← hG3] | rw [show 9 + 1 = 10 from rfl] at hG3; rw [← hG3]
  clear hG3
  refine x_aload_n (pc := 23) cx (dA ddX1_init (i := 11) rfl) rfl ?_
  refine x_bipush (pc := 24) (v := nI 125) cx (dA ddX1_init (i := 12) rfl) (by decide) ?_
  refine x_newI (pc := 26) cx (dA ddX1_init (i := 13) rfl) (by decide) ?_
  have w3 := gAll.newA (t := 1) (n := 125) (by omega) g3
  rw [t3] at w3 ⊢
  refine pX1_22 (pc := 28) (x := some (p + 4)) cx (dA ddX1_init (i := 14) rfl) (isK_nG (g3.get 6 rfl)) ?_
  obtain ⟨G4, hG4⟩ : ∃ Gx, Gx = sR (nG G3 (9 + 1) 125) 55 p (some (p + 4)) := ⟨_, rfl⟩
  have g4 := w3.ref (f := 55) (a := p) (v := p + 4) rfl
  rw [← hG4] at g4
  have t4 : G4.1 = p + 5 := by rw [hG4]; show G3.1 + 1 = _; omega
  have s4 : ∀ a, a < p → sameG G G4 a := fun a ha => by rw [hG4]; exact ((s3 a ha).nG (by omega)).sR (by omega)
  have n4 : gN G G4 W0 := by rw [hG4]; exact n3.nG.sR (by decide) (by decide)
  first | rw [← hG4] | rw [show 9 + 1 = 10 from rfl] at hG4; rw [← hG4]
  clear hG4
  refine x_aload_n (pc := 31) cx (dA ddX1_init (i := 15) rfl) rfl ?_
  refine x_bipush (pc := 32) (v := nI 125) cx (dA ddX1_init (i := 16) rfl) (by decide) ?_
  refine x_newI (pc := 34) cx (dA ddX1_init (i := 17) rfl) (by decide) ?_
  have w4 := gAll.newA (t := 1) (n := 125) (by omega) g4
  rw [t4] at w4 ⊢
  refine pX1_25 (pc := 36) (x := some (p + 5)) cx (dA ddX1_init (i := 18) rfl) (isK_nG (g4.get 8 rfl)) ?_
  obtain ⟨G5, hG5⟩ : ∃ Gx, Gx = sR (nG G4 (9 + 1) 125) 56 p (some (p + 5)) := ⟨_, rfl⟩
  have g5 := w4.ref (f := 56) (a := p) (v := p + 5) rfl
  rw [← hG5] at g5
  have t5 : G5.1 = p + 6 := by rw [hG5]; show G4.1 + 1 = _; omega
  have s5 : ∀ a, a < p → sameG G G5 a := fun a ha => by rw [hG5]; exact ((s4 a ha).nG (by omega)).sR (by omega)
  have n5 : gN G G5 W0 := by rw [hG5]; exact n4.nG.sR (by decide) (by decide)
  first | rw [← hG5] | rw [show 9 + 1 = 10 from rfl] at hG5; rw [← hG5]
  clear hG5
  refine x_aload_n (pc := 39) cx (dA ddX1_init (i := 19) rfl) rfl ?_
  refine x_bipush (pc := 40) (v := nI 125) cx (dA ddX1_init (i := 20) rfl) (by decide) ?_
  refine x_newI (pc := 42) cx (dA ddX1_init (i := 21) rfl) (by decide) ?_
  have w5 := gAll.newA (t := 1) (n := 125) (by omega) g5
  rw [t5] at w5 ⊢
  refine pX1_28 (pc := 44) (x := some (p + 6)) cx (dA ddX1_init (i := 22) rfl) (isK_nG (g5.get 10 rfl)) ?_
  obtain ⟨G6, hG6⟩ : ∃ Gx, Gx = sR (nG G5 (9 + 1) 125) 57 p (some (p + 6)) := ⟨_, rfl⟩
  have g6 := w5.ref (f := 57) (a := p) (v := p + 6) rfl
  rw [← hG6] at g6
  have t6 : G6.1 = p + 7 := by rw [hG6]; show G5.1 + 1 = _; omega
  have s6 : ∀ a, a < p → sameG G G6 a := fun a ha => by rw [hG6]; exact ((s5 a ha).nG (by omega)).sR (by omega)
  have n6 : gN G G6 W0 := by rw [hG6]; exact n5.nG.sR (by decide) (by decide)
  first | rw [← hG6] | rw [show 9 + 1 = 10 from rfl] at hG6; rw [← hG6]
  clear hG6
  refine x_aload_n (pc := 47) cx (dA ddX1_init (i := 23) rfl) rfl ?_
  refine x_sipush (pc := 48) (v := nI 875) cx (dA ddX1_init (i := 24) rfl) (by decide) ?_
  refine x_newI (pc := 51) cx (dA ddX1_init (i := 25) rfl) (by decide) ?_
  have w6 := gAll.newA (t := 1) (n := 875) (by omega) g6
  rw [t6] at w6 ⊢
  refine pX1_31 (pc := 53) (x := some (p + 7)) cx (dA ddX1_init (i := 26) rfl) (isK_nG (g6.get 12 rfl)) ?_
  obtain ⟨G7, hG7⟩ : ∃ Gx, Gx = sR (nG G6 (9 + 1) 875) 58 p (some (p + 7)) := ⟨_, rfl⟩
  have g7 := w6.ref (f := 58) (a := p) (v := p + 7) rfl
  rw [← hG7] at g7
  have t7 : G7.1 = p + 8 := by rw [hG7]; show G6.1 + 1 = _; omega
  have s7 : ∀ a, a < p → sameG G G7 a := fun a ha => by rw [hG7]; exact ((s6 a ha).nG (by omega)).sR (by omega)
  have n7 : gN G G7 W0 := by rw [hG7]; exact n6.nG.sR (by decide) (by decide)
  first | rw [← hG7] | rw [show 9 + 1 = 10 from rfl] at hG7; rw [← hG7]
  clear hG7
  refine x_aload_n (pc := 56) cx (dA ddX1_init (i := 27) rfl) rfl ?_
  refine x_sipush (pc := 57) (v := nI 875) cx (dA ddX1_init (i := 28) rfl) (by decide) ?_
  refine x_newJ (pc := 60) cx (dA ddX1_init (i := 29) rfl) (by decide) ?_
  have w7 := gAll.newA (t := 2) (n := 875) (by omega) g7
  rw [t7] at w7 ⊢
  refine pX1_34 (pc := 62) (x := some (p + 8)) cx (dA ddX1_init (i := 30) rfl) (isK_nG (g7.get 14 rfl)) ?_
  obtain ⟨G8, hG8⟩ : ∃ Gx, Gx = sR (nG G7 (9 + 2) 875) 59 p (some (p + 8)) := ⟨_, rfl⟩
  have g8 := w7.ref (f := 59) (a := p) (v := p + 8) rfl
  rw [← hG8] at g8
  have t8 : G8.1 = p + 9 := by rw [hG8]; show G7.1 + 1 = _; omega
  have s8 : ∀ a, a < p → sameG G G8 a := fun a ha => by rw [hG8]; exact ((s7 a ha).nG (by omega)).sR (by omega)
  have n8 : gN G G8 W0 := by rw [hG8]; exact n7.nG.sR (by decide) (by decide)
  first | rw [← hG8] | rw [show 9 + 2 = 11 from rfl] at hG8; rw [← hG8]
  clear hG8
  refine x_aload_n (pc := 65) cx (dA ddX1_init (i := 31) rfl) rfl ?_
  refine x_sipush (pc := 66) (v := nI 875) cx (dA ddX1_init (i := 32) rfl) (by decide) ?_
  refine x_newJ (pc := 69) cx (dA ddX1_init (i := 33) rfl) (by decide) ?_
  have w8 := gAll.newA (t := 2) (n := 875) (by omega) g8
  rw [t8] at w8 ⊢
  refine pX1_38 (pc := 71) (x := some (p + 9)) cx (dA ddX1_init (i := 34) rfl) (isK_nG (g8.get 16 rfl)) ?_
  obtain ⟨G9, hG9⟩ : ∃ Gx, Gx = sR (nG G8 (9 + 2) 875) 60 p (some (p + 9)) := ⟨_, rfl⟩
  have g9 := w8.ref (f := 60) (a := p) (v := p + 9) rfl
  rw [← hG9] at g9
  have t9 : G9.1 = p + 10 := by rw [hG9]; show G8.1 + 1 = _; omega
  have s9 : ∀ a, a < p → sameG G G9 a := fun a ha => by rw [hG9]; exact ((s8 a ha).nG (by omega)).sR (by omega)
  have n9 : gN G G9 W0 := by rw [hG9]; exact n8.nG.sR (by decide) (by decide)
  first | rw [← hG9] | rw [show 9 + 2 = 11 from rfl] at hG9; rw [← hG9]
  clear hG9
  refine x_aload_n (pc := 74) cx (dA ddX1_init (i := 35) rfl) rfl ?_
  refine x_bipush (pc := 75) (v := nI 125) cx (dA ddX1_init (i := 36) rfl) (by decide) ?_
  refine x_newJ (pc := 77) cx (dA ddX1_init (i := 37) rfl) (by decide) ?_
  have w9 := gAll.newA (t := 2) (n := 125) (by omega) g9
  rw [t9] at w9 ⊢
  refine pX1_41 (pc := 79) (x := some (p + 10)) cx (dA ddX1_init (i := 38) rfl) (isK_nG (g9.get 18 rfl)) ?_
  obtain ⟨G10, hG10⟩ : ∃ Gx, Gx = sR (nG G9 (9 + 2) 125) 61 p (some (p + 10)) := ⟨_, rfl⟩
  have g10 := w9.ref (f := 61) (a := p) (v := p + 10) rfl
  rw [← hG10] at g10
  have t10 : G10.1 = p + 11 := by rw [hG10]; show G9.1 + 1 = _; omega
  have s10 : ∀ a, a < p → sameG G G10 a := fun a ha => by rw [hG10]; exact ((s9 a ha).nG (by omega)).sR (by omega)
  have n10 : gN G G10 W0 := by rw [hG10]; exact n9.nG.sR (by decide) (by decide)
  first | rw [← hG10] | rw [show 9 + 2 = 11 from rfl] at hG10; rw [← hG10]
  clear hG10
  refine x_aload_n (pc := 82) cx (dA ddX1_init (i := 39) rfl) rfl ?_
  refine x_bipush (pc := 83) (v := nI 125) cx (dA ddX1_init (i := 40) rfl) (by decide) ?_
  refine x_newJ (pc := 85) cx (dA ddX1_init (i := 41) rfl) (by decide) ?_
  have w10 := gAll.newA (t := 2) (n := 125) (by omega) g10
  rw [t10] at w10 ⊢
  refine pX1_44 (pc := 87) (x := some (p + 11)) cx (dA ddX1_init (i := 42) rfl) (isK_nG (g10.get 20 rfl)) ?_
  obtain ⟨G11, hG11⟩ : ∃ Gx, Gx = sR (nG G10 (9 + 2) 125) 62 p (some (p + 11)) := ⟨_, rfl⟩
  have g11 := w10.ref (f := 62) (a := p) (v := p + 11) rfl
  rw [← hG11] at g11
  have t11 : G11.1 = p + 12 := by rw [hG11]; show G10.1 + 1 = _; omega
  have s11 : ∀ a, a < p → sameG G G11 a := fun a ha => by rw [hG11]; exact ((s10 a ha).nG (by omega)).sR (by omega)
  have n11 : gN G G11 W0 := by rw [hG11]; exact n10.nG.sR (by decide) (by decide)
  first | rw [← hG11] | rw [show 9 + 2 = 11 from rfl] at hG11; rw [← hG11]
  clear hG11
  refine x_aload_n (pc := 90) cx (dA ddX1_init (i := 43) rfl) rfl ?_
  refine x_iconst (pc := 91) (v := -1) cx (dA ddX1_init (i := 44) rfl) (by decide) ?_
  refine pX1_47 (pc := 92)  cx (dA ddX1_init (i := 45) rfl) (g11.get 22 rfl) ?_
  refine x_aload_n (pc := 95) cx (dA ddX1_init (i := 46) rfl) rfl ?_
  refine x_iconst (pc := 96) (v := -1) cx (dA ddX1_init (i := 47) rfl) (by decide) ?_
  refine pX1_51 (pc := 97)  cx (dA ddX1_init (i := 48) rfl) (g11.get 22 rfl) ?_
  refine x_return (pc := 100) cx (dA ddX1_init (i := 49) rfl) (by first | exact Nat.le_of_ble_eq_true rfl | omega) (by first | exact Nat.le_of_ble_eq_true rfl | omega) ?_
  exact ⟨rfl, t11, s11, ⟨(g11.get 22 rfl), (g11.get 18 rfl), ⟨(g11.get 21 rfl), (g11.get 19 rfl), (g11.get 20 rfl)⟩, ⟨(g11.get 16 rfl), (g11.get 17 rfl)⟩, ⟨(g11.get 14 rfl), (g11.get 15 rfl)⟩, ⟨(g11.get 12 rfl), (g11.get 13 rfl)⟩, ⟨(g11.get 10 rfl), (g11.get 11 rfl)⟩, ⟨(g11.get 8 rfl), (g11.get 9 rfl)⟩, ⟨(g11.get 6 rfl), (g11.get 7 rfl)⟩, ⟨(g11.get 4 rfl), (g11.get 5 rfl)⟩, ⟨(g11.get 2 rfl), (g11.get 3 rfl)⟩, ⟨(g11.get 0 rfl), (g11.get 1 rfl)⟩⟩, rfl, n11⟩
theorem d_X0_make {l : Launch} {Z : zP} {G : zG} {V : zV} {h : Nat} (h0 : isK Z G h 0) (ht : G.1 = h + 1) : CT l Z yX0_init cX0_init 1 none 1 1 20 [.ref h] G V (pVg (fun G' V' => G'.1 = h + 2 ∧ (∀ a, a < h → sameG G G' a) ∧ HouseAt Z G' h ∧ V' = V ∧ gN G G' W0)) := by
  refine CT.of (by decide +kernel) (Nat.le_of_ble_eq_true rfl) (fun X hX cx => ?_)
  subst hX
  show Wm Z X 1 G V 0 0 _ 0 [(0, some (.ref h))] []
  refine x_aload_n (pc := 0) cx (dA ddX0_init (i := 0) rfl) rfl ?_
  refine Wm.top fun hZ _ => ?_
  refine x_objInit (pc := 1) koX0_3 ko_i ko_c cx (dA ddX0_init (i := 1) rfl) (by decide) (Nat.le_of_ble_eq_true rfl) ?_
  refine x_aload_n (pc := 4) cx (dA ddX0_init (i := 2) rfl) rfl ?_
  refine x_bipush (pc := 5) (v := nI 20) cx (dA ddX0_init (i := 3) rfl) (by decide) ?_
  refine x_newI (pc := 7) cx (dA ddX0_init (i := 4) rfl) (by decide) ?_
  rw [ht]
  refine pX0_9 (pc := 9) (x := some (h + 1)) cx (dA ddX0_init (i := 5) rfl) (isK_nG h0) ?_
  refine x_return (pc := 12) cx (dA ddX0_init (i := 6) rfl) (by first | exact Nat.le_of_ble_eq_true rfl | omega) (by first | exact Nat.le_of_ble_eq_true rfl | omega) ?_
  exact ⟨rfl, by show G.1 + 1 = _; omega, fun a ha => ((sameG.refl G a).nG (by omega)).sR (by omega), ⟨isK_nG h0, u2_same _ _ _ _, isA_new (t := 1) hZ ht⟩, rfl, (gN.rf G W0).nG.sR (by decide) (by decide)⟩
theorem d_X5_init {l : Launch} {Z : zP} {G : zG} {V : zV} {w : Nat} (h0 : isK Z G w 5) (ht : G.1 = w + 1) : CT l Z yX5_init cX5_init 1 none 2 2 21 [.ref w] G V (pVg (fun G' V' => G'.1 = w + 3 ∧ (∀ a, a < w → sameG G G' a) ∧ WeekAt Z G' w ∧ V' = V ∧ gN G G' W0)) := by
  refine CT.of (by decide +kernel) (Nat.le_of_ble_eq_true rfl) (fun X hX cx => ?_)
  subst hX
  show Wm Z X 1 G V 0 0 _ 0 [(0, some (.ref w))] []
  refine x_aload_n (pc := 0) cx (dA ddX5_init (i := 0) rfl) rfl ?_
  refine Wm.top fun hZ _ => ?_
  refine x_objInit (pc := 1) koX5_3 ko_i ko_c cx (dA ddX5_init (i := 1) rfl) (by decide) (Nat.le_of_ble_eq_true rfl) ?_
  refine x_aload_n (pc := 4) cx (dA ddX5_init (i := 2) rfl) rfl ?_
  refine nX5_9 (pc := 5) cx (dA ddX5_init (i := 3) rfl) ?_
  rw [ht]
  refine x_dup (pc := 8) cx rfl (dA ddX5_init (i := 4) rfl) ?_
  refine x_IN0 (pc := 9) mX5_11 (d_X0_make (h := w + 1) (isK_new hZ ht) (by show G.1 + 1 = _; omega)) cx (dA ddX5_init (i := 5) rfl) (kVg fun G1 V1 h1 => ?_)
  obtain ⟨t1, s1, hH, rfl, nH⟩ := h1
  have k1 := (isK_nG h0).geo (by show G.1 + 1 ≤ _; omega) (s1 w (by omega))
  refine pX5_12 (pc := 12) (x := some (w + 1)) cx (dA ddX5_init (i := 6) rfl) k1 ?_
  refine x_return (pc := 15) cx (dA ddX5_init (i := 7) rfl) (by first | exact Nat.le_of_ble_eq_true rfl | omega) (by first | exact Nat.le_of_ble_eq_true rfl | omega) ?_
  exact ⟨rfl, t1, fun a ha => (((sameG.refl G a).nG (by omega)).trans (s1 a (by omega))).sR (by omega), ⟨k1, u2_same _ _ _ _, hH.geo (Nat.le_refl _) (fun a h1 h2 => (sameG.refl _ a).sR (by omega))⟩, rfl, ((gN.rf G W0).nG.t0 nH).sR (by decide) (by decide)⟩
theorem d_X6_init {l : Launch} {Z : zP} {G : zG} {V : zV} {w : Nat} (h0 : isK Z G w 6) (ht : G.1 = w + 1) : CT l Z yX6_init cX6_init 2 none 3 16 161 [.ref w] G V (pVg (fun G' V' => G'.1 = w + 17 ∧ (∀ a, a < w → sameG G G' a) ∧ WorldAt Z G' w ∧ V' = sI V 302 w (nI 1) ∧ gN G G' (fun a => a = w + 1))) := by
  refine CT.of (by decide +kernel) (Nat.le_of_ble_eq_true rfl) (fun X hX cx => ?_)
  subst hX
  show Wm Z X 2 G V 0 0 _ 0 [(0, some (.ref w))] []
  refine x_aload_n (pc := 0) cx (dA ddX6_init (i := 0) rfl) rfl ?_
  refine Wm.top fun hZ _ => ?_
  refine x_objInit (pc := 1) koX6_3 ko_i ko_c cx (dA ddX6_init (i := 1) rfl) (by decide) (Nat.le_of_ble_eq_true rfl) ?_
  refine x_aload_n (pc := 4) cx (dA ddX6_init (i := 2) rfl) rfl ?_
  refine x_bipush (pc := 5) (v := nI 6) cx (dA ddX6_init (i := 3) rfl) (by decide) ?_
  refine nrX6_9 (pc := 7) cx (dA ddX6_init (i := 4) rfl) (by decide) ?_
  rw [ht]
  refine pX6_11 (pc := 10) (x := some (w + 1)) cx (dA ddX6_init (i := 5) rfl) (isK_nG h0) ?_
  refine x_aload_n (pc := 13) cx (dA ddX6_init (i := 6) rfl) rfl ?_
  refine x_iconst (pc := 14) (v := nI 1) cx (dA ddX6_init (i := 7) rfl) (by decide) ?_
  refine pX6_17 (pc := 15)  cx (dA ddX6_init (i := 8) rfl) (isK_nG h0) ?_
  refine x_aload_n (pc := 18) cx (dA ddX6_init (i := 9) rfl) rfl ?_
  refine nX6_21 (pc := 19) cx (dA ddX6_init (i := 10) rfl) ?_
  have tA : (sR (nG G (9 + 3) 6) 300 w (some (w + 1))).1 = w + 2 := by show G.1 + 1 = _; omega
  rw [tA]
  refine x_dup (pc := 22) cx rfl (dA ddX6_init (i := 11) rfl) ?_
  refine x_IN0 (pc := 23) mX6_23 (d_X5_init (w := w + 2) (isK_new (by rw [tA]; omega) tA) (by show G.1 + 1 + 1 = _; omega)) cx (dA ddX6_init (i := 12) rfl) (kVg fun G1 V1 h1 => ?_)
  obtain ⟨t1, s1, hW, rfl, nW⟩ := h1
  have k1 : isK Z G1 w 6 := (isK_nG (show isK Z (sR (nG G (9 + 3) 6) 300 w (some (w + 1))) w 6 from isK_nG h0)).geo (by show G.1 + 1 + 1 ≤ _; omega) (s1 w (by omega))
  refine pX6_24 (pc := 26) (x := some (w + 2)) cx (dA ddX6_init (i := 13) rfl) k1 ?_
  refine x_iconst (pc := 29) (v := nI 0) cx (dA ddX6_init (i := 14) rfl) (by decide) ?_
  refine x_istore_n (pc := 30) cx (dA ddX6_init (i := 15) rfl) (by decide) rfl ?_
  have L31 : ∀ i, i ≤ 6 → ∀ G1, (wdI Z G w i G1 ∧ gN G G1 (fun a => a = w + 1)) → Wm Z X 2 G1 (sI V 302 w (nI 1)) (4 + 2 * i) (35 + 21 * i) (rQ Z X 16 161 (pVg (fun G' V' => G'.1 = w + 17 ∧ (∀ a, a < w → sameG G G' a) ∧ WorldAt Z G' w ∧ V' = sI V 302 w (nI 1) ∧ gN G G' (fun a => a = w + 1)))) 31 [(0, some (.ref w)), (1, some (.int (nI i)))] [] := by
    refine lpU 6 (fun i hi ih => ?_)
    intro G1 hI
    obtain ⟨hI, gI⟩ := hI
    refine x_iload_n (pc := 31) cx (dA ddX6_init (i := 16) rfl) rfl ?_
    refine x_aload_n (pc := 32) cx (dA ddX6_init (i := 17) rfl) rfl ?_
    refine gX6_11 (pc := 33) (rfA hI.2.2.2.1) cx (dA ddX6_init (i := 18) rfl) hI.2.2.1 ?_
    refine x_alen (pc := 36) cx (dA ddX6_init (i := 19) rfl) hI.2.2.2.2.1 (by decide) ?_
    refine x_icmp_ge (pc := 37) (tgt := 59) cx (dA ddX6_init (i := 20) rfl) (by decide) (fun c37 => ?_) (fun c37 => ?_)
    · have c37 := cleT (by omega) (by omega) c37
      have ei : i = 6 := by omega
      subst ei
      refine x_return (pc := 59) cx (dA ddX6_init (i := 30) rfl) (by first | exact Nat.le_of_ble_eq_true rfl | omega) (by first | exact Nat.le_of_ble_eq_true rfl | omega) ?_
      exact ⟨rfl, hI.1, hI.2.1, ⟨hI.2.2.1, hI.2.2.2.1, hI.2.2.2.2.1, hI.2.2.2.2.2.1, hI.2.2.2.2.2.2.1, hI.2.2.2.2.2.2.2⟩, rfl, gI⟩
    · have c37 := cleF (by omega) (by omega) c37
      have tI := hI.1
      refine x_aload_n (pc := 40) cx (dA ddX6_init (i := 21) rfl) rfl ?_
      refine gX6_11 (pc := 41) (rfA hI.2.2.2.1) cx (dA ddX6_init (i := 22) rfl) hI.2.2.1 ?_
      refine x_iload_n (pc := 44) cx (dA ddX6_init (i := 23) rfl) rfl ?_
      refine nX6_9 (pc := 45) cx (dA ddX6_init (i := 24) rfl) ?_
      rw [tI]
      refine x_dup (pc := 48) cx rfl (dA ddX6_init (i := 25) rfl) ?_
      refine x_IN0 (pc := 49) mX6_28 (d_X0_make (h := w + 5 + 2 * i) (isK_new (by omega) tI) (by show G1.1 + 1 = _; omega)) cx (dA ddX6_init (i := 26) rfl) (kVg fun G2 V2 h2 => ?_)
      obtain ⟨t2, s2, hH2, rfl, nH2⟩ := h2
      have hA2 := (isA_nG (t := 0) (m := 0) hI.2.2.2.2.1).geo (show (nG G1 0 0).1 ≤ G2.1 by show G1.1 + 1 ≤ _; omega) (s2 (w + 1) (by omega))
      refine x_aastore (pc := 52) cx (c := 0) (t := 3) rfl rfl (by decide) (dA ddX6_init (i := 27) rfl) hA2 (by decide) (by decide) c37 (by decide) hH2.1 ?_
      refine x_iinc (pc := 53) cx (dA ddX6_init (i := 28) rfl) rfl (iinc1 _) (by decide) rfl ?_
      refine x_goto (pc := 56) (tgt := 31) cx (dA ddX6_init (i := 29) rfl) (by decide) ?_
      exact x_enter (Wm.widenK (ih (by omega) _ ⟨wdI_s hI t2 s2 hH2, (gI.nG.t0 nH2).sAR rfl⟩) (by omega) (by omega)) ⟨.inr rfl, .inr rfl, trivial⟩
  have hA1 : isA Z G1 (w + 1) 3 6 := (isA_nG (show isA Z (sR (nG G (9 + 3) 6) 300 w (some (w + 1))) (w + 1) 3 6 from isA_new (t := 3) hZ ht)).geo (by show G.1 + 1 + 1 ≤ _; omega) (s1 (w + 1) (by omega))
  have r1 : G1.2.2.1 300 w = some (w + 1) := ((s1 w (by omega)).2.1 300).trans (u2_same _ _ _ _)
  have i0 : wdI Z G w 0 (sR G1 303 w (some (w + 2))) := ⟨t1, fun a ha => (((((sameG.refl G a).nG (by omega)).sR (by omega)).nG (by show a < G.1 + 1; omega)).trans (s1 a (by omega))).sR (by omega), k1, (sR_ne (by decide)).trans r1, hA1, u2_same _ _ _ _, hW.geo (Nat.le_refl _) (fun a h1 h2 => (sameG.refl _ a).sR (by omega)), fun j hj => absurd hj (Nat.not_lt_zero _)⟩
  exact x_enter (L31 0 (Nat.zero_le _) _ ⟨i0, (((gN.rf G _).nG.sR (by decide) (by decide)).nG.t0 nW).sR (by decide) (by decide)⟩) ⟨.inr rfl, .inr rfl, trivial⟩
theorem d_X7_init {l : Launch} {Z : zP} {G : zG} {V : zV} {x : Nat} (h0 : isK Z G x 7) (ht : G.1 = x + 1) : CT l Z yX7_init cX7_init 2 none 4 150 40000 [.ref x] G V (pVg (fun G' V' => G'.1 = x + 142 ∧ (∀ a, a < x → sameG G G' a) ∧ STBAt Z G' x ∧ V' = plN V x 6 ∧ gN G G' (fun a => a = x + 2 ∨ a = x + 19 ∨ a = x + 40))) := by
  refine CT.of (by decide +kernel) (Nat.le_of_ble_eq_true rfl) (fun X hX cx => ?_)
  subst hX
  show Wm Z X 2 G V 0 0 _ 0 [(0, some (.ref x))] []
  refine x_aload_n (pc := 0) cx (dA ddX7_init (i := 0) rfl) rfl ?_
  refine Wm.top fun hZ _ => ?_
  have b0 : bAll Z G x [(0, x, 7, 0)] := bAll.cons (bH.k h0) (bAll.nil _ _ _)
  have u0 : ∀ a, a < x → sameG G G a := fun a _ => sameG.refl G a
  have g0 : gN G G (fun a => a = x + 2 ∨ a = x + 19 ∨ a = x + 40) := gN.rf G _
  have t0 := ht
  refine x_objInit (pc := 1) koX7_1 ko_i ko_c cx (dA ddX7_init (i := 1) rfl) (by decide) (Nat.le_of_ble_eq_true rfl) ?_
  refine x_aload_n (pc := 4) cx (dA ddX7_init (i := 2) rfl) rfl ?_
  refine nX7_7 (pc := 5) cx (dA ddX7_init (i := 3) rfl) ?_
  rw [t0]
  refine x_dup (pc := 8) cx rfl (dA ddX7_init (i := 4) rfl) ?_
  refine x_I0 (pc := 9) mX7_9 (d_X6_init (w := x + 1) (isK_new (by omega) t0) (by show G.1 + 1 = _; omega)) cx (dA ddX7_init (i := 5) rfl) (kVg fun H0 W0 h20 => ?_)
  obtain ⟨v0, s0, q0, rfl, e0⟩ := h20
  have c0 : bAll Z H0 x _ := b0.blk (c := 6) (q := (4, 0, 0, 0)) (by omega) (fun a ha => s0 a (by omega)) (bH.b4 (o := 0) q0 (by omega))
  refine pX7_10 (pc := 12) (x := some (x + 1)) cx (dA ddX7_init (i := 6) rfl) ((c0.get (q := (0, x, 7, 0)) 1 rfl).gk) ?_
  obtain ⟨G1, hG1⟩ : ∃ Gx, Gx = sR H0 350 x (some (x + 1)) := ⟨_, rfl⟩
  have b1 := c0.ref (f := 350) (v := x + 1) (by omega) rfl
  rw [← hG1] at b1
  have t1 : G1.1 = x + 18 := by rw [hG1]; exact v0
  have u1 : ∀ a, a < x → sameG G G1 a := by rw [hG1]; exact fun a ha => ((u0 a ha).trans (((sameG.refl _ a).nG (by omega)).trans (s0 a (by omega)))).sR (by omega)
  have g1 : gN G G1 (fun a => a = x + 2 ∨ a = x + 19 ∨ a = x + 40) := by rw [hG1]; exact (g0.nG.tr e0 (fun a q => by omega)).sR (by decide) (by decide)
  rw [← hG1]
  clear hG1
  clear v0 s0 q0 c0 e0 H0 b0 u0 t0 g0
  refine x_aload_n (pc := 15) cx (dA ddX7_init (i := 7) rfl) rfl ?_
  refine nX7_7 (pc := 16) cx (dA ddX7_init (i := 8) rfl) ?_
  rw [t1]
  refine x_dup (pc := 19) cx rfl (dA ddX7_init (i := 9) rfl) ?_
  refine x_I0 (pc := 20) mX7_9 (d_X6_init (w := x + 18) (isK_new (by omega) t1) (by show G1.1 + 1 = _; omega)) cx (dA ddX7_init (i := 10) rfl) (kVg fun H1 W1 h21 => ?_)
  obtain ⟨v1, s1, q1, rfl, e1⟩ := h21
  have c1 : bAll Z H1 x _ := b1.blk (c := 6) (q := (4, 17, 0, 0)) (by omega) (fun a ha => s1 a (by omega)) (bH.b4 (o := 17) q1 (by omega))
  refine pX7_16 (pc := 23) (x := some (x + 18)) cx (dA ddX7_init (i := 11) rfl) ((c1.get (q := (0, x, 7, 0)) 3 rfl).gk) ?_
  obtain ⟨G2, hG2⟩ : ∃ Gx, Gx = sR H1 351 x (some (x + 18)) := ⟨_, rfl⟩
  have b2 := c1.ref (f := 351) (v := x + 18) (by omega) rfl
  rw [← hG2] at b2
  have t2 : G2.1 = x + 35 := by rw [hG2]; exact v1
  have u2 : ∀ a, a < x → sameG G G2 a := by rw [hG2]; exact fun a ha => ((u1 a ha).trans (((sameG.refl _ a).nG (by omega)).trans (s1 a (by omega)))).sR (by omega)
  have g2 : gN G G2 (fun a => a = x + 2 ∨ a = x + 19 ∨ a = x + 40) := by rw [hG2]; exact (g1.nG.tr e1 (fun a q => by omega)).sR (by decide) (by decide)
  rw [← hG2]
  clear hG2
  clear v1 s1 q1 c1 e1 H1 b1 u1 t1 g1
  refine x_aload_n (pc := 26) cx (dA ddX7_init (i := 12) rfl) rfl ?_
  refine nX7_19 (pc := 27) cx (dA ddX7_init (i := 13) rfl) ?_
  rw [t2]
  refine x_dup (pc := 30) cx rfl (dA ddX7_init (i := 14) rfl) ?_
  refine x_IN0 (pc := 31) mX7_21 (c_X4_init (t := x + 35) (isK_new (by omega) t2) (by show G2.1 + 1 = _; omega)) cx (dA ddX7_init (i := 15) rfl) (kV ?_)
  obtain ⟨H2, hH2⟩ : ∃ Hx, Hx = sR (nG (nG G2 4 0) (9 + 0) 160) 200 (x + 35) (some (x + 35 + 1)) := ⟨_, rfl⟩
  have v2 : H2.1 = x + 37 := by rw [hH2]; show G2.1 + 1 + 1 = _; omega
  have s2 : ∀ a, a < x + 35 → sameG (nG G2 4 0) H2 a := fun a ha => by rw [hH2]; exact ((sameG.refl _ a).nG (by show a < G2.1 + 1; omega)).sR (by omega)
  have q2 : TapeAt Z H2 (x + 35) := by rw [hH2]; exact ⟨isK_nG (isK_new (by omega) t2), u2_same _ _ _ _, isA_new (t := 0) (by show Z.1 ≤ G2.1 + 1; omega) (by show G2.1 + 1 = _; omega)⟩
  have e2 : gN G2 H2 W0 := by rw [hH2]; exact ((gN.rf _ W0).nG.nG).sR (by decide) (by decide)
  rw [← hH2]
  clear hH2
  have c2 : bAll Z H2 x _ := b2.blk (c := 4) (q := (5, 34, 0, 0)) (by omega) (fun a ha => s2 a (by omega)) (bH.b5 (o := 34) q2 (by omega))
  refine pX7_22 (pc := 34) (x := some (x + 35)) cx (dA ddX7_init (i := 16) rfl) ((c2.get (q := (0, x, 7, 0)) 5 rfl).gk) ?_
  obtain ⟨G3, hG3⟩ : ∃ Gx, Gx = sR H2 353 x (some (x + 35)) := ⟨_, rfl⟩
  have b3 := c2.ref (f := 353) (v := x + 35) (by omega) rfl
  rw [← hG3] at b3
  have t3 : G3.1 = x + 37 := by rw [hG3]; exact v2
  have u3 : ∀ a, a < x → sameG G G3 a := by rw [hG3]; exact fun a ha => ((u2 a ha).trans (((sameG.refl _ a).nG (by omega)).trans (s2 a (by omega)))).sR (by omega)
  have g3 : gN G G3 (fun a => a = x + 2 ∨ a = x + 19 ∨ a = x + 40) := by rw [hG3]; exact (g2.t0 e2).sR (by decide) (by decide)
  rw [← hG3]
  clear hG3
  clear v2 s2 q2 c2 e2 H2 b2 u2 t2 g2
  refine x_aload_n (pc := 37) cx (dA ddX7_init (i := 17) rfl) rfl ?_
  refine x_bipush (pc := 38) (v := nI 8) cx (dA ddX7_init (i := 18) rfl) (by decide) ?_
  refine nrX7_26 (pc := 40) cx (dA ddX7_init (i := 19) rfl) (by decide) ?_
  have w3 : bAll Z (nG G3 (9 + 5) 8) x _ := bAll.cons (bH.a (isA_new (t := 5) (n := 8) (by omega) t3)) b3.grow
  rw [t3]
  refine pX7_28 (pc := 43) (x := some (x + 37)) cx (dA ddX7_init (i := 20) rfl) ((w3.get (q := (0, x, 7, 0)) 7 rfl).gk) ?_
  obtain ⟨G4, hG4⟩ : ∃ Gx, Gx = sR (nG G3 (9 + 5) 8) 354 x (some (x + 37)) := ⟨_, rfl⟩
  have b4 := w3.ref (f := 354) (v := x + 37) (by show x < G3.1 + 1; omega) rfl
  rw [← hG4] at b4
  have t4 : G4.1 = x + 38 := by rw [hG4]; exact (by show G3.1 + 1 = _; omega)
  have u4 : ∀ a, a < x → sameG G G4 a := by rw [hG4]; exact fun a ha => ((u3 a ha).nG (by omega)).sR (by omega)
  have g4 : gN G G4 (fun a => a = x + 2 ∨ a = x + 19 ∨ a = x + 40) := by rw [hG4]; exact g3.nG.sR (by decide) (by decide)
  rw [← hG4]
  clear hG4
  clear w3 b3 u3 t3 g3
  refine x_aload_n (pc := 46) cx (dA ddX7_init (i := 21) rfl) rfl ?_
  refine x_bipush (pc := 47) (v := nI 8) cx (dA ddX7_init (i := 22) rfl) (by decide) ?_
  refine nrX7_32 (pc := 49) cx (dA ddX7_init (i := 23) rfl) (by decide) ?_
  have w4 : bAll Z (nG G4 (9 + 6) 8) x _ := bAll.cons (bH.a (isA_new (t := 6) (n := 8) (by omega) t4)) b4.grow
  rw [t4]
  refine pX7_34 (pc := 52) (x := some (x + 38)) cx (dA ddX7_init (i := 24) rfl) ((w4.get (q := (0, x, 7, 0)) 9 rfl).gk) ?_
  obtain ⟨G5, hG5⟩ : ∃ Gx, Gx = sR (nG G4 (9 + 6) 8) 355 x (some (x + 38)) := ⟨_, rfl⟩
  have b5 := w4.ref (f := 355) (v := x + 38) (by show x < G4.1 + 1; omega) rfl
  rw [← hG5] at b5
  have t5 : G5.1 = x + 39 := by rw [hG5]; exact (by show G4.1 + 1 = _; omega)
  have u5 : ∀ a, a < x → sameG G G5 a := by rw [hG5]; exact fun a ha => ((u4 a ha).nG (by omega)).sR (by omega)
  have g5 : gN G G5 (fun a => a = x + 2 ∨ a = x + 19 ∨ a = x + 40) := by rw [hG5]; exact g4.nG.sR (by decide) (by decide)
  rw [← hG5]
  clear hG5
  clear w4 b4 u4 t4 g4
  refine x_aload_n (pc := 55) cx (dA ddX7_init (i := 25) rfl) rfl ?_
  refine x_iconst (pc := 56) (v := nI 5) cx (dA ddX7_init (i := 26) rfl) (by decide) ?_
  refine x_newI (pc := 57) cx (dA ddX7_init (i := 27) rfl) (by decide) ?_
  have w5 : bAll Z (nG G5 (9 + 1) 5) x _ := bAll.cons (bH.a (isA_new (t := 1) (n := 5) (by omega) t5)) b5.grow
  rw [t5]
  refine pX7_38 (pc := 59) (x := some (x + 39)) cx (dA ddX7_init (i := 28) rfl) ((w5.get (q := (0, x, 7, 0)) 11 rfl).gk) ?_
  obtain ⟨G6, hG6⟩ : ∃ Gx, Gx = sR (nG G5 (9 + 1) 5) 356 x (some (x + 39)) := ⟨_, rfl⟩
  have b6 := w5.ref (f := 356) (v := x + 39) (by show x < G5.1 + 1; omega) rfl
  rw [← hG6] at b6
  have t6 : G6.1 = x + 40 := by rw [hG6]; exact (by show G5.1 + 1 = _; omega)
  have u6 : ∀ a, a < x → sameG G G6 a := by rw [hG6]; exact fun a ha => ((u5 a ha).nG (by omega)).sR (by omega)
  have g6 : gN G G6 (fun a => a = x + 2 ∨ a = x + 19 ∨ a = x + 40) := by rw [hG6]; exact g5.nG.sR (by decide) (by decide)
  rw [← hG6]
  clear hG6
  clear w5 b5 u5 t5 g5
  refine x_aload_n (pc := 62) cx (dA ddX7_init (i := 29) rfl) rfl ?_
  refine x_bipush (pc := 63) (v := nI 6) cx (dA ddX7_init (i := 30) rfl) (by decide) ?_
  refine nrX7_42 (pc := 65) cx (dA ddX7_init (i := 31) rfl) (by decide) ?_
  have w6 : bAll Z (nG G6 (9 + 4) 6) x _ := bAll.cons (bH.a (isA_new (t := 4) (n := 6) (by omega) t6)) b6.grow
  rw [t6]
  refine pX7_44 (pc := 68) (x := some (x + 40)) cx (dA ddX7_init (i := 32) rfl) ((w6.get (q := (0, x, 7, 0)) 13 rfl).gk) ?_
  obtain ⟨G7, hG7⟩ : ∃ Gx, Gx = sR (nG G6 (9 + 4) 6) 357 x (some (x + 40)) := ⟨_, rfl⟩
  have b7 := w6.ref (f := 357) (v := x + 40) (by show x < G6.1 + 1; omega) rfl
  rw [← hG7] at b7
  have t7 : G7.1 = x + 41 := by rw [hG7]; exact (by show G6.1 + 1 = _; omega)
  have u7 : ∀ a, a < x → sameG G G7 a := by rw [hG7]; exact fun a ha => ((u6 a ha).nG (by omega)).sR (by omega)
  have g7 : gN G G7 (fun a => a = x + 2 ∨ a = x + 19 ∨ a = x + 40) := by rw [hG7]; exact g6.nG.sR (by decide) (by decide)
  rw [← hG7]
  clear hG7
  clear w6 b6 u6 t6 g6
  refine x_aload_n (pc := 71) cx (dA ddX7_init (i := 33) rfl) rfl ?_
  refine nX7_42 (pc := 72) cx (dA ddX7_init (i := 34) rfl) ?_
  rw [t7]
  refine x_dup (pc := 75) cx rfl (dA ddX7_init (i := 35) rfl) ?_
  refine x_IN0 (pc := 76) mX7_48 (d_X1_init (p := x + 41) (isK_new (by omega) t7) (by show G7.1 + 1 = _; omega)) cx (dA ddX7_init (i := 36) rfl) (kVg fun H7 W7 h27 => ?_)
  obtain ⟨v7, s7, q7, rfl, e7⟩ := h27
  have c7 : bAll Z H7 x _ := b7.blk (c := 1) (q := (6, 40, 0, 0)) (by omega) (fun a ha => s7 a (by omega)) (bH.b6 (o := 40) q7 (by omega))
  refine pX7_49 (pc := 79) (x := some (x + 41)) cx (dA ddX7_init (i := 37) rfl) ((c7.get (q := (0, x, 7, 0)) 15 rfl).gk) ?_
  obtain ⟨G8, hG8⟩ : ∃ Gx, Gx = sR H7 358 x (some (x + 41)) := ⟨_, rfl⟩
  have b8 := c7.ref (f := 358) (v := x + 41) (by omega) rfl
  rw [← hG8] at b8
  have t8 : G8.1 = x + 53 := by rw [hG8]; exact v7
  have u8 : ∀ a, a < x → sameG G G8 a := by rw [hG8]; exact fun a ha => ((u7 a ha).trans (((sameG.refl _ a).nG (by omega)).trans (s7 a (by omega)))).sR (by omega)
  have g8 : gN G G8 (fun a => a = x + 2 ∨ a = x + 19 ∨ a = x + 40) := by rw [hG8]; exact (g7.nG.t0 e7).sR (by decide) (by decide)
  rw [← hG8]
  clear hG8
  clear v7 s7 q7 c7 e7 H7 b7 u7 t7 g7
  refine x_aload_n (pc := 82) cx (dA ddX7_init (i := 38) rfl) rfl ?_
  refine nX7_42 (pc := 83) cx (dA ddX7_init (i := 39) rfl) ?_
  rw [t8]
  refine x_dup (pc := 86) cx rfl (dA ddX7_init (i := 40) rfl) ?_
  refine x_IN0 (pc := 87) mX7_48 (d_X1_init (p := x + 53) (isK_new (by omega) t8) (by show G8.1 + 1 = _; omega)) cx (dA ddX7_init (i := 41) rfl) (kVg fun H8 W8 h28 => ?_)
  obtain ⟨v8, s8, q8, rfl, e8⟩ := h28
  have c8 : bAll Z H8 x _ := b8.blk (c := 1) (q := (6, 52, 0, 0)) (by omega) (fun a ha => s8 a (by omega)) (bH.b6 (o := 52) q8 (by omega))
  refine pX7_53 (pc := 90) (x := some (x + 53)) cx (dA ddX7_init (i := 42) rfl) ((c8.get (q := (0, x, 7, 0)) 17 rfl).gk) ?_
  obtain ⟨G9, hG9⟩ : ∃ Gx, Gx = sR H8 359 x (some (x + 53)) := ⟨_, rfl⟩
  have b9 := c8.ref (f := 359) (v := x + 53) (by omega) rfl
  rw [← hG9] at b9
  have t9 : G9.1 = x + 65 := by rw [hG9]; exact v8
  have u9 : ∀ a, a < x → sameG G G9 a := by rw [hG9]; exact fun a ha => ((u8 a ha).trans (((sameG.refl _ a).nG (by omega)).trans (s8 a (by omega)))).sR (by omega)
  have g9 : gN G G9 (fun a => a = x + 2 ∨ a = x + 19 ∨ a = x + 40) := by rw [hG9]; exact (g8.nG.t0 e8).sR (by decide) (by decide)
  rw [← hG9]
  clear hG9
  clear v8 s8 q8 c8 e8 H8 b8 u8 t8 g8
  refine x_aload_n (pc := 93) cx (dA ddX7_init (i := 43) rfl) rfl ?_
  refine nX7_56 (pc := 94) cx (dA ddX7_init (i := 44) rfl) ?_
  rw [t9]
  refine x_dup (pc := 97) cx rfl (dA ddX7_init (i := 45) rfl) ?_
  refine x_IN0 (pc := 98) mX7_58 (d_X0_make (h := x + 65) (isK_new (by omega) t9) (by show G9.1 + 1 = _; omega)) cx (dA ddX7_init (i := 46) rfl) (kVg fun H9 W9 h29 => ?_)
  obtain ⟨v9, s9, q9, rfl, e9⟩ := h29
  have c9 : bAll Z H9 x _ := b9.blk (c := 0) (q := (7, 64, 0, 0)) (by omega) (fun a ha => s9 a (by omega)) (bH.b7 (o := 64) q9 (by omega))
  refine pX7_59 (pc := 101) (x := some (x + 65)) cx (dA ddX7_init (i := 47) rfl) ((c9.get (q := (0, x, 7, 0)) 19 rfl).gk) ?_
  obtain ⟨G10, hG10⟩ : ∃ Gx, Gx = sR H9 360 x (some (x + 65)) := ⟨_, rfl⟩
  have b10 := c9.ref (f := 360) (v := x + 65) (by omega) rfl
  rw [← hG10] at b10
  have t10 : G10.1 = x + 67 := by rw [hG10]; exact v9
  have u10 : ∀ a, a < x → sameG G G10 a := by rw [hG10]; exact fun a ha => ((u9 a ha).trans (((sameG.refl _ a).nG (by omega)).trans (s9 a (by omega)))).sR (by omega)
  have g10 : gN G G10 (fun a => a = x + 2 ∨ a = x + 19 ∨ a = x + 40) := by rw [hG10]; exact (g9.nG.t0 e9).sR (by decide) (by decide)
  rw [← hG10]
  clear hG10
  clear v9 s9 q9 c9 e9 H9 b9 u9 t9 g9
  refine x_aload_n (pc := 104) cx (dA ddX7_init (i := 48) rfl) rfl ?_
  refine nX7_63 (pc := 105) cx (dA ddX7_init (i := 49) rfl) ?_
  rw [t10]
  refine x_dup (pc := 108) cx rfl (dA ddX7_init (i := 50) rfl) ?_
  refine x_IN0 (pc := 109) mX7_65 (d_X5_init (w := x + 67) (isK_new (by omega) t10) (by show G10.1 + 1 = _; omega)) cx (dA ddX7_init (i := 51) rfl) (kVg fun H10 W10 h30 => ?_)
  obtain ⟨v10, s10, q10, rfl, e10⟩ := h30
  have c10 : bAll Z H10 x _ := b10.blk (c := 5) (q := (8, 66, 0, 0)) (by omega) (fun a ha => s10 a (by omega)) (bH.b8 (o := 66) q10 (by omega))
  refine pX7_66 (pc := 112) (x := some (x + 67)) cx (dA ddX7_init (i := 52) rfl) ((c10.get (q := (0, x, 7, 0)) 21 rfl).gk) ?_
  obtain ⟨G11, hG11⟩ : ∃ Gx, Gx = sR H10 361 x (some (x + 67)) := ⟨_, rfl⟩
  have b11 := c10.ref (f := 361) (v := x + 67) (by omega) rfl
  rw [← hG11] at b11
  have t11 : G11.1 = x + 70 := by rw [hG11]; exact v10
  have u11 : ∀ a, a < x → sameG G G11 a := by rw [hG11]; exact fun a ha => ((u10 a ha).trans (((sameG.refl _ a).nG (by omega)).trans (s10 a (by omega)))).sR (by omega)
  have g11 : gN G G11 (fun a => a = x + 2 ∨ a = x + 19 ∨ a = x + 40) := by rw [hG11]; exact (g10.nG.t0 e10).sR (by decide) (by decide)
  rw [← hG11]
  clear hG11
  clear v10 s10 q10 c10 e10 H10 b10 u10 t10 g10
  refine x_iconst (pc := 115) (v := nI 0) cx (dA ddX7_init (i := 53) rfl) (by decide) ?_
  refine x_istore_n (pc := 116) cx (dA ddX7_init (i := 54) rfl) (by decide) rfl ?_
  have L117 : ∀ i, i ≤ 6 → ∀ G1, (stI Z G x i G1 ∧ gN G G1 (fun a => a = x + 2 ∨ a = x + 19 ∨ a = x + 40)) → Wm Z X 2 G1 (plN V x i) (70 + 12 * i) (10000 + 3411 * i) (rQ Z X 150 40000 (pVg (fun G' V' => G'.1 = x + 142 ∧ (∀ a, a < x → sameG G G' a) ∧ STBAt Z G' x ∧ V' = plN V x 6 ∧ gN G G' (fun a => a = x + 2 ∨ a = x + 19 ∨ a = x + 40)))) 117 [(0, some (.ref x)), (1, some (.int (nI i)))] [] := by
    refine lpU 6 (fun i hi ih => ?_)
    intro G1 hI
    obtain ⟨hI, gI⟩ := hI
    refine x_iload_n (pc := 117) cx (dA ddX7_init (i := 55) rfl) rfl ?_
    refine x_aload_n (pc := 118) cx (dA ddX7_init (i := 56) rfl) rfl ?_
    refine gX7_44 (pc := 119) (rfA hI.2.2.2.2.2.2.2.2.2.1.1) cx (dA ddX7_init (i := 57) rfl) hI.2.2.1 ?_
    refine x_alen (pc := 122) cx (dA ddX7_init (i := 58) rfl) hI.2.2.2.2.2.2.2.2.2.1.2 (by decide) ?_
    refine x_icmp_ge (pc := 123) (tgt := 145) cx (dA ddX7_init (i := 59) rfl) (by decide) (fun c123 => ?_) (fun c123 => ?_)
    · have c123 := cleT (by omega) (by omega) c123
      have ei : i = 6 := by omega
      subst ei
      refine x_return (pc := 145) cx (dA ddX7_init (i := 69) rfl) (by first | exact Nat.le_of_ble_eq_true rfl | omega) (by first | exact Nat.le_of_ble_eq_true rfl | omega) ?_
      refine ⟨rfl, hI.1, hI.2.1, ⟨hI.2.2.1, hI.2.2.2⟩, rfl, gI⟩
    · have c123 := cleF (by omega) (by omega) c123
      have tI := hI.1
      have hA1 := hI.2.2.2.2.2.2.2.2.2.1
      refine x_aload_n (pc := 126) cx (dA ddX7_init (i := 60) rfl) rfl ?_
      refine gX7_44 (pc := 127) (rfA hI.2.2.2.2.2.2.2.2.2.1.1) cx (dA ddX7_init (i := 61) rfl) hI.2.2.1 ?_
      refine x_iload_n (pc := 130) cx (dA ddX7_init (i := 62) rfl) rfl ?_
      refine nX7_42 (pc := 131) cx (dA ddX7_init (i := 63) rfl) ?_
      rw [tI]
      refine x_dup (pc := 134) cx rfl (dA ddX7_init (i := 64) rfl) ?_
      refine x_IN0 (pc := 135) mX7_48 (d_X1_init (p := x + 70 + 12 * i) (isK_new (by omega) tI) (by show G1.1 + 1 = _; omega)) cx (dA ddX7_init (i := 65) rfl) (kVg fun G2 V2 h2 => ?_) (hn := by omega)
      obtain ⟨t2, s2, hP2, rfl, nP2⟩ := h2
      have hA2 := (isA_nG (t := 1) (m := 0) hA1.2).geo (show (nG G1 1 0).1 ≤ G2.1 by show G1.1 + 1 ≤ _; omega) (s2 (x + 40) (by omega))
      refine x_aastore (pc := 138) cx (c := 1) (t := 4) rfl rfl (by decide) (dA ddX7_init (i := 66) rfl) hA2 (by decide) (by decide) c123 (by decide) hP2.1 ?_
      refine x_iinc (pc := 139) cx (dA ddX7_init (i := 67) rfl) rfl (iinc1 _) (by decide) rfl ?_
      refine x_goto (pc := 142) (tgt := 117) cx (dA ddX7_init (i := 68) rfl) (by decide) ?_
      exact x_enter (Wm.widenK (ih (by omega) _ ⟨stI_s hI t2 s2 hP2, (gI.nG.t0 nP2).sAR (Or.inr (Or.inr rfl))⟩) (by omega) (by omega)) ⟨.inr rfl, .inr rfl, trivial⟩
  exact x_enter (Wm.widenK (L117 0 (Nat.zero_le _) _ ⟨⟨t11, u11, (b11.get (q := (0, x, 7, 0)) 22 rfl).gk, ⟨(b11.get (q := (2, 350, x + 1, 0)) 20 rfl).gr, (b11.get (q := (4, 0, 0, 0)) 21 rfl).g4⟩, ⟨(b11.get (q := (2, 351, x + 18, 0)) 18 rfl).gr, (b11.get (q := (4, 17, 0, 0)) 19 rfl).g4⟩, ⟨(b11.get (q := (2, 353, x + 35, 0)) 16 rfl).gr, (b11.get (q := (5, 34, 0, 0)) 17 rfl).g5⟩, ⟨(b11.get (q := (2, 354, x + 37, 0)) 14 rfl).gr, (b11.get (q := (1, x + 37, 5, 8)) 15 rfl).ga⟩, ⟨(b11.get (q := (2, 355, x + 38, 0)) 12 rfl).gr, (b11.get (q := (1, x + 38, 6, 8)) 13 rfl).ga⟩, ⟨(b11.get (q := (2, 356, x + 39, 0)) 10 rfl).gr, (b11.get (q := (1, x + 39, 1, 5)) 11 rfl).ga⟩, ⟨(b11.get (q := (2, 357, x + 40, 0)) 8 rfl).gr, (b11.get (q := (1, x + 40, 4, 6)) 9 rfl).ga⟩, ⟨(b11.get (q := (2, 358, x + 41, 0)) 6 rfl).gr, (b11.get (q := (6, 40, 0, 0)) 7 rfl).g6⟩, ⟨(b11.get (q := (2, 359, x + 53, 0)) 4 rfl).gr, (b11.get (q := (6, 52, 0, 0)) 5 rfl).g6⟩, ⟨(b11.get (q := (2, 360, x + 65, 0)) 2 rfl).gr, (b11.get (q := (7, 64, 0, 0)) 3 rfl).g7⟩, ⟨(b11.get (q := (2, 361, x + 67, 0)) 0 rfl).gr, (b11.get (q := (8, 66, 0, 0)) 1 rfl).g8⟩, fun j hj => absurd hj (Nat.not_lt_zero _)⟩, g11⟩) (by omega) (by omega)) ⟨.inr rfl, .inr rfl, trivial⟩
