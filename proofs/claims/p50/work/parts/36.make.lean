/-! CONSTRUCTORS -/
def sameG (G G' : zG) (a : Nat) : Prop := G'.2.1 a = G.2.1 a ∧ (∀ f, G'.2.2.1 f a = G.2.2.1 f a) ∧ ∀ i, G'.2.2.2 a i = G.2.2.2 a i
theorem sameG.refl (G : zG) (a : Nat) : sameG G G a := ⟨rfl, fun _ => rfl, fun _ => rfl⟩
theorem sameG.trans {G G' G'' : zG} {a : Nat} (h : sameG G G' a) (h2 : sameG G' G'' a) : sameG G G'' a := ⟨h2.1.trans h.1, fun f => (h2.2.1 f).trans (h.2.1 f), fun i => (h2.2.2 i).trans (h.2.2 i)⟩
theorem sameG.nG {G G' : zG} {a t n : Nat} (h : sameG G G' a) (ha : a < G'.1) : sameG G (nG G' t n) a := ⟨(va_up_ne _ _ (Nat.ne_of_lt ha)).trans h.1, h.2⟩
theorem sameG.sR {G G' : zG} {a f b : Nat} {v : Option Nat} (h : sameG G G' a) (ha : a ≠ b) : sameG G (sR G' f b v) a := ⟨h.1, fun g => (u2_snd _ _ ha).trans (h.2.1 g), h.2.2⟩
theorem sameG.sAR {G G' : zG} {a i b : Nat} {v : Option Nat} (h : sameG G G' a) (ha : a ≠ b) : sameG G (sAR G' b i v) a := ⟨h.1, h.2.1, fun j => (u2_fst _ _ ha).trans (h.2.2 j)⟩
theorem isK.geo {Z : zP} {G G' : zG} {a c : Nat} (h : isK Z G a c) (ht : G.1 ≤ G'.1) (hs : sameG G G' a) : isK Z G' a c := ⟨h.1, Nat.lt_of_lt_of_le h.2.1 ht, by rw [hs.1]; exact h.2.2⟩
theorem isA.geo {Z : zP} {G G' : zG} {a t n : Nat} (h : isA Z G a t n) (ht : G.1 ≤ G'.1) (hs : sameG G G' a) : isA Z G' a t n := ⟨h.1, Nat.lt_of_lt_of_le h.2.1 ht, by rw [hs.1]; exact h.2.2⟩
theorem HouseAt.geo {Z : zP} {G G' : zG} {h : Nat} (hH : HouseAt Z G h) (ht : G.1 ≤ G'.1) (hs : ∀ a, h ≤ a → a < h + 2 → sameG G G' a) : HouseAt Z G' h := ⟨hH.1.geo ht (hs h (by omega) (by omega)), ((hs h (by omega) (by omega)).2.1 _).trans hH.2.1, hH.2.2.geo ht (hs (h + 1) (by omega) (by omega))⟩
theorem PlanAt.geo {Z : zP} {G G' : zG} {p : Nat} (hP : PlanAt Z G p) (ht : G.1 ≤ G'.1) (hs : ∀ a, p ≤ a → a < p + 12 → sameG G G' a) : PlanAt Z G' p := by
  obtain ⟨a, b, c, d1, d2, d3, d4, d5, d6, d7, d8, d9⟩ := hP
  have r := (hs p (by omega) (by omega)).2.1
  exact ⟨a.geo ht (hs p (by omega) (by omega)), (r _).trans b, c.geo ht (fun x h1 h2 => hs x (by omega) (by omega)), ⟨(r _).trans d1.1, d1.2.geo ht (hs _ (by omega) (by omega))⟩, ⟨(r _).trans d2.1, d2.2.geo ht (hs _ (by omega) (by omega))⟩, ⟨(r _).trans d3.1, d3.2.geo ht (hs _ (by omega) (by omega))⟩, ⟨(r _).trans d4.1, d4.2.geo ht (hs _ (by omega) (by omega))⟩, ⟨(r _).trans d5.1, d5.2.geo ht (hs _ (by omega) (by omega))⟩, ⟨(r _).trans d6.1, d6.2.geo ht (hs _ (by omega) (by omega))⟩, ⟨(r _).trans d7.1, d7.2.geo ht (hs _ (by omega) (by omega))⟩, ⟨(r _).trans d8.1, d8.2.geo ht (hs _ (by omega) (by omega))⟩, ⟨(r _).trans d9.1, d9.2.geo ht (hs _ (by omega) (by omega))⟩⟩
theorem TapeAt.geo {Z : zP} {G G' : zG} {t : Nat} (hT : TapeAt Z G t) (ht : G.1 ≤ G'.1) (hs : ∀ a, t ≤ a → a < t + 2 → sameG G G' a) : TapeAt Z G' t := ⟨hT.1.geo ht (hs t (by omega) (by omega)), ((hs t (by omega) (by omega)).2.1 _).trans hT.2.1, hT.2.2.geo ht (hs (t + 1) (by omega) (by omega))⟩
def WeekAt (Z : zP) (G : zG) (w : Nat) : Prop := isK Z G w 5 ∧ G.2.2.1 250 w = some (w + 1) ∧ HouseAt Z G (w + 1)
theorem WeekAt.geo {Z : zP} {G G' : zG} {w : Nat} (hW : WeekAt Z G w) (ht : G.1 ≤ G'.1) (hs : ∀ a, w ≤ a → a < w + 3 → sameG G G' a) : WeekAt Z G' w := ⟨hW.1.geo ht (hs w (by omega) (by omega)), ((hs w (by omega) (by omega)).2.1 _).trans hW.2.1, hW.2.2.geo ht (fun x h1 h2 => hs x (by omega) (by omega))⟩
def WorldAt (Z : zP) (G : zG) (w : Nat) : Prop := isK Z G w 6 ∧ G.2.2.1 300 w = some (w + 1) ∧ isA Z G (w + 1) 3 6 ∧ G.2.2.1 303 w = some (w + 2) ∧ WeekAt Z G (w + 2) ∧ ∀ i, i < 6 → G.2.2.2 (w + 1) i = some (w + 5 + 2 * i) ∧ HouseAt Z G (w + 5 + 2 * i)
theorem WorldAt.geo {Z : zP} {G G' : zG} {w : Nat} (hW : WorldAt Z G w) (ht : G.1 ≤ G'.1) (hs : ∀ a, w ≤ a → a < w + 17 → sameG G G' a) : WorldAt Z G' w := by
  obtain ⟨a, b, c, d, e, f⟩ := hW
  have r := (hs w (by omega) (by omega)).2.1
  exact ⟨a.geo ht (hs w (by omega) (by omega)), (r _).trans b, c.geo ht (hs _ (by omega) (by omega)), (r _).trans d, e.geo ht (fun x h1 h2 => hs x (by omega) (by omega)), fun i hi => ⟨((hs _ (by omega) (by omega)).2.2 i).trans (f i hi).1, (f i hi).2.geo ht (fun x h1 h2 => hs x (by omega) (by omega))⟩⟩
/-- facts of a geometry: 0 an object, 1 an array, 2 a field, 3 an element -/
def gH (Z : zP) (G : zG) (q : Nat × Nat × Nat × Nat) : Prop := match q.1 with
  | 0 => isK Z G q.2.1 q.2.2.1
  | 1 => isA Z G q.2.1 q.2.2.1 q.2.2.2
  | 2 => G.2.2.1 q.2.1 q.2.2.1 = some q.2.2.2
  | _ => G.2.2.2 q.2.1 q.2.2.1 = some q.2.2.2
def gAll (Z : zP) (G : zG) (L : List (Nat × Nat × Nat × Nat)) : Prop := ∀ q ∈ L, gH Z G q
theorem gAll.nil (Z : zP) (G : zG) : gAll Z G [] := fun q h => absurd h (by simp)
theorem gAll.cons {Z : zP} {G : zG} {q : Nat × Nat × Nat × Nat} {L : List (Nat × Nat × Nat × Nat)} (h : gH Z G q) (hL : gAll Z G L) : gAll Z G (q :: L) := fun r hr => by
  rcases List.mem_cons.mp hr with rfl | hr
  · exact h
  · exact hL r hr
theorem gAll.grow {Z : zP} {G : zG} {t n : Nat} {L : List (Nat × Nat × Nat × Nat)} (hL : gAll Z G L) : gAll Z (nG G t n) L := by
  rintro ⟨k, a, b, c⟩ hq
  have h := hL _ hq
  match k, h with
  | 0, h => exact isK_nG h
  | 1, h => exact isA_nG h
  | 2, h => exact h
  | k + 3, h => exact h
theorem gAll.newA {Z : zP} {G : zG} {t n : Nat} {L : List (Nat × Nat × Nat × Nat)} (hz : Z.1 ≤ G.1) (hL : gAll Z G L) : gAll Z (nG G (9 + t) n) ((1, G.1, t, n) :: L) := gAll.cons ⟨hz, Nat.lt_succ_self _, va_up_self _ _ _⟩ hL.grow
theorem gAll.newK {Z : zP} {G : zG} {c n : Nat} {L : List (Nat × Nat × Nat × Nat)} (hz : Z.1 ≤ G.1) (hL : gAll Z G L) : gAll Z (nG G c n) ((0, G.1, c, 0) :: L) := gAll.cons ⟨hz, Nat.lt_succ_self _, by show (va_up G.2.1 G.1 (c, n) G.1).1 = c; rw [va_up_self]⟩ hL.grow
/-- no field f among them -/
def nof (f : Nat) (L : List (Nat × Nat × Nat × Nat)) : Bool := L.all fun q => !(Nat.beq q.1 2 && Nat.beq q.2.1 f)
theorem gAll.ref {Z : zP} {G : zG} {f a v : Nat} {L : List (Nat × Nat × Nat × Nat)} (hL : gAll Z G L) (hn : nof f L = true) : gAll Z (sR G f a (some v)) ((2, f, a, v) :: L) := by
  refine gAll.cons (u2_same _ _ _ _) ?_
  rintro ⟨k, x, b, c⟩ hq
  have h := hL _ hq
  have h3 := List.all_eq_true.mp hn _ hq
  match k, h, h3 with
  | 0, h, _ => exact h
  | 1, h, _ => exact h
  | 2, h, h3 =>
    have ne : x ≠ f := by
      intro e
      subst e
      have h4 : (!(true && Nat.beq x x)) = true := h3
      rw [Nat.beq_refl] at h4
      cases h4
    exact (u2_fst _ _ ne).trans h
  | k + 3, h, _ => exact h
theorem gAll.get {Z : zP} {G : zG} {L : List (Nat × Nat × Nat × Nat)} (hL : gAll Z G L) {q : Nat × Nat × Nat × Nat} (n : Nat) (h : L[n]? = some q) : gH Z G q := hL q (List.mem_of_getElem? h)
theorem pl_top {n : Nat} {G : zG} {t m a : Nat} (h : G.1 = a + n) : (nG G t m).1 = a + (n + 1) := by show G.1 + 1 = _; omega
theorem c_X1_init {l : Launch} {Z : zP} {G : zG} {V : zV} {p : Nat} (h0 : isK Z G p 1) (ht : G.1 = p + 1) : CT l Z yX1_init cX1_init 1 none 2 11 3396 [.ref p] G V (pVg (fun G' V' => G'.1 = p + 12 ∧ (∀ a, a < p → sameG G G' a) ∧ PlanAt Z G' p ∧ V' = sI (sI V 63 p (-1)) 64 p (-1))) := by
  refine CT.of (by decide +kernel) (Nat.le_of_ble_eq_true rfl) (fun X hX cx => ?_)
  subst hX
  show Wm Z X 1 G V 0 0 _ 0 [(0, some (.ref p))] []
  refine x_aload_n (pc := 0) cx (dA ddX1_init (i := 0) rfl) rfl ?_
  refine Wm.top fun hZ _ => ?_
  refine x_objInit (pc := 1) koX1_3 ko_i ko_c cx (dA ddX1_init (i := 1) rfl) (by decide) (Nat.le_of_ble_eq_true rfl) ?_
  refine x_aload_n (pc := 4) cx (dA ddX1_init (i := 2) rfl) rfl ?_
  refine nX1_9 (pc := 5) cx (dA ddX1_init (i := 3) rfl) ?_
  refine x_dup (pc := 8) cx rfl (dA ddX1_init (i := 4) rfl) ?_
  refine x_IN0 (pc := 9) mX1_11 (c_X0_init ⟨by omega, Nat.lt_succ_self _, by show (va_up G.2.1 G.1 (0, 0) G.1).1 = 0; rw [va_up_self]⟩) cx (dA ddX1_init (i := 5) rfl) (kV ?_)
  obtain ⟨G1, hG1⟩ : ∃ G1, G1 = sR (nG (nG G 0 0) 10 20) 0 G.1 (some (nG G 0 0).1) := ⟨_, rfl⟩
  have g1 : gAll Z G1 [(2, 0, p + 1, p + 2), (1, p + 2, 1, 20), (0, p + 1, 0, 0), (0, p, 1, 0)] := by rw [hG1, show (nG G 0 0).1 = p + 2 from by show G.1 + 1 = _; omega, ht]; have hz2 := hZ; exact ((show (nG G 0 0).1 = p + 2 from by show G.1 + 1 = _; omega) ▸ (gAll.newA (t := 1) (n := 20) (by show Z.1 ≤ G.1 + 1; omega) (ht ▸ gAll.newK (c := 0) (n := 0) hZ (gAll.cons (q := (0, p, 1, 0)) h0 (gAll.nil Z G))))).ref rfl
  have t1 : G1.1 = p + 3 := by rw [hG1]; show G.1 + 2 = _; omega
  have s1 : ∀ a, a < p → sameG G G1 a := fun a ha => by rw [hG1]; exact ((((sameG.refl G a).nG (by omega)).nG (by show a < G.1 + 1; omega)).sR (by omega))
  rw [← hG1, ht]
  clear hG1
  refine pX1_12 (pc := 12) (x := some (p + 1)) cx (dA ddX1_init (i := 6) rfl) (g1.get 3 rfl) ?_
  obtain ⟨G2, hG2⟩ : ∃ G2, G2 = sR G1 50 p (some (p + 1)) := ⟨_, rfl⟩
  have g2 := g1.ref (f := 50) (a := p) (v := p + 1) rfl
  rw [← hG2] at g2
  have t2 : G2.1 = p + 3 := by rw [hG2]; exact t1
  have s2 : ∀ a, a < p → sameG G G2 a := fun a ha => by rw [hG2]; exact (s1 a ha).sR (by omega)
  rw [← hG2]
  clear hG2
  refine x_aload_n (pc := 15) cx (dA ddX1_init (i := 7) rfl) rfl ?_
  refine x_bipush (pc := 16) (v := nI 125) cx (dA ddX1_init (i := 8) rfl) (by decide) ?_
  refine x_newI (pc := 18) cx (dA ddX1_init (i := 9) rfl) (by decide) ?_
  have w2 := gAll.newA (t := 1) (n := 125) (by omega) g2
  rw [t2] at w2 ⊢
  refine pX1_18 (pc := 20) (x := some (p + 3)) cx (dA ddX1_init (i := 10) rfl) (isK_nG (g2.get 4 rfl)) ?_
  obtain ⟨G3, hG3⟩ : ∃ Gx, Gx = sR (nG G2 (9 + 1) 125) 54 p (some (p + 3)) := ⟨_, rfl⟩
  have g3 := w2.ref (f := 54) (a := p) (v := p + 3) rfl
  rw [← hG3] at g3
  have t3 : G3.1 = p + 4 := by rw [hG3]; show G2.1 + 1 = _; omega
  have s3 : ∀ a, a < p → sameG G G3 a := fun a ha => by rw [hG3]; exact ((s2 a ha).nG (by omega)).sR (by omega)
  first | rw [← hG3] | rw [show 9 + 1 = 10 from rfl] at hG3; rw [← hG3]
  clear hG3
  refine x_aload_n (pc := 23) cx (dA ddX1_init (i := 11) rfl) rfl ?_
  refine x_bipush (pc := 24) (v := nI 125) cx (dA ddX1_init (i := 12) rfl) (by decide) ?_
  refine x_newI (pc := 26) cx (dA ddX1_init (i := 13) rfl) (by decide) ?_
  have w3 := gAll.newA (t := 1) (n := 125) (by omega) g3
  rw [t3] at w3 ⊢
  refine pX1_22 (pc := 28) (x := some (p + 4)) cx (dA ddX1_init (i := 14) rfl) (isK_nG (g3.get 6 rfl)) ?_
  obtain ⟨G4, hG4⟩ : ∃ Gx, Gx = sR (nG G3 (9 + 1) 125) 55 p (some (p + 4)) := ⟨_, rfl⟩
  have g4 := w3.ref (f := 55) (a := p) (v := p + 4) rfl
  rw [← hG4] at g4
  have t4 : G4.1 = p + 5 := by rw [hG4]; show G3.1 + 1 = _; omega
  have s4 : ∀ a, a < p → sameG G G4 a := fun a ha => by rw [hG4]; exact ((s3 a ha).nG (by omega)).sR (by omega)
  first | rw [← hG4] | rw [show 9 + 1 = 10 from rfl] at hG4; rw [← hG4]
  clear hG4
  refine x_aload_n (pc := 31) cx (dA ddX1_init (i := 15) rfl) rfl ?_
  refine x_bipush (pc := 32) (v := nI 125) cx (dA ddX1_init (i := 16) rfl) (by decide) ?_
  refine x_newI (pc := 34) cx (dA ddX1_init (i := 17) rfl) (by decide) ?_
  have w4 := gAll.newA (t := 1) (n := 125) (by omega) g4
  rw [t4] at w4 ⊢
  refine pX1_25 (pc := 36) (x := some (p + 5)) cx (dA ddX1_init (i := 18) rfl) (isK_nG (g4.get 8 rfl)) ?_
  obtain ⟨G5, hG5⟩ : ∃ Gx, Gx = sR (nG G4 (9 + 1) 125) 56 p (some (p + 5)) := ⟨_, rfl⟩
  have g5 := w4.ref (f := 56) (a := p) (v := p + 5) rfl
  rw [← hG5] at g5
  have t5 : G5.1 = p + 6 := by rw [hG5]; show G4.1 + 1 = _; omega
  have s5 : ∀ a, a < p → sameG G G5 a := fun a ha => by rw [hG5]; exact ((s4 a ha).nG (by omega)).sR (by omega)
  first | rw [← hG5] | rw [show 9 + 1 = 10 from rfl] at hG5; rw [← hG5]
  clear hG5
  refine x_aload_n (pc := 39) cx (dA ddX1_init (i := 19) rfl) rfl ?_
  refine x_bipush (pc := 40) (v := nI 125) cx (dA ddX1_init (i := 20) rfl) (by decide) ?_
  refine x_newI (pc := 42) cx (dA ddX1_init (i := 21) rfl) (by decide) ?_
  have w5 := gAll.newA (t := 1) (n := 125) (by omega) g5
  rw [t5] at w5 ⊢
  refine pX1_28 (pc := 44) (x := some (p + 6)) cx (dA ddX1_init (i := 22) rfl) (isK_nG (g5.get 10 rfl)) ?_
  obtain ⟨G6, hG6⟩ : ∃ Gx, Gx = sR (nG G5 (9 + 1) 125) 57 p (some (p + 6)) := ⟨_, rfl⟩
  have g6 := w5.ref (f := 57) (a := p) (v := p + 6) rfl
  rw [← hG6] at g6
  have t6 : G6.1 = p + 7 := by rw [hG6]; show G5.1 + 1 = _; omega
  have s6 : ∀ a, a < p → sameG G G6 a := fun a ha => by rw [hG6]; exact ((s5 a ha).nG (by omega)).sR (by omega)
  first | rw [← hG6] | rw [show 9 + 1 = 10 from rfl] at hG6; rw [← hG6]
  clear hG6
  refine x_aload_n (pc := 47) cx (dA ddX1_init (i := 23) rfl) rfl ?_
  refine x_sipush (pc := 48) (v := nI 875) cx (dA ddX1_init (i := 24) rfl) (by decide) ?_
  refine x_newI (pc := 51) cx (dA ddX1_init (i := 25) rfl) (by decide) ?_
  have w6 := gAll.newA (t := 1) (n := 875) (by omega) g6
  rw [t6] at w6 ⊢
  refine pX1_31 (pc := 53) (x := some (p + 7)) cx (dA ddX1_init (i := 26) rfl) (isK_nG (g6.get 12 rfl)) ?_
  obtain ⟨G7, hG7⟩ : ∃ Gx, Gx = sR (nG G6 (9 + 1) 875) 58 p (some (p + 7)) := ⟨_, rfl⟩
  have g7 := w6.ref (f := 58) (a := p) (v := p + 7) rfl
  rw [← hG7] at g7
  have t7 : G7.1 = p + 8 := by rw [hG7]; show G6.1 + 1 = _; omega
  have s7 : ∀ a, a < p → sameG G G7 a := fun a ha => by rw [hG7]; exact ((s6 a ha).nG (by omega)).sR (by omega)
  first | rw [← hG7] | rw [show 9 + 1 = 10 from rfl] at hG7; rw [← hG7]
  clear hG7
  refine x_aload_n (pc := 56) cx (dA ddX1_init (i := 27) rfl) rfl ?_
  refine x_sipush (pc := 57) (v := nI 875) cx (dA ddX1_init (i := 28) rfl) (by decide) ?_
  refine x_newJ (pc := 60) cx (dA ddX1_init (i := 29) rfl) (by decide) ?_
  have w7 := gAll.newA (t := 2) (n := 875) (by omega) g7
  rw [t7] at w7 ⊢
  refine pX1_34 (pc := 62) (x := some (p + 8)) cx (dA ddX1_init (i := 30) rfl) (isK_nG (g7.get 14 rfl)) ?_
  obtain ⟨G8, hG8⟩ : ∃ Gx, Gx = sR (nG G7 (9 + 2) 875) 59 p (some (p + 8)) := ⟨_, rfl⟩
  have g8 := w7.ref (f := 59) (a := p) (v := p + 8) rfl
  rw [← hG8] at g8
  have t8 : G8.1 = p + 9 := by rw [hG8]; show G7.1 + 1 = _; omega
  have s8 : ∀ a, a < p → sameG G G8 a := fun a ha => by rw [hG8]; exact ((s7 a ha).nG (by omega)).sR (by omega)
  first | rw [← hG8] | rw [show 9 + 2 = 11 from rfl] at hG8; rw [← hG8]
  clear hG8
  refine x_aload_n (pc := 65) cx (dA ddX1_init (i := 31) rfl) rfl ?_
  refine x_sipush (pc := 66) (v := nI 875) cx (dA ddX1_init (i := 32) rfl) (by decide) ?_
  refine x_newJ (pc := 69) cx (dA ddX1_init (i := 33) rfl) (by decide) ?_
  have w8 := gAll.newA (t := 2) (n := 875) (by omega) g8
  rw [t8] at w8 ⊢
  refine pX1_38 (pc := 71) (x := some (p + 9)) cx (dA ddX1_init (i := 34) rfl) (isK_nG (g8.get 16 rfl)) ?_
  obtain ⟨G9, hG9⟩ : ∃ Gx, Gx = sR (nG G8 (9 + 2) 875) 60 p (some (p + 9)) := ⟨_, rfl⟩
  have g9 := w8.ref (f := 60) (a := p) (v := p + 9) rfl
  rw [← hG9] at g9
  have t9 : G9.1 = p + 10 := by rw [hG9]; show G8.1 + 1 = _; omega
  have s9 : ∀ a, a < p → sameG G G9 a := fun a ha => by rw [hG9]; exact ((s8 a ha).nG (by omega)).sR (by omega)
  first | rw [← hG9] | rw [show 9 + 2 = 11 from rfl] at hG9; rw [← hG9]
  clear hG9
  refine x_aload_n (pc := 74) cx (dA ddX1_init (i := 35) rfl) rfl ?_
  refine x_bipush (pc := 75) (v := nI 125) cx (dA ddX1_init (i := 36) rfl) (by decide) ?_
  refine x_newJ (pc := 77) cx (dA ddX1_init (i := 37) rfl) (by decide) ?_
  have w9 := gAll.newA (t := 2) (n := 125) (by omega) g9
  rw [t9] at w9 ⊢
  refine pX1_41 (pc := 79) (x := some (p + 10)) cx (dA ddX1_init (i := 38) rfl) (isK_nG (g9.get 18 rfl)) ?_
  obtain ⟨G10, hG10⟩ : ∃ Gx, Gx = sR (nG G9 (9 + 2) 125) 61 p (some (p + 10)) := ⟨_, rfl⟩
  have g10 := w9.ref (f := 61) (a := p) (v := p + 10) rfl
  rw [← hG10] at g10
  have t10 : G10.1 = p + 11 := by rw [hG10]; show G9.1 + 1 = _; omega
  have s10 : ∀ a, a < p → sameG G G10 a := fun a ha => by rw [hG10]; exact ((s9 a ha).nG (by omega)).sR (by omega)
  first | rw [← hG10] | rw [show 9 + 2 = 11 from rfl] at hG10; rw [← hG10]
  clear hG10
  refine x_aload_n (pc := 82) cx (dA ddX1_init (i := 39) rfl) rfl ?_
  refine x_bipush (pc := 83) (v := nI 125) cx (dA ddX1_init (i := 40) rfl) (by decide) ?_
  refine x_newJ (pc := 85) cx (dA ddX1_init (i := 41) rfl) (by decide) ?_
  have w10 := gAll.newA (t := 2) (n := 125) (by omega) g10
  rw [t10] at w10 ⊢
  refine pX1_44 (pc := 87) (x := some (p + 11)) cx (dA ddX1_init (i := 42) rfl) (isK_nG (g10.get 20 rfl)) ?_
  obtain ⟨G11, hG11⟩ : ∃ Gx, Gx = sR (nG G10 (9 + 2) 125) 62 p (some (p + 11)) := ⟨_, rfl⟩
  have g11 := w10.ref (f := 62) (a := p) (v := p + 11) rfl
  rw [← hG11] at g11
  have t11 : G11.1 = p + 12 := by rw [hG11]; show G10.1 + 1 = _; omega
  have s11 : ∀ a, a < p → sameG G G11 a := fun a ha => by rw [hG11]; exact ((s10 a ha).nG (by omega)).sR (by omega)
  first | rw [← hG11] | rw [show 9 + 2 = 11 from rfl] at hG11; rw [← hG11]
  clear hG11
  refine x_aload_n (pc := 90) cx (dA ddX1_init (i := 43) rfl) rfl ?_
  refine x_iconst (pc := 91) (v := -1) cx (dA ddX1_init (i := 44) rfl) (by decide) ?_
  refine pX1_47 (pc := 92)  cx (dA ddX1_init (i := 45) rfl) (g11.get 22 rfl) ?_
  refine x_aload_n (pc := 95) cx (dA ddX1_init (i := 46) rfl) rfl ?_
  refine x_iconst (pc := 96) (v := -1) cx (dA ddX1_init (i := 47) rfl) (by decide) ?_
  refine pX1_51 (pc := 97)  cx (dA ddX1_init (i := 48) rfl) (g11.get 22 rfl) ?_
  refine x_return (pc := 100) cx (dA ddX1_init (i := 49) rfl) (by first | exact Nat.le_of_ble_eq_true rfl | omega) (by first | exact Nat.le_of_ble_eq_true rfl | omega) ?_
  exact ⟨rfl, t11, s11, ⟨(g11.get 22 rfl), (g11.get 18 rfl), ⟨(g11.get 21 rfl), (g11.get 19 rfl), (g11.get 20 rfl)⟩, ⟨(g11.get 16 rfl), (g11.get 17 rfl)⟩, ⟨(g11.get 14 rfl), (g11.get 15 rfl)⟩, ⟨(g11.get 12 rfl), (g11.get 13 rfl)⟩, ⟨(g11.get 10 rfl), (g11.get 11 rfl)⟩, ⟨(g11.get 8 rfl), (g11.get 9 rfl)⟩, ⟨(g11.get 6 rfl), (g11.get 7 rfl)⟩, ⟨(g11.get 4 rfl), (g11.get 5 rfl)⟩, ⟨(g11.get 2 rfl), (g11.get 3 rfl)⟩, ⟨(g11.get 0 rfl), (g11.get 1 rfl)⟩⟩, rfl⟩
