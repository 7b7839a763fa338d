/-! THE CLASS: what changes -/
theorem WeekAt.g {Z : zP} {G G' : zG} {w : Nat} (h : WeekAt Z G w) (ht : G.1 ≤ G'.1) (h1 : G'.2.1 w = G.2.1 w) (h2 : ∀ f, f ≠ 251 → G'.2.2.1 f w = G.2.2.1 f w) (hs : ∀ a, w + 1 ≤ a → a < w + 3 → sameG G G' a) : WeekAt Z G' w := ⟨⟨h.1.1, Nat.lt_of_lt_of_le h.1.2.1 ht, by rw [h1]; exact h.1.2.2⟩, (h2 _ (by decide)).trans h.2.1, h.2.2.geo ht (fun a p q => hs a (by omega) (by omega))⟩
/-- a geometry that differs in weeks' rules and on shelves only -/
def gW (G G' : zG) (x : Nat) : Prop := G.1 ≤ G'.1 ∧ ∀ a, x ≤ a → a < x + 142 → G'.2.1 a = G.2.1 a ∧ (∀ f, f ≠ 251 → G'.2.2.1 f a = G.2.2.1 f a) ∧ (a ≠ x + 3 → a ≠ x + 20 → a ≠ x + 67 → a ≠ x + 37 → a ≠ x + 38 → sameG G G' a)
theorem WorldAt.g {Z : zP} {G G' : zG} {w : Nat} (h : WorldAt Z G w) (ht : G.1 ≤ G'.1) (h1 : G'.2.1 (w + 2) = G.2.1 (w + 2)) (h2 : ∀ f, f ≠ 251 → G'.2.2.1 f (w + 2) = G.2.2.1 f (w + 2)) (hs : ∀ a, w ≤ a → a < w + 17 → a ≠ w + 2 → sameG G G' a) : WorldAt Z G' w := by
  obtain ⟨a, b, c, d, e, f⟩ := h
  have r := (hs w (by omega) (by omega) (by omega)).2.1
  exact ⟨a.geo ht (hs w (by omega) (by omega) (by omega)), (r _).trans b, c.geo ht (hs _ (by omega) (by omega) (by omega)), (r _).trans d, e.g ht h1 h2 (fun x h1 h2 => hs x (by omega) (by omega) (by omega)), fun i hi => ⟨((hs _ (by omega) (by omega) (by omega)).2.2 i).trans (f i hi).1, (f i hi).2.geo ht (fun x h1 h2 => hs x (by omega) (by omega) (by omega))⟩⟩
theorem STBAt.g {Z : zP} {G G' : zG} {x : Nat} (h : STBAt Z G x) (hg : gW G G' x) : STBAt Z G' x := by
  obtain ⟨ht, hs⟩ := hg
  obtain ⟨a, ⟨b1, b2⟩, ⟨c1, c2⟩, ⟨d1, d2⟩, ⟨e1, e2⟩, ⟨f1, f2⟩, ⟨g1, g2⟩, ⟨i1, i2⟩, ⟨j1, j2⟩, ⟨k1, k2⟩, ⟨m1, m2⟩, ⟨n1, n2⟩, o⟩ := h
  have gs : ∀ a, x ≤ a → a < x + 142 → a ≠ x + 3 → a ≠ x + 20 → a ≠ x + 67 → a ≠ x + 37 → a ≠ x + 38 → sameG G G' a := fun a p q => (hs a p q).2.2
  have ar : ∀ {q t n : Nat}, x ≤ q → q < x + 142 → isA Z G q t n → isA Z G' q t n := fun p1 p2 hA => ⟨hA.1, Nat.lt_of_lt_of_le hA.2.1 ht, by rw [(hs _ p1 p2).1]; exact hA.2.2⟩
  have r := (gs x (by omega) (by omega) (by omega) (by omega) (by omega) (by omega) (by omega))
  exact ⟨a.geo ht r, ⟨(r.2.1 _).trans b1, b2.g ht (hs _ (by omega) (by omega)).1 (hs _ (by omega) (by omega)).2.1 (fun z p q p2 => gs z (by omega) (by omega) (by omega) (by omega) (by omega) (by omega) (by omega))⟩, ⟨(r.2.1 _).trans c1, c2.g ht (hs _ (by omega) (by omega)).1 (hs _ (by omega) (by omega)).2.1 (fun z p q p2 => gs z (by omega) (by omega) (by omega) (by omega) (by omega) (by omega) (by omega))⟩, ⟨(r.2.1 _).trans d1, d2.geo ht (fun z p q => gs z (by omega) (by omega) (by omega) (by omega) (by omega) (by omega) (by omega))⟩, ⟨(r.2.1 _).trans e1, ar (by omega) (by omega) e2⟩, ⟨(r.2.1 _).trans f1, ar (by omega) (by omega) f2⟩, ⟨(r.2.1 _).trans g1, ar (by omega) (by omega) g2⟩, ⟨(r.2.1 _).trans i1, ar (by omega) (by omega) i2⟩, ⟨(r.2.1 _).trans j1, j2.geo ht (fun z p q => gs z (by omega) (by omega) (by omega) (by omega) (by omega) (by omega) (by omega))⟩, ⟨(r.2.1 _).trans k1, k2.geo ht (fun z p q => gs z (by omega) (by omega) (by omega) (by omega) (by omega) (by omega) (by omega))⟩, ⟨(r.2.1 _).trans m1, m2.geo ht (fun z p q => gs z (by omega) (by omega) (by omega) (by omega) (by omega) (by omega) (by omega))⟩, ⟨(r.2.1 _).trans n1, n2.g ht (hs _ (by omega) (by omega)).1 (hs _ (by omega) (by omega)).2.1 (fun z p q => gs z (by omega) (by omega) (by omega) (by omega) (by omega) (by omega) (by omega))⟩, fun i hi => ⟨((gs (x + 40) (by omega) (by omega) (by omega) (by omega) (by omega) (by omega) (by omega)).2.2 i).trans (o i hi).1, (o i hi).2.geo ht (fun z p q => gs z (by omega) (by omega) (by omega) (by omega) (by omega) (by omega) (by omega))⟩⟩
theorem gW.refl (G : zG) (x : Nat) : gW G G x := ⟨Nat.le_refl _, fun a _ _ => ⟨rfl, fun _ _ => rfl, fun _ _ _ _ _ => sameG.refl G a⟩⟩
theorem gW.ext {G G' : zG} {x : Nat} (h : ExtG G G') (hx : x + 142 ≤ G.1) : gW G G' x := ⟨h.1, fun a p q => ⟨(h.2 a (by omega)).1, fun f _ => (h.2 a (by omega)).2.1 f, fun _ _ _ _ _ => h.2 a (by omega)⟩⟩
section RCG
variable {Z : zP} {G G' : zG} {V V' : zV} {col col' : Nat → Nat} {x : Nat} {S S' : SX}
theorem RC.tg {T : Nat → Prop} (h : RC Z G V x col S) (hg : gW G G' x) (hc : ∀ a, a < G.1 → col' a = col a) (hc0 : ∀ a, G'.1 ≤ a → col' a = 0) (hs : ∀ a, a < G.1 → col a ≠ 0 → ¬ T a → sameG G G' a ∧ same4 V V' a) (hT3 : ∀ a, T a → col a ≠ 3) (hw : (∀ a, x + 1 ≤ a → a < x + 18 → ¬ T a) ∧ S'.1 = S.1 ∨ WdC Z G' V' col' (x + 1) S'.1) (hk : (∀ a, x + 18 ≤ a → a < x + 35 → ¬ T a) ∧ ¬ T x ∧ S'.2.1 = S.2.1 ∨ KpC Z G' V' col' x S'.2.1) (ht : ¬ T (x + 35) ∧ ¬ T (x + 36) ∧ S'.2.2.1 = S.2.2.1 ∨ TapeV V' (x + 35) S'.2.2.1.1 S'.2.2.1.2) (hsh : (¬ T (x + 37) ∧ ¬ T (x + 38) ∧ (∀ a, col a = 2 → ¬ T a) ∧ S'.2.2.2.1 = S.2.2.2.1) ∨ (∀ s, s < 8 → ShC Z G' V' col' x s (S'.2.2.2.1 s)) ∧ ∀ s s' r, s < 8 → s' < 8 → G'.2.2.2 (x + 37) s = some r → G'.2.2.2 (x + 37) s' = some r → s = s') (hr : ¬ T (x + 39) ∧ S'.2.2.2.2 = S.2.2.2.2 ∨ ∀ i, i < 5 → V'.2.2.1 (x + 39) i = S'.2.2.2.2 i) (hp : ∀ i, i < 6 → (∀ a, x + 70 + 12 * i ≤ a → a < x + 70 + 12 * i + 12 → ¬ T a) ∨ PlC V' (x + 70 + 12 * i)) (h41 : (∀ a, x + 41 ≤ a → a < x + 53 → ¬ T a) ∨ PlC V' (x + 41)) (h53 : (∀ a, x + 53 ≤ a → a < x + 65 → ¬ T a) ∨ PlC V' (x + 53)) : RC Z G' V' x col' S' := by
  obtain ⟨a1, a2, a3, a4, a5, a6, a7, a8, a9, a10, a11, a12, a13⟩ := h
  have tp := hg.1
  have hb : ∀ a, x ≤ a → a < x + 142 → ¬ T a → sameG G G' a ∧ same4 V V' a := fun a h1 h2 h3 => hs a (by omega) (by rw [a3 a h1 h2]; decide) h3
  have h3 : ∀ a, a < G.1 → col a = 3 → sameG G G' a ∧ same4 V V' a := fun a h1 h2 => hs a h1 (by rw [h2]; decide) (fun q => hT3 a q h2)
  refine ⟨a1.g hg, by omega, fun a p q => (hc a (by omega)).trans (a3 a p q), hc0, ?_, ?_, ?_, ?_, ?_, ?_, fun i hi => ?_, ?_, ?_⟩
  · rcases hw with ⟨q1, q2⟩ | q
    · rw [q2]
      exact a5.st tp hc h3 (fun a h1 h2 => hb a (by omega) (by omega) (q1 a h1 (by omega)))
    · exact q
  · rcases hk with ⟨q1, q3, q2⟩ | q
    · rw [q2]
      exact a6.st tp hc h3 ((hb x (by omega) (by omega) q3).2.1 352) (fun a h1 h2 => hb a (by omega) (by omega) (q1 a h1 (by omega)))
    · exact q
  · rcases ht with ⟨q1, q3, q2⟩ | q
    · rw [q2]
      exact a7.st (hb _ (by omega) (by omega) q1).2 (hb _ (by omega) (by omega) q3).2
    · exact q
  · rcases hsh with ⟨q7, q8, q1, q2⟩ | q
    · rw [q2]
      intro s hs8
      refine (a8 s hs8).st tp hc h3 ((hb _ (by omega) (by omega) q7).1.2.2 s) ((hb _ (by omega) (by omega) q8).1.2.2 s) fun r hr => ?_
      have e : ∃ q, S.2.2.2.1 s = some (.inl q) := by
        match e : S.2.2.2.1 s with
        | none => rw [((a8 s hs8).1 e).1] at hr; cases hr
        | some (.inl q) => exact ⟨q, rfl⟩
        | some (.inr q) => rw [((a8 s hs8).2.2 q e).1] at hr; cases hr
      obtain ⟨q, e⟩ := e
      obtain ⟨r', b1, -, b3, -, -, -, b7, b8⟩ := (a8 s hs8).2.1 q e
      rw [hr] at b1
      cases b1
      exact ⟨hs r b3.1.2.1 (by rw [b7]; decide) (q1 r b7), hs _ b3.2.2.1.2.1 (by rw [b8]; decide) (q1 _ b8)⟩
    · exact q.1
  · rcases hsh with ⟨q7, -⟩ | q
    · intro s s' r p1 p2 p3 p4
      have g := (hb _ (by omega) (by omega) q7).1.2.2
      exact a9 s s' r p1 p2 ((g s).symm.trans p3) ((g s').symm.trans p4)
    · exact q.2
  · rcases hr with ⟨q1, q2⟩ | q
    · rw [q2]
      exact fun i hi => ((hb (x + 39) (by omega) (by omega) q1).2.2.2.1 i).trans (a10 i hi)
    · exact q
  · rcases hp i hi with q | q
    · exact (a11 i hi).st fun a h1 h2 => (hb a (by omega) (by omega) (q a h1 h2)).2
    · exact q
  · rcases h41 with q | q
    · exact a12.st fun a h1 h2 => (hb a (by omega) (by omega) (q a h1 (by omega))).2
    · exact q
  · rcases h53 with q | q
    · exact a13.st fun a h1 h2 => (hb a (by omega) (by omega) (q a h1 (by omega))).2
    · exact q
theorem RC.out2 (h : RC Z G V x col S) {a : Nat} (ha : col a = 2) : a < x ∨ x + 142 ≤ a := by
  by_cases q : x ≤ a ∧ a < x + 142
  · rw [h.2.2.1 a q.1 q.2] at ha
    cases ha
  · omega
theorem RC.out3 (h : RC Z G V x col S) {a : Nat} (ha : col a = 3) : a < x ∨ x + 142 ≤ a := by
  by_cases q : x ≤ a ∧ a < x + 142
  · rw [h.2.2.1 a q.1 q.2] at ha
    cases ha
  · omega
theorem RC.out0 (h : RC Z G V x col S) {a : Nat} (ha : col a = 0) : a < x ∨ x + 142 ≤ a := by
  by_cases q : x ≤ a ∧ a < x + 142
  · rw [h.2.2.1 a q.1 q.2] at ha
    cases ha
  · omega
theorem WdC.hs {w : Nat} {W W' : WD} (h : WdC Z G V col w W) (ht : G.1 ≤ G'.1) (hc : ∀ a, a < G.1 → col' a = col a) (hs : ∀ a, a < G.1 → col a = 3 → sameG G G' a ∧ same4 V V' a) (g2 : sameG G G' (w + 2)) (s2 : same4 V V' (w + 2)) (s4 : same4 V V' (w + 4)) (hn : V'.1 301 w = nI W'.1) (h6 : W'.1 ≤ 6) (hh : ∀ i, i < W'.1 → HouseV V' (w + 5 + 2 * i) (W'.2.1 i) ∧ HOK (W'.2.1 i) ∧ NZ (W'.2.1 i)) (hd : V'.1 302 w = W'.2.2.1) (he : W'.2.2.2 = W.2.2.2) : WdC Z G' V' col' w W' := by
  obtain ⟨a, b, c, d, e, f⟩ := h
  refine ⟨hn, h6, hh, hd, fun z => (g2.2.1 _).trans (e (he.symm.trans z)), fun ws hws => ?_⟩
  obtain ⟨q, q1, q2, q3, q4, q5, ⟨m1, m2, m3, m4, m5, m6⟩, q7⟩ := f ws (he.symm.trans hws)
  have sw := s2.1
  exact ⟨q, (g2.2.1 _).trans q1, q2.st ht hc hs, q3.same s4, q4, q5, ⟨(sw _).trans m1, (sw _).trans m2, (sw _).trans m3, (sw _).trans m4, (sw _).trans m5, (sw _).trans m6⟩, q7⟩
/-- the end of a call -/
theorem pCI.g {A : Int32 × SX} {v : Int32} (hA : A = (v, S')) (h : RC Z G' V' x col' S') (ht : G.1 ≤ G'.1) (hc : ∀ a, a < G.1 → col' a = col a) (o : ∀ a, a < G.1 → col a = 0 → sameG G G' a ∧ same4 V V' a) : pCI Z G V x col A (some (.int v)) G' V' := by subst hA; exact ⟨rfl, ht, ⟨col', hc, h⟩, o⟩
theorem pCJ.g {A : Int64 × SX} {v : Int64} (hA : A = (v, S')) (h : RC Z G' V' x col' S') (ht : G.1 ≤ G'.1) (hc : ∀ a, a < G.1 → col' a = col a) (o : ∀ a, a < G.1 → col a = 0 → sameG G G' a ∧ same4 V V' a) : pCJ Z G V x col A (some (.long v)) G' V' := by subst hA; exact ⟨rfl, ht, ⟨col', hc, h⟩, o⟩
end RCG
