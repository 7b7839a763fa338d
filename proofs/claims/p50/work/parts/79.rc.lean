/-! THE CLASS KNOWS S: at x. Colours of addresses: 0 none of its own, 1 the block at x, 2 rows on shelves, 3 rules and their twins -/
def RlC (Z : zP) (G : zG) (V : zV) (col : Nat → Nat) (q : Nat) (r : RX) : Prop := RuleAt Z G V q r.1 r.2.1 r.2.2.1 r.2.2.2 ∧ col q = 3 ∧ ∀ t, r.1 = 5 → G.2.2.1 153 q = some t → col t = 3 ∧ col (t + 1) = 3
def WdC (Z : zP) (G : zG) (V : zV) (col : Nat → Nat) (w : Nat) (W : WD) : Prop := V.1 301 w = nI W.1 ∧ W.1 ≤ 6 ∧ (∀ i, i < W.1 → HouseV V (w + 5 + 2 * i) (W.2.1 i) ∧ HOK (W.2.1 i) ∧ NZ (W.2.1 i)) ∧ V.1 302 w = W.2.2.1 ∧ (W.2.2.2 = none → G.2.2.1 251 (w + 2) = none) ∧ ∀ ws, W.2.2.2 = some ws → ∃ q, G.2.2.1 251 (w + 2) = some q ∧ RlC Z G V col q ws.2.1 ∧ HouseV V (w + 2 + 1) ws.1 ∧ HOK ws.1 ∧ NZ ws.1 ∧ WeekV V (w + 2) ws.2.2 ∧ ws.2.2.1 ≤ ws.1 0 ∧ ws.2.2.2.1 < 5 ^ ws.1 4
def ShC (Z : zP) (G : zG) (V : zV) (col : Nat → Nat) (x s : Nat) (h : SH) : Prop := (h = none → G.2.2.2 (x + 37) s = none ∧ G.2.2.2 (x + 38) s = none) ∧ (∀ q, h = some (.inl q) → ∃ r, G.2.2.2 (x + 37) s = some r ∧ G.2.2.2 (x + 38) s = none ∧ RowAt Z G r q.2.1 ∧ V.1 100 r = nI q.1 ∧ q.1 < 5 ∧ (∀ j, j < q.2.1 → V.2.2.2 (r + 1) j = q.2.2 j) ∧ col r = 2 ∧ col (r + 1) = 2) ∧
  ∀ q, h = some (.inr q) → G.2.2.2 (x + 37) s = none ∧ ∃ p, G.2.2.2 (x + 38) s = some p ∧ RlC Z G V col p q
def PlC (V : zV) (p : Nat) : Prop := ∃ N, HouseV V (p + 1) N ∧ HouseB N ∧ NZ N ∧ (HOK N → PlanT V p N)
def KpC (Z : zP) (G : zG) (V : zV) (col : Nat → Nat) (x : Nat) (K : Option WD) : Prop := (K = none ∧ V.1 352 x = nI 0) ∨ ∃ W, K = some W ∧ V.1 352 x = nI 1 ∧ WdC Z G V col (x + 18) W
def RC (Z : zP) (G : zG) (V : zV) (x : Nat) (col : Nat → Nat) (S : SX) : Prop := STBAt Z G x ∧ x + 142 ≤ G.1 ∧ (∀ a, x ≤ a → a < x + 142 → col a = 1) ∧ (∀ a, G.1 ≤ a → col a = 0) ∧ WdC Z G V col (x + 1) S.1 ∧ KpC Z G V col x S.2.1 ∧ TapeV V (x + 35) S.2.2.1.1 S.2.2.1.2 ∧ (∀ s, s < 8 → ShC Z G V col x s (S.2.2.2.1 s)) ∧ (∀ s s' r, s < 8 → s' < 8 → G.2.2.2 (x + 37) s = some r → G.2.2.2 (x + 37) s' = some r → s = s') ∧ (∀ i, i < 5 → V.2.2.1 (x + 39) i = S.2.2.2.2 i) ∧ (∀ i, i < 6 → PlC V (x + 70 + 12 * i)) ∧ PlC V (x + 41) ∧ PlC V (x + 53)
section RCS
variable {Z : zP} {G G' : zG} {V V' : zV} {col col' : Nat → Nat} {x : Nat} {S S' : SX}
theorem RuleAt.st {q κ b m : Nat} {f : Nat → Bool} (h : RuleAt Z G V q κ b m f) (ht : G.1 ≤ G'.1) (hq : sameG G G' q ∧ same4 V V' q) (hs : ∀ t, κ = 5 → G.2.2.1 153 q = some t → (sameG G G' t ∧ sameG G G' (t + 1) ∧ same4 V V' (t + 1))) : RuleAt Z G' V' q κ b m f := by
  obtain ⟨a, b1, c, d, e, g, k⟩ := h
  refine ⟨a.geo ht hq.1, (hq.2.1 _).trans b1, c, fun z => ⟨(hq.2.1 _).trans (d z).1, (d z).2⟩, fun z => ⟨(hq.2.1 _).trans (e z).1, (e z).2⟩, fun z => ⟨(hq.2.1 _).trans (g z).1, (hq.2.1 _).trans (g z).2.1, (g z).2.2⟩, fun z => ?_⟩
  obtain ⟨t, t1, t2, t3⟩ := k z
  obtain ⟨s1, s2, s3⟩ := hs t z t1
  exact ⟨t, (hq.1.2.1 _).trans t1, ⟨t2.1.geo ht s1, (s1.2.1 _).trans t2.2.1, t2.2.2.1.geo ht s2, t2.2.2.2⟩, fun i hi => by rw [s3.2.2.2]; exact t3 i hi⟩
theorem RlC.st {q : Nat} {r : RX} (h : RlC Z G V col q r) (ht : G.1 ≤ G'.1) (hc : ∀ a, a < G.1 → col' a = col a) (hs : ∀ a, a < G.1 → col a = 3 → sameG G G' a ∧ same4 V V' a) : RlC Z G' V' col' q r := by
  obtain ⟨a, b, c⟩ := h
  have q1 := a.1.2.1
  have sq := hs q q1 b
  have tt : ∀ t, r.1 = 5 → G.2.2.1 153 q = some t → t < G.1 ∧ t + 1 < G.1 := fun t e ht => by
    obtain ⟨t', t1, t2, -⟩ := a.2.2.2.2.2.2 e
    rw [ht] at t1
    cases t1
    exact ⟨t2.1.2.1, t2.2.2.1.2.1⟩
  refine ⟨a.st ht sq fun t e he => ?_, (hc q q1).trans b, fun t e he => ?_⟩
  · obtain ⟨l1, l2⟩ := tt t e he
    obtain ⟨k1, k2⟩ := c t e he
    exact ⟨(hs t l1 k1).1, hs _ l2 k2⟩
  · have he := (sq.1.2.1 153).symm.trans he
    obtain ⟨l1, l2⟩ := tt t e he
    obtain ⟨k1, k2⟩ := c t e he
    exact ⟨(hc _ l1).trans k1, (hc _ l2).trans k2⟩
theorem WdC.st {w : Nat} {W : WD} (h : WdC Z G V col w W) (ht : G.1 ≤ G'.1) (hc : ∀ a, a < G.1 → col' a = col a) (hs : ∀ a, a < G.1 → col a = 3 → sameG G G' a ∧ same4 V V' a) (hw : ∀ a, w ≤ a → a < w + 17 → sameG G G' a ∧ same4 V V' a) : WdC Z G' V' col' w W := by
  obtain ⟨a, b, c, d, e, f⟩ := h
  have s := fun a h1 h2 => (hw a h1 h2).2
  have g := fun a h1 h2 => (hw a h1 h2).1
  refine ⟨((s w (by omega) (by omega)).1 _).trans a, b, fun i hi => ⟨(c i hi).1.same (s _ (by omega) (by omega)), (c i hi).2⟩, ((s w (by omega) (by omega)).1 _).trans d, fun z => ((g (w + 2) (by omega) (by omega)).2.1 _).trans (e z), fun ws hws => ?_⟩
  obtain ⟨q, q1, q2, q3, q4, q5, ⟨m1, m2, m3, m4, m5, m6⟩, q7⟩ := f ws hws
  have sw := (s (w + 2) (by omega) (by omega)).1
  exact ⟨q, ((g (w + 2) (by omega) (by omega)).2.1 _).trans q1, q2.st ht hc hs, q3.same (s _ (by omega) (by omega)), q4, q5, ⟨(sw _).trans m1, (sw _).trans m2, (sw _).trans m3, (sw _).trans m4, (sw _).trans m5, (sw _).trans m6⟩, q7⟩
theorem ShC.st {s : Nat} {sh : SH} (h : ShC Z G V col x s sh) (ht : G.1 ≤ G'.1) (hc : ∀ a, a < G.1 → col' a = col a) (hs : ∀ a, a < G.1 → col a = 3 → sameG G G' a ∧ same4 V V' a) (h7 : G'.2.2.2 (x + 37) s = G.2.2.2 (x + 37) s) (h8 : G'.2.2.2 (x + 38) s = G.2.2.2 (x + 38) s) (hr : ∀ r, G.2.2.2 (x + 37) s = some r → (sameG G G' r ∧ same4 V V' r) ∧ sameG G G' (r + 1) ∧ same4 V V' (r + 1)) : ShC Z G' V' col' x s sh := by
  obtain ⟨a, b, c⟩ := h
  refine ⟨fun e => ⟨h7.trans (a e).1, h8.trans (a e).2⟩, fun q hq => ?_, fun q hq => ?_⟩
  · obtain ⟨r, b1, b2, b3, b4, b5, b6, b7, b8⟩ := b q hq
    obtain ⟨s1, s2⟩ := hr r b1
    exact ⟨r, h7.trans b1, h8.trans b2, ⟨b3.1.geo ht s1.1, (s1.1.2.1 _).trans b3.2.1, b3.2.2.1.geo ht s2.1, b3.2.2.2⟩, (s1.2.1 _).trans b4, b5, fun j hj => (s2.2.2.2.2 j).trans (b6 j hj), (hc _ b3.1.2.1).trans b7, (hc _ b3.2.2.1.2.1).trans b8⟩
  · obtain ⟨c1, p, c2, c3⟩ := c q hq
    exact ⟨h7.trans c1, p, h8.trans c2, c3.st ht hc hs⟩
theorem PlanT.same {p : Nat} {N : Nat → Nat} (h : PlanT V p N) (hs : ∀ a, p ≤ a → a < p + 12 → same4 V V' a) : PlanT V' p N := by
  obtain ⟨a, ⟨K, b⟩, c⟩ := h
  refine ⟨a.same hs, ⟨K, b.same hs⟩, ?_⟩
  rw [(hs p (by omega) (by omega)).1]
  exact c
theorem PlC.st {p : Nat} (h : PlC V p) (hs : ∀ a, p ≤ a → a < p + 12 → same4 V V' a) : PlC V' p := by
  obtain ⟨N, a, b, c, d⟩ := h
  exact ⟨N, a.same (hs _ (by omega) (by omega)), b, c, fun e => (d e).same hs⟩
theorem PlanT.pl {p : Nat} {N : Nat → Nat} (h : PlanT V p N) (zN : NZ N) : PlC V p := ⟨N, h.1.2.1, h.1.1.1, zN, fun _ => h⟩
theorem TapeV.st {t S : Nat} {B : Nat → Nat} (h : TapeV V t B S) (h1 : same4 V V' t) (h2 : same4 V V' (t + 1)) : TapeV V' t B S := ⟨(h1.1 _).trans h.1, fun j hj => (h2.2.2.1 j).trans (h.2.1 j hj), h.2.2⟩
theorem KpC.st {K : Option WD} (h : KpC Z G V col x K) (ht : G.1 ≤ G'.1) (hc : ∀ a, a < G.1 → col' a = col a) (hs : ∀ a, a < G.1 → col a = 3 → sameG G G' a ∧ same4 V V' a) (hf : V'.1 352 x = V.1 352 x) (hw : ∀ a, x + 18 ≤ a → a < x + 18 + 17 → sameG G G' a ∧ same4 V V' a) : KpC Z G' V' col' x K := by
  rcases h with ⟨a, b⟩ | ⟨W, a, b, c⟩
  · exact Or.inl ⟨a, hf.trans b⟩
  · exact Or.inr ⟨W, a, hf.trans b, c.st ht hc hs hw⟩
/-- G stays; what is not touched stays -/
theorem RC.tch {T : Nat → Prop} (h : RC Z G V x col S) (hs : ∀ a, a < G.1 → col a ≠ 0 → ¬ T a → same4 V V' a) (hT3 : ∀ a, T a → col a ≠ 3) (hw : (∀ a, x + 1 ≤ a → a < x + 18 → ¬ T a) ∧ S'.1 = S.1 ∨ WdC Z G V' col (x + 1) S'.1) (hk : (∀ a, x + 18 ≤ a → a < x + 35 → ¬ T a) ∧ V'.1 352 x = V.1 352 x ∧ S'.2.1 = S.2.1 ∨ KpC Z G V' col x S'.2.1) (ht : ¬ T (x + 35) ∧ ¬ T (x + 36) ∧ S'.2.2.1 = S.2.2.1 ∨ TapeV V' (x + 35) S'.2.2.1.1 S'.2.2.1.2) (hsh : (∀ a, col a = 2 → ¬ T a) ∧ S'.2.2.2.1 = S.2.2.2.1 ∨ ∀ s, s < 8 → ShC Z G V' col x s (S'.2.2.2.1 s)) (hr : ¬ T (x + 39) ∧ S'.2.2.2.2 = S.2.2.2.2 ∨ ∀ i, i < 5 → V'.2.2.1 (x + 39) i = S'.2.2.2.2 i) (hp : ∀ i, i < 6 → (∀ a, x + 70 + 12 * i ≤ a → a < x + 70 + 12 * i + 12 → ¬ T a) ∨ PlC V' (x + 70 + 12 * i)) (h41 : (∀ a, x + 41 ≤ a → a < x + 53 → ¬ T a) ∨ PlC V' (x + 41)) (h53 : (∀ a, x + 53 ≤ a → a < x + 65 → ¬ T a) ∨ PlC V' (x + 53)) : RC Z G V' x col S' := by
  obtain ⟨a1, a2, a3, a4, a5, a6, a7, a8, a9, a10, a11, a12, a13⟩ := h
  have hb : ∀ a, x ≤ a → a < x + 142 → ¬ T a → same4 V V' a := fun a h1 h2 h3 => hs a (by omega) (by rw [a3 a h1 h2]; decide) h3
  have h3 : ∀ a, a < G.1 → col a = 3 → sameG G G a ∧ same4 V V' a := fun a h1 h2 => ⟨sameG.refl G a, hs a h1 (by rw [h2]; decide) (fun q => hT3 a q h2)⟩
  refine ⟨a1, a2, a3, a4, ?_, ?_, ?_, ?_, a9, ?_, fun i hi => ?_, ?_, ?_⟩
  · rcases hw with ⟨q1, q2⟩ | q
    · rw [q2]
      exact a5.st (Nat.le_refl _) (fun _ _ => rfl) h3 (fun a h1 h2 => ⟨sameG.refl G a, hb a (by omega) (by omega) (q1 a h1 (by omega))⟩)
    · exact q
  · rcases hk with ⟨q1, q3, q2⟩ | q
    · rw [q2]
      exact a6.st (Nat.le_refl _) (fun _ _ => rfl) h3 q3 (fun a h1 h2 => ⟨sameG.refl G a, hb a (by omega) (by omega) (q1 a h1 (by omega))⟩)
    · exact q
  · rcases ht with ⟨q1, q3, q2⟩ | q
    · rw [q2]
      exact a7.st (hb _ (by omega) (by omega) q1) (hb _ (by omega) (by omega) q3)
    · exact q
  · rcases hsh with ⟨q1, q2⟩ | q
    · rw [q2]
      intro s hs8
      refine (a8 s hs8).st (Nat.le_refl _) (fun _ _ => rfl) h3 rfl rfl fun r hr => ?_
      have e : ∃ q, S.2.2.2.1 s = some (.inl q) := by
        match e : S.2.2.2.1 s with
        | none => rw [((a8 s hs8).1 e).1] at hr; cases hr
        | some (.inl q) => exact ⟨q, rfl⟩
        | some (.inr q) => rw [((a8 s hs8).2.2 q e).1] at hr; cases hr
      obtain ⟨q, e⟩ := e
      obtain ⟨r', b1, -, b3, -, -, -, b7, b8⟩ := (a8 s hs8).2.1 q e
      rw [hr] at b1
      cases b1
      exact ⟨⟨sameG.refl G r, hs r b3.1.2.1 (by rw [b7]; decide) (q1 r b7)⟩, sameG.refl G _, hs _ b3.2.2.1.2.1 (by rw [b8]; decide) (q1 _ b8)⟩
    · exact q
  · rcases hr with ⟨q1, q2⟩ | q
    · rw [q2]
      exact fun i hi => ((hb (x + 39) (by omega) (by omega) q1).2.2.1 i).trans (a10 i hi)
    · exact q
  · rcases hp i hi with q | q
    · exact (a11 i hi).st fun a h1 h2 => hb a (by omega) (by omega) (q a h1 h2)
    · exact q
  · rcases h41 with q | q
    · exact a12.st fun a h1 h2 => hb a (by omega) (by omega) (q a h1 (by omega))
    · exact q
  · rcases h53 with q | q
    · exact a13.st fun a h1 h2 => hb a (by omega) (by omega) (q a h1 (by omega))
    · exact q
def rfC (V : zV) (x i : Nat) : zV := sAI V (x + 39) i (V.2.2.1 (x + 39) i + nI 1)
theorem RC.ref (h : RC Z G V x col S) {i : Nat} (hi : i < 5) : RC Z G (rfC V x i) x col (refX S i) := by
  have h1 := h.2.2.1
  refine h.tch (T := fun a => a = x + 39) (fun a _ _ ha => (same4.refl V a).sAI ha) (fun a ha => by rw [ha, h1 _ (by omega) (by omega)]; decide) (Or.inl ⟨fun a _ _ => by omega, rfl⟩) (Or.inl ⟨fun a _ _ => by omega, rfl, rfl⟩) (Or.inl ⟨by omega, by omega, rfl⟩) (Or.inl ⟨fun a ha e => (by rw [e, h1 _ (by omega) (by omega)] at ha; cases ha), rfl⟩) (Or.inr fun k hk => ?_) (fun i hi => Or.inl fun a _ _ => by omega) (Or.inl fun a _ _ => by omega) (Or.inl fun a _ _ => by omega)
  have e := h.2.2.2.2.2.2.2.2.2.1
  show (sAI V (x + 39) i _).2.2.1 (x + 39) k = (if k = i then S.2.2.2.2 i + nI 1 else S.2.2.2.2 k)
  by_cases q : k = i
  · subst q
    rw [sAI_eq, if_pos rfl, e k hk]
  · rw [sAI_nj q, if_neg q, e k hk]
/-- reached from V with S as it was, what is not its own as it was -/
def RO (Z : zP) (G : zG) (V : zV) (x : Nat) (col : Nat → Nat) (S : SX) (V' : zV) : Prop := RC Z G V' x col S ∧ ∀ a, col a = 0 → same4 V V' a
theorem RO.refl (h : RC Z G V x col S) : RO Z G V x col S V := ⟨h, fun a _ => same4.refl V a⟩
theorem RO.pl {V2 V3 : zV} (h : RO Z G V x col S V2) {p : Nat} (hp : (∃ i, i < 6 ∧ p = x + 70 + 12 * i) ∨ p = x + 41 ∨ p = x + 53) (hs : SameB V2 V3 p (p + 12)) (hP : PlC V3 p) : RO Z G V x col S V3 := by
  have h1 := h.1.2.2.1
  have inb : ∀ a, p ≤ a → a < p + 12 → x ≤ a ∧ a < x + 142 ∧ col a = 1 := fun a a1 a2 => by
    have : x ≤ a ∧ a < x + 142 := by
      rcases hp with ⟨i, hi, e⟩ | e | e <;> omega
    exact ⟨this.1, this.2, h1 a this.1 this.2⟩
  refine ⟨h.1.tch (T := fun a => p ≤ a ∧ a < p + 12) (fun a _ _ ha => hs a (by omega)) (fun a ha => by rw [(inb a ha.1 ha.2).2.2]; decide) (Or.inl ⟨fun a _ _ => ?_, rfl⟩) (Or.inl ⟨fun a _ _ => ?_, ?_, rfl⟩) (Or.inl ⟨?_, ?_, rfl⟩) (Or.inl ⟨fun a ha e => (by rw [(inb a e.1 e.2).2.2] at ha; cases ha), rfl⟩) (Or.inl ⟨?_, rfl⟩) (fun k hk => ?_) ?_ ?_, fun a ha => (h.2 a ha).trans (hs a ?_)⟩
  · rcases hp with ⟨i, hi, e⟩ | e | e <;> omega
  · rcases hp with ⟨i, hi, e⟩ | e | e <;> omega
  · exact (hs x (by rcases hp with ⟨i, hi, e⟩ | e | e <;> omega)).1 352
  · rcases hp with ⟨i, hi, e⟩ | e | e <;> omega
  · rcases hp with ⟨i, hi, e⟩ | e | e <;> omega
  · rcases hp with ⟨i, hi, e⟩ | e | e <;> omega
  · by_cases q : p = x + 70 + 12 * k
    · exact Or.inr (q ▸ hP)
    · refine Or.inl fun a _ _ => ?_
      rcases hp with ⟨i, hi, e⟩ | e | e <;> omega
  · by_cases q : p = x + 41
    · exact Or.inr (q ▸ hP)
    · refine Or.inl fun a _ _ => ?_
      rcases hp with ⟨i, hi, e⟩ | e | e <;> omega
  · by_cases q : p = x + 53
    · exact Or.inr (q ▸ hP)
    · refine Or.inl fun a _ _ => ?_
      rcases hp with ⟨i, hi, e⟩ | e | e <;> omega
  · by_cases q : p ≤ a ∧ a < p + 12
    · rw [(inb a q.1 q.2).2.2] at ha; cases ha
    · omega
/-- what a call of the class leaves -/
def pCI (Z : zP) (G : zG) (V : zV) (x : Nat) (col : Nat → Nat) (A : Int32 × SX) : Option Value → zG → zV → Prop := fun r G' V' => r = some (.int A.1) ∧ G.1 ≤ G'.1 ∧ (∃ col', (∀ a, a < G.1 → col' a = col a) ∧ RC Z G' V' x col' A.2) ∧ ∀ a, a < G.1 → col a = 0 → sameG G G' a ∧ same4 V V' a
def pCJ (Z : zP) (G : zG) (V : zV) (x : Nat) (col : Nat → Nat) (A : Int64 × SX) : Option Value → zG → zV → Prop := fun r G' V' => r = some (.long A.1) ∧ G.1 ≤ G'.1 ∧ (∃ col', (∀ a, a < G.1 → col' a = col a) ∧ RC Z G' V' x col' A.2) ∧ ∀ a, a < G.1 → col a = 0 → sameG G G' a ∧ same4 V V' a
theorem pCI.m {A : Int32 × SX} {v : Int32} (hA : A = (v, S')) (h : RC Z G V' x col S') (o : ∀ a, col a = 0 → same4 V V' a) : pCI Z G V x col A (some (.int v)) G V' := by subst hA; exact ⟨rfl, Nat.le_refl _, ⟨col, fun _ _ => rfl, h⟩, fun a _ ha => ⟨sameG.refl G a, o a ha⟩⟩
theorem pCI.q {A : Int32 × SX} {v : Int32} (h : RO Z G V x col S V') (hA : A = (v, S)) : pCI Z G V x col A (some (.int v)) G V' := pCI.m hA h.1 h.2
theorem pCJ.q {A : Int64 × SX} {v : Int64} (h : RO Z G V x col S V') (hA : A = (v, S)) : pCJ Z G V x col A (some (.long v)) G V' := by subst hA; exact ⟨rfl, Nat.le_refl _, ⟨col, fun _ _ => rfl, h.1⟩, fun a _ ha => ⟨sameG.refl G a, h.2 a ha⟩⟩
theorem rfC_o (h : RC Z G V x col S) {i a : Nat} (ha : col a = 0) : same4 V (rfC V x i) a := (same4.refl V a).sAI (fun e => by rw [e, h.2.2.1 _ (by omega) (by omega)] at ha; cases ha)
theorem pCI.r {A : Int32 × SX} {v : Int32} {i : Nat} (h : RO Z G V x col S V') (hi : i < 5) (hA : A = (v, refX S i)) : pCI Z G V x col A (some (.int v)) G (rfC V' x i) := pCI.m hA (h.1.ref hi) (fun a ha => (h.2 a ha).trans (rfC_o h.1 ha))
theorem pCJ.r {A : Int64 × SX} {v : Int64} {i : Nat} (h : RO Z G V x col S V') (hi : i < 5) (hA : A = (v, refX S i)) : pCJ Z G V x col A (some (.long v)) G (rfC V' x i) := by subst hA; exact ⟨rfl, Nat.le_refl _, ⟨col, fun _ _ => rfl, h.1.ref hi⟩, fun a _ ha => ⟨sameG.refl G a, (h.2 a ha).trans (rfC_o h.1 ha)⟩⟩
theorem PlanT.px {p L : Nat} {N : Nat → Nat} (h : PlanT V p N) (hx : PX V p N L V') : PlanT V' p N ∧ SameB V V' p (p + 12) := by
  obtain ⟨K, -, a, b, c, d⟩ := hx
  exact ⟨⟨a, ⟨K, b⟩, by rw [c]; exact h.2.2⟩, d⟩
theorem PlanT.pw {p K : Nat} {N : Nat → Nat} (h : PlanT V p N) (hx : PW V V' p N K) : PlanT V' p N ∧ SameB V V' p (p + 12) := by
  obtain ⟨a, b, c, d⟩ := hx
  exact ⟨⟨a, ⟨K, b⟩, by rw [c]; exact h.2.2⟩, d⟩
end RCS
