/-! THE LAW: what goes on from call to call -/
section LW
variable {Z : zP} {G G' : zG} {V V' : zV} {x y : Nat} {col col' : Nat → Nat} {zk : Option Nat} {S : SX}
theorem RC.keep (h : RC Z G V x col S) (ht : G.1 ≤ G'.1) (hs : ∀ a, a < G.1 → col a ≠ 0 → sameG G G' a ∧ same4 V V' a) : RC Z G' V' x col S := by
  have tp := h.2.1
  exact h.tg (S' := S) (T := fun _ => False) ⟨ht, fun a p q => by
    have z := (hs a (by omega) (by rw [h.2.2.1 a p q]; decide)).1
    exact ⟨z.1, fun f _ => z.2.1 f, fun _ _ _ _ _ => z⟩⟩ (fun _ _ => rfl) (fun a ha => h.2.2.2.1 a (Nat.le_trans ht ha)) (fun a h1 h2 _ => hs a h1 h2) (fun _ q => q.elim) (Or.inl ⟨fun _ _ _ q => q, rfl⟩) (Or.inl ⟨fun _ _ _ q => q, fun q => q, rfl⟩) (Or.inl ⟨fun q => q, fun q => q, rfl⟩) (Or.inl ⟨fun q => q, fun q => q, fun _ _ q => q, rfl⟩) (Or.inl ⟨fun q => q, rfl⟩) (fun _ _ => Or.inl fun _ _ _ q => q) (Or.inl fun _ _ _ q => q) (Or.inl fun _ _ _ q => q)
theorem RM.keep (h : RM Z G V y zk S) (ht : G.1 ≤ G'.1) (hs : ∀ a, y ≤ a → a < y + 94 → sameG G G' a ∧ same4 V V' a) (hz : ∀ z, zk = some z → ∀ a, z ≤ a → a < z + 94 → sameG G G' a ∧ same4 V V' a) : RM Z G' V' y zk S := by
  have yt := h.2.1
  have g := fun a h1 h2 => (hs a h1 h2).1
  have s := fun a h1 h2 => (hs a h1 h2).2
  refine ⟨h.1.geo ht (fun a h1 h2 => ⟨(g a h1 h2).1, fun f _ => (g a h1 h2).2.1 f, (g a h1 h2).2.2⟩), by omega, h.2.2.1.same s, fun w hw => (h.2.2.2.1 w hw).st ((s _ (by omega) (by omega)).2.2.1 w) ((s _ (by omega) (by omega)).2.2.1 w) ((s _ (by omega) (by omega)).2.2.1 w) (fun j => (s _ (by omega) (by omega)).2.2.2 j) ((s _ (by omega) (by omega)).2.2.1 w) ((s _ (by omega) (by omega)).2.2.1 w) (fun j => (s _ (by omega) (by omega)).2.2.1 j) ((s _ (by omega) (by omega)).2.2.1 w), ?_, fun i hi => ((s _ (by omega) (by omega)).2.2.1 _).trans (h.2.2.2.2.2.1 i hi), ((s y (by omega) (by omega)).1 439).trans h.2.2.2.2.2.2.1, fun e => ⟨((g y (by omega) (by omega)).2.1 421).trans (h.2.2.2.2.2.2.2.1 e).1, (h.2.2.2.2.2.2.2.1 e).2⟩, fun z hz' => ?_⟩
  · obtain ⟨t1, t2, t3, t4⟩ := h.2.2.2.2.1
    exact ⟨((s y (by omega) (by omega)).1 409).trans t1, fun j hj => ((s _ (by omega) (by omega)).2.2.1 j).trans (t2 j hj), t3, t4⟩
  · obtain ⟨a, b, c, d, W, e, f⟩ := h.2.2.2.2.2.2.2.2 z hz'
    have gz := fun a h1 h2 => (hz z hz' a h1 h2).1
    exact ⟨((g y (by omega) (by omega)).2.1 421).trans a, b.geo ht (fun a h1 h2 => ⟨(gz a h1 h2).1, fun f _ => (gz a h1 h2).2.1 f, (gz a h1 h2).2.2⟩), by omega, d, W, e, f.same fun a h1 h2 => (hz z hz' a h1 h2).2⟩
/-- the blocks of the reference -/
def MB (col : Nat → Nat) (y : Nat) (zk : Option Nat) : Prop := (∀ a, y ≤ a → a < y + 94 → col a = 0) ∧ ∀ z, zk = some z → ∀ a, z ≤ a → a < z + 94 → col a = 0
/-- both sides know the same -/
def LI (Z : zP) (G : zG) (V : zV) (x y : Nat) : Prop := ∃ (col : Nat → Nat) (zk : Option Nat) (S : SX), RC Z G V x col S ∧ RM Z G V y zk S ∧ MB col y zk
/-- the class has answered -/
theorem LI.cx (hM : RM Z G V y zk S) (hB : MB col y zk) (ht : G.1 ≤ G'.1) (hc : ∀ a, a < G.1 → col' a = col a) (ho : ∀ a, a < G.1 → col a = 0 → sameG G G' a ∧ same4 V V' a) : RM Z G' V' y zk S ∧ MB col' y zk := by
  have yt := hM.2.1
  have zt : ∀ z, zk = some z → z + 94 ≤ G.1 := fun z hz => (hM.2.2.2.2.2.2.2.2 z hz).2.2.1
  exact ⟨hM.keep ht (fun a h1 h2 => ho a (by omega) (hB.1 a h1 h2)) (fun z hz a h1 h2 => ho a (by have := zt z hz; omega) (hB.2 z hz a h1 h2)), fun a h1 h2 => (hc a (by omega)).trans (hB.1 a h1 h2), fun z hz a h1 h2 => (hc a (by have := zt z hz; omega)).trans (hB.2 z hz a h1 h2)⟩
/-- the reference has answered -/
theorem LI.my (hC : RC Z G V x col S) (hB : MB col y zk) (hs : ∀ a, a < y ∨ y + 94 ≤ a → same4 V V' a) : RC Z G V' x col S := hC.keep (Nat.le_refl _) fun a _ h2 => ⟨sameG.refl G a, hs a (by
  by_cases q : y ≤ a ∧ a < y + 94
  · exact absurd (hB.1 a q.1 q.2) h2
  · omega)⟩
theorem LI.mx {zk' : Option Nat} (hC : RC Z G V x col S) (hB : MB col y zk) (ht : G.1 ≤ G'.1) (hk : ∀ z, zk' = some z → zk = some z ∨ z = G.1) (hs : ∀ a, a < G.1 → (a < y ∨ y + 94 ≤ a) → (∀ z, zk = some z → a < z ∨ z + 94 ≤ a) → sameG G G' a ∧ same4 V V' a) : RC Z G' V' x col S ∧ MB col y zk' := by
  refine ⟨hC.keep ht fun a h1 h2 => hs a h1 ?_ fun z hz => ?_, hB.1, fun z hz a h1 h2 => ?_⟩
  · by_cases q : y ≤ a ∧ a < y + 94
    · exact absurd (hB.1 a q.1 q.2) h2
    · omega
  · by_cases q : z ≤ a ∧ a < z + 94
    · exact absurd (hB.2 z hz a q.1 q.2) h2
    · omega
  · rcases hk z hz with e | e
    · exact hB.2 z e a h1 h2
    · exact hC.2.2.2.1 a (by omega)
end LW
/-! what stands at the start -/
def S0 : SX := ((0, fun _ _ => 0, 1, none), none, (fun _ => 0, 0), fun _ => none, fun _ => 0)
def G0 (n : Nat) : zG := (n, fun _ => (0, 0), fun _ _ => none, fun _ _ => none)
def V0 : zV := (fun _ _ => 0, fun _ _ => 0, fun _ _ => 0, fun _ _ => 0)
theorem plI_f {V : zV} {p f a : Nat} (h1 : f ≠ 63) (h2 : f ≠ 64) : (plI V p).1 f a = V.1 f a := (sI_ne h2).trans (sI_ne h1)
theorem plN_f {V : zV} {x f a : Nat} (h1 : f ≠ 63) (h2 : f ≠ 64) : ∀ i, (plN V x i).1 f a = (sI (sI V 302 (x + 1) (nI 1)) 302 (x + 18) (nI 1)).1 f a
  | 0 => (plI_f h1 h2).trans (plI_f h1 h2)
  | i + 1 => (plI_f h1 h2).trans (plN_f h1 h2 i)
theorem plN_2 {V : zV} {x : Nat} : ∀ i, (plN V x i).2 = V.2
  | 0 => rfl
  | i + 1 => plN_2 i
theorem MemOK.zero {Z : zP} {H : Heap} (h1 : Z.1 = H.size) (h2 : Z.2.2.2.1 = H) : MemOK Z (G0 Z.1) V0 H := ⟨h1.symm, Nat.le_refl _, fun a h3 h4 => absurd h4 (Nat.not_lt.mpr h3), fun a f _ => ⟨rfl, rfl, rfl, rfl, rfl, rfl⟩, fun a _ => by rw [h2]⟩
section IN
variable {Z : zP} {G : zG} {V : zV} {x y n : Nat}
theorem RC.zero (hQ : STBAt Z G x) (ht : G.1 = x + 142) (hN : gN (G0 n) G (fun a => a = x + 2 ∨ a = x + 19 ∨ a = x + 40)) : RC Z G (plN V0 x 6) x (fun a => if x ≤ a ∧ a < x + 142 then 1 else 0) S0 := by
  have e2 : (plN V0 x 6).2 = V0.2 := plN_2 6
  have z1 : ∀ f a, f ≠ 63 → f ≠ 64 → f ≠ 302 → (plN V0 x 6).1 f a = 0 := fun f a h1 h2 h3 => (plN_f h1 h2 6).trans ((sI_ne h3).trans (sI_ne h3))
  have za : ∀ a j, (plN V0 x 6).2.2.1 a j = 0 := fun a j => by rw [e2]; rfl
  have pl : ∀ p, PlC (plN V0 x 6) p := fun p => ⟨fun _ => 0, fun j _ => za _ j, ⟨by decide, fun j _ => Nat.zero_le _⟩, fun j _ => rfl, fun h => absurd h.2.1.1 (by decide)⟩
  have r7 : ∀ s, G.2.2.2 (x + 37) s = none := fun s => hN.2 _ s (by omega)
  have r8 : ∀ s, G.2.2.2 (x + 38) s = none := fun s => hN.2 _ s (by omega)
  refine ⟨hQ, by omega, fun a h1 h2 => if_pos ⟨h1, h2⟩, fun a h => if_neg (by omega), ⟨z1 _ _ (by decide) (by decide) (by decide), by decide, fun i hi => absurd hi (Nat.not_lt_zero _), ?_, fun _ => (hN.1 _).1, fun ws h => (by cases h)⟩, Or.inl ⟨rfl, z1 _ _ (by decide) (by decide) (by decide)⟩, ⟨z1 _ _ (by decide) (by decide) (by decide), fun j _ => (za _ j).trans (show (0 : Int32) = sb 0 by decide), Nat.zero_le _, fun j => by show 0 < 256; decide⟩, fun s _ => ⟨fun _ => ⟨r7 s, r8 s⟩, fun q h => (by cases h), fun q h => (by cases h)⟩, fun s s' r _ _ h => (by rw [r7 s] at h; cases h), fun i _ => za _ i, fun i _ => pl _, pl _, pl _⟩
  exact (plN_f (by decide) (by decide) 6).trans ((sI_na (by omega)).trans sI_eq)
theorem RM.zero (hM : ModelAt Z G y) (ht : G.1 = y + 94) (hy : x + 142 = y) (h4 : G.2.2.1 421 y = none) : RM Z G (sI (sI (plN V0 x 6) 413 y (nI 1)) 439 y (-1)) y none S0 := by
  have e2 : (plN V0 x 6).2 = V0.2 := plN_2 6
  have z1 : ∀ f, f ≠ 413 → f ≠ 439 → f ≠ 63 → f ≠ 64 → f ≠ 302 → (sI (sI (plN V0 x 6) 413 y (nI 1)) 439 y (-1)).1 f y = 0 := fun f h1 h2 h3 h4 h5 => (sI_ne h2).trans ((sI_ne h1).trans ((plN_f h3 h4 6).trans ((sI_ne h5).trans (sI_ne h5))))
  have za : ∀ a j, (sI (sI (plN V0 x 6) 413 y (nI 1)) 439 y (-1)).2.2.1 a j = 0 := fun a j => by show (plN V0 x 6).2.2.1 a j = 0; rw [e2]; rfl
  refine ⟨hM, by omega, ⟨z1 _ (by decide) (by decide) (by decide) (by decide) (by decide), by decide, fun i hi => absurd hi (Nat.not_lt_zero _), (sI_ne (by decide)).trans sI_eq, fun _ => z1 _ (by decide) (by decide) (by decide) (by decide) (by decide), fun ws h => (by cases h)⟩, fun s _ => ⟨fun _ => za _ s, fun q h => (by cases h), fun q h => (by cases h)⟩, ⟨z1 _ (by decide) (by decide) (by decide) (by decide) (by decide), fun j _ => za _ j, Nat.zero_le _, fun j => by show 0 < 256; decide⟩, fun i _ => za _ _, sI_eq, fun _ => ⟨h4, rfl⟩, fun z h => (by cases h)⟩
end IN
