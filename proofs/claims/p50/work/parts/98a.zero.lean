/-! what stands at the start -/
def S0 : SX := ((0, fun _ _ => 0, 1, none), none, (fun _ => 0, 0), fun _ => none, fun _ => 0)
def G0 (n : Nat) : zG := (n, fun _ => (0, 0), fun _ _ => none, fun _ _ => none)
def V0 : zV := (fun _ _ => 0, fun _ _ => 0, fun _ _ => 0, fun _ _ => 0)
theorem plI_f {V : zV} {p f a : Nat} (h1 : f ≠ 63) (h2 : f ≠ 64) : (plI V p).1 f a = V.1 f a := (sI_ne h2).trans (sI_ne h1)
theorem plN_f {V : zV} {x f a : Nat} (h1 : f ≠ 63) (h2 : f ≠ 64) : ∀ i, (plN V x i).1 f a = (sI (sI V 302 (x + 1) (nI 1)) 302 (x + 18) (nI 1)).1 f a
  | 0 => (plI_f h1 h2).trans (plI_f h1 h2)
  | i + 1 => (plI_f h1 h2).trans (plN_f h1 h2 i)
theorem plN_2 {V : zV} {x : Nat} : ∀ i, (plN V x i).2 = V.2
  | 0 => rfl
  | i + 1 => plN_2 i
theorem MemOK.zero {Z : zP} {H : Heap} (h1 : Z.1 = H.size) (h2 : Z.2.2.2.1 = H) : MemOK Z (G0 Z.1) V0 H := ⟨h1.symm, Nat.le_refl _, fun a h3 h4 => absurd h4 (Nat.not_lt.mpr h3), fun a f _ => ⟨rfl, rfl, rfl, rfl, rfl, rfl⟩, fun a _ => by rw [h2]⟩
section IN
variable {Z : zP} {G : zG} {V : zV} {x y n : Nat}
theorem RC.zero (hQ : STBAt Z G x) (ht : G.1 = x + 142) (hN : gN (G0 n) G (fun a => a = x + 2 ∨ a = x + 19 ∨ a = x + 40)) : RC Z G (plN V0 x 6) x (fun a => if x ≤ a ∧ a < x + 142 then 1 else 0) S0 := by
  have e2 : (plN V0 x 6).2 = V0.2 := plN_2 6
  have z1 : ∀ f a, f ≠ 63 → f ≠ 64 → f ≠ 302 → (plN V0 x 6).1 f a = 0 := fun f a h1 h2 h3 => (plN_f h1 h2 6).trans ((sI_ne h3).trans (sI_ne h3))
  have za : ∀ a j, (plN V0 x 6).2.2.1 a j = 0 := fun a j => by rw [e2]; rfl
  have pl : ∀ p, PlC (plN V0 x 6) p := fun p => ⟨fun _ => 0, fun j _ => za _ j, ⟨by decide, fun j _ => Nat.zero_le _⟩, fun j _ => rfl, fun h => absurd h.2.1.1 (by decide)⟩
  have r7 : ∀ s, G.2.2.2 (x + 37) s = none := fun s => hN.2 _ s (by omega)
  have r8 : ∀ s, G.2.2.2 (x + 38) s = none := fun s => hN.2 _ s (by omega)
  refine ⟨hQ, by omega, fun a h1 h2 => if_pos ⟨h1, h2⟩, fun a h => if_neg (by omega), ⟨z1 _ _ (by decide) (by decide) (by decide), by decide, fun i hi => absurd hi (Nat.not_lt_zero _), ?_, fun _ => (hN.1 _).1, fun ws h => (by cases h)⟩, Or.inl ⟨rfl, z1 _ _ (by decide) (by decide) (by decide)⟩, ⟨z1 _ _ (by decide) (by decide) (by decide), fun j _ => (za _ j).trans (show (0 : Int32) = sb 0 by decide), Nat.zero_le _, fun j => by show 0 < 256; decide⟩, fun s _ => ⟨fun _ => ⟨r7 s, r8 s⟩, fun q h => (by cases h), fun q h => (by cases h)⟩, fun s s' r _ _ h => (by rw [r7 s] at h; cases h), fun i _ => za _ i, fun i _ => pl _, pl _, pl _⟩
  exact (plN_f (by decide) (by decide) 6).trans ((sI_na (by omega)).trans sI_eq)
end IN
theorem lwT_0 : lwT S0 := ⟨rfl, fun i hi => absurd hi (Nat.not_lt_zero _), fun W h => by cases h⟩
theorem rf2 {S : SX} : rfS (refX (refX S 0) 0) 5 = rfS S 5 + nI 2 := by
  have e1 : rfS (refX (refX S 0) 0) 5 = rfS (refX S 0) 5 + nI 1 := rfS_ref 4
  have e2 : rfS (refX S 0) 5 = rfS S 5 + nI 1 := rfS_ref 4
  rw [e1, e2, Int32.add_assoc]
  rfl
section KP
variable {Z : zP} {X : xP} {k n : Nat} {Q : State → Prop} {pc : Nat} {lw : List (Nat × Option Value)} {rest : List Value} {nL x : Nat}
theorem kP {v : Value} {R : SX → Prop} (h : ∀ G' V' col' S', RC Z G' V' x col' S' → R S' → Wm Z X nL G' V' k n Q pc lw (v :: rest)) : ∀ (r : Option Value) (G' : zG) (V' : zV), pS Z x (fun r S' => r = some v ∧ R S') r G' V' → Wm Z X nL G' V' k n Q pc lw (r.toList ++ rest) := by
  rintro r G' V' ⟨col', S', hR, rfl, hP⟩
  exact h G' V' col' S' hR hP
end KP
