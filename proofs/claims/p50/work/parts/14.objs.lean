section XO
variable {Z : zP} {X : xP} {nL : Nat} {G : zG} {V : zV} {k n : Nat} {Q : State → Prop} {pc : Nat} {lw : List (Nat × Option Value)} {st : List Value} {own nm : String} {cc : ByteArray} {ret : Option FieldType} {D mc ms : Nat}
theorem x_newI {m : Nat} (cx : Cx Z X own nm cc nL ret D mc ms) (d : decode cc pc = .ok (.newarray .int, 2)) (hm : m < 65536) (kk : Wm Z X nL (nG G (9 + 1) m) V (k + 1) (n + m) Q (pc + 2) lw (.ref G.1 :: st)) (hk : k + 1 ≤ mc := by first | exact Nat.le_of_ble_eq_true rfl | omega) (hn : n + m ≤ ms := by first | exact Nat.le_of_ble_eq_true rfl | omega) : Wm Z X nL G V k n Q pc lw (.int (nI m) :: st) :=
  x_newarray (at' := .int) (t := 1) rfl (by decide) (by decide) rfl (fun U h => h) ka_int cx d hm hk hn kk
theorem x_newJ {m : Nat} (cx : Cx Z X own nm cc nL ret D mc ms) (d : decode cc pc = .ok (.newarray .long, 2)) (hm : m < 65536) (kk : Wm Z X nL (nG G (9 + 2) m) V (k + 1) (n + m) Q (pc + 2) lw (.ref G.1 :: st)) (hk : k + 1 ≤ mc := by first | exact Nat.le_of_ble_eq_true rfl | omega) (hn : n + m ≤ ms := by first | exact Nat.le_of_ble_eq_true rfl | omega) : Wm Z X nL G V k n Q pc lw (.int (nI m) :: st) :=
  x_newarray (at' := .long) (t := 2) rfl (by decide) (by decide) rfl (fun U h => h) ka_long cx d hm hk hn kk
theorem x_newB {m : Nat} (cx : Cx Z X own nm cc nL ret D mc ms) (d : decode cc pc = .ok (.newarray .byte, 2)) (hm : m < 65536) (kk : Wm Z X nL (nG G (9 + 0) m) V (k + 1) (n + m) Q (pc + 2) lw (.ref G.1 :: st)) (hk : k + 1 ≤ mc := by first | exact Nat.le_of_ble_eq_true rfl | omega) (hn : n + m ≤ ms := by first | exact Nat.le_of_ble_eq_true rfl | omega) : Wm Z X nL G V k n Q pc lw (.int (nI m) :: st) :=
  x_newarray (at' := .byte) (t := 0) rfl (by decide) (by decide) rfl (fun U h => h) ka_byte cx d hm hk hn kk
theorem x_mmin {idx : Nat} {x y : Int32} (w : cW own idx yJ9_min_7cf53 cJ9_min_7cf53 2 (some .int) 2) (cx : Cx Z X own nm cc nL ret D mc ms) (d : decode cc pc = .ok (.invokestatic idx, 3)) (kk : Wm Z X nL G V k n Q (pc + 3) lw (.int (if y < x then y else x) :: st)) (hD : 1 ≤ D := by decide) (hk : k ≤ mc := by first | exact Nat.le_of_ble_eq_true rfl | omega) (hn : n ≤ ms := by first | exact Nat.le_of_ble_eq_true rfl | omega) (hr : (st.map fun v => v.category).sum ≤ 8 := by exact Nat.le_of_ble_eq_true rfl) : Wm Z X nL G V k n Q pc lw (.int y :: .int x :: st) := by
  intro H locs ls hM hS hl
  have c1 := cx.2.2.2.2.2.2.2.2.2.1
  have c2 := cx.2.2.2.2.2.2.2.2.2.2.1
  have c3 := cx.2.2.2.2.2.2.2.2.2.2.2.1
  have c4 := cx.2.2.2.2.2.2.2.2.2.2.2.2.1
  have hts := cx.2.2.2.2.1
  exact va_mmin cx.1 cx.2.1 (by rw [cx.2.2.1]; exact hl.1.symm) cx.2.2.2.1 (hts _ w.1) (hts _ ys_J9_min_7cf53) (hts _ w.2.2.1) (hts _ w.2.1) (by omega) (by omega) (by omega) (by omega) d (kk H locs ls hM hS hl)
end XO
/-! HOUSES -/
def HouseAt (Z : zP) (G : zG) (h : Nat) : Prop := isK Z G h 0 ∧ G.2.2.1 0 h = some (h + 1) ∧ isA Z G (h + 1) 1 20
/-- the house's numbers -/
def HouseV (V : zV) (h : Nat) (N : Nat → Nat) : Prop := ∀ j, j < 20 → V.2.2.1 (h + 1) j = nI (N j)
def HouseB (N : Nat → Nat) : Prop := N 4 ≤ 3 ∧ ∀ j, j < 20 → N j ≤ 99
theorem rfA {G : zG} {f a b : Nat} (h : G.2.2.1 f a = some b) : va_rf (G.2.2.1 f a) = .ref b := by rw [h]; rfl
theorem nI20 {j : Nat} (h : j ≤ 99) : j < 2 ^ 31 := by omega
theorem HouseV.rAI {V : zV} {h : Nat} {g : Nat → Int32} {M : Nat → Nat} (hg : ∀ j, j < 20 → g j = nI (M j)) : HouseV (rAI V (h + 1) 0 20 g) h M := fun j hj => (rw2_in0 hj).trans (hg j hj)
/-- one number more becomes v -/
def numP (N : Nat → Nat) (i v : Nat) : Nat → Nat := fun j => if j = i then v else N j
theorem HouseV.put {V : zV} {h i v : Nat} {N : Nat → Nat} (hV : HouseV V h N) : HouseV (sAI V (h + 1) i (nI v)) h (numP N i v) := by
  intro j hj
  show u2 V.2.2.1 (h + 1) i (nI v) (h + 1) j = _
  unfold numP
  by_cases e : j = i
  · subst e
    rw [u2_same, if_pos rfl]
  · rw [u2_snd _ _ e, if_neg e]
    exact hV j hj
/-- the sum over the sorts of what stands, by one of a sort's numbers -/
def sumP (N : Nat → Nat) (s w : Nat) : Nat := sumN (N 4) (fun k => dig s k * N (5 + 5 * k + w))
theorem sumP_lt {N : Nat → Nat} (hB : HouseB N) {s w : Nat} (hw : w < 5) : sumP N s w ≤ 1188 := by
  have h := sumN_le (n := N 4) (M := 4 * 99) (f := fun k => dig s k * N (5 + 5 * k + w)) (fun i hi => Nat.mul_le_mul (by have := dig_lt s i; omega) (hB.2 _ (by have := hB.1; omega)))
  have h3 := hB.1
  have : N 4 * (4 * 99) ≤ 3 * (4 * 99) := Nat.mul_le_mul_right _ h3
  unfold sumP
  omega
/-- filling: what room is left, and what is put in -/
def fillStep (N : Nat → Nat) (s hold k : Nat) (p : Nat × Nat) : Nat × Nat := if N (5 + 5 * k + 2) = hold ∧ 0 < N (5 + 5 * k + 0) then (p.1 - min (dig s k) (p.1 / N (5 + 5 * k + 0)) * N (5 + 5 * k + 0), p.2 + min (dig s k) (p.1 / N (5 + 5 * k + 0)) * 5 ^ k) else p
def fillIn (N : Nat → Nat) (s hold : Nat) : Nat → Nat × Nat → Nat × Nat
  | 0, p => p
  | k + 1, p => fillStep N s hold k (fillIn N s hold k p)
def fillOut (N : Nat → Nat) (s : Nat) : Nat → Nat × Nat
  | 0 => (N 2, 0)
  | c + 1 => fillIn N s (9 - c) (N 4) (fillOut N s c)
def fillP (N : Nat → Nat) (s : Nat) : Nat := (fillOut N s 10).2
theorem fillStep_le {N : Nat → Nat} {s hold k : Nat} (hk : k < 3) {p : Nat × Nat} : (fillStep N s hold k p).1 ≤ p.1 ∧ (fillStep N s hold k p).2 ≤ p.2 + 100 := by
  unfold fillStep
  split
  · refine ⟨Nat.sub_le _ _, ?_⟩
    have h1 : min (dig s k) (p.1 / N (5 + 5 * k + 0)) ≤ 4 := by have := dig_lt s k; omega
    have h2 : 5 ^ k ≤ 25 := by
      rcases (show k = 0 ∨ k = 1 ∨ k = 2 by omega) with rfl | rfl | rfl <;> decide
    have := Nat.mul_le_mul h1 h2
    show p.2 + _ ≤ _
    omega
  · exact ⟨Nat.le_refl _, by omega⟩
theorem fillIn_le {N : Nat → Nat} {s hold : Nat} {p : Nat × Nat} : ∀ {k : Nat}, k ≤ 3 → (fillIn N s hold k p).1 ≤ p.1 ∧ (fillIn N s hold k p).2 ≤ p.2 + 100 * k
  | 0, _ => ⟨Nat.le_refl _, Nat.le_refl _⟩
  | k + 1, h => by
    have h1 := fillIn_le (N := N) (s := s) (hold := hold) (p := p) (k := k) (by omega)
    have h2 := fillStep_le (N := N) (s := s) (hold := hold) (k := k) (by omega) (p := fillIn N s hold k p)
    show (fillStep N s hold k _).1 ≤ _ ∧ (fillStep N s hold k _).2 ≤ _
    omega
theorem fillOut_le {N : Nat → Nat} (hB : HouseB N) {s : Nat} : ∀ {c : Nat}, (fillOut N s c).1 ≤ 99 ∧ (fillOut N s c).2 ≤ 300 * c
  | 0 => ⟨hB.2 2 (by omega), Nat.le_refl _⟩
  | c + 1 => by
    have h1 := fillOut_le hB (s := s) (c := c)
    have h2 := fillIn_le (N := N) (s := s) (hold := 9 - c) (p := fillOut N s c) (k := N 4) hB.1
    have h3 := hB.1
    show (fillIn N s (9 - c) (N 4) (fillOut N s c)).1 ≤ _ ∧ (fillIn N s (9 - c) (N 4) (fillOut N s c)).2 ≤ _
    omega
