/-- the most room without something put in -/
def mrA (N : Nat → Nat) (z : Nat) : Nat → Nat
  | 0 => 0
  | s + 1 => if ldP N z s = 0 then max (mrA N z s) (sumP N s 0) else mrA N z s
theorem brA_mr {N : Nat → Nat} {z : Nat} (h0 : ldP N z 0 = 0) : ∀ n, brA N z (n + 1) = mrA N z (n + 1) + 1
  | 0 => by
    show (if ldP N z 0 = 0 then max 0 (sumP N 0 0 + 1) else 0) = (if ldP N z 0 = 0 then max 0 (sumP N 0 0) else 0) + 1
    rw [if_pos h0, if_pos h0]
    omega
  | n + 1 => by
    have ih := brA_mr h0 n
    show (if ldP N z (n + 1) = 0 then max (brA N z (n + 1)) (sumP N (n + 1) 0 + 1) else brA N z (n + 1)) = (if ldP N z (n + 1) = 0 then max (mrA N z (n + 1)) (sumP N (n + 1) 0) else mrA N z (n + 1)) + 1
    rw [ih]
    split <;> omega
theorem odA_mr {N : Nat → Nat} {z r : Nat} (hr : 0 < r) : ∀ n, odA N z r n = none ↔ mrA N z n < r
  | 0 => ⟨fun _ => hr, fun _ => rfl⟩
  | n + 1 => by
    have ih := odA_mr (N := N) (z := z) hr n
    have e : mrA N z (n + 1) = if ldP N z n = 0 then max (mrA N z n) (sumP N n 0) else mrA N z n := rfl
    rw [e]
    cases q : odA N z r n with
    | some t =>
      have e2 : odA N z r (n + 1) = some t := by unfold odA; rw [q]
      have h2 : ¬ mrA N z n < r := fun h => by have := ih.mpr h; rw [q] at this; cases this
      rw [e2]
      refine ⟨(fun h => by cases h), fun h => ?_⟩
      split at h <;> omega
    | none =>
      have h1 := ih.mp q
      by_cases h : r ≤ sumP N n 0 ∧ ldP N z n = 0
      · have e2 : odA N z r (n + 1) = some n := by unfold odA; rw [q]; exact if_pos h
        rw [e2, if_pos h.2]
        exact ⟨(fun h => by cases h), fun h3 => by omega⟩
      · rw [odA_none q h]
        refine ⟨fun _ => ?_, fun _ => rfl⟩
        by_cases hz : ldP N z n = 0
        · rw [if_pos hz]; omega
        · rw [if_neg hz]; exact h1
theorem sumN_dig0 {k s : Nat} : sumN k (dig s) = 0 → ∀ j, j < k → dig s j = 0 := by
  induction k with
  | zero => intro _ j hj; exact absurd hj (Nat.not_lt_zero _)
  | succ k ih =>
    intro h j hj
    have h : sumN k (dig s) + dig s k = 0 := h
    by_cases e : j = k
    · subst e; omega
    · exact ih (by omega) j (by omega)
/-- a state with something standing takes room -/
theorem room_pos {N : Nat → Nat} (hN : HOK N) {s : Nat} (hs : s < 5 ^ N 4) (h1 : 1 ≤ s) : 1 ≤ sumP N s 0 := by
  have hm := sumN_mono (n := N 4) (f := dig s) (g := fun k => dig s k * N (5 + 5 * k + 0)) (fun i hi => by
    have a : 1 ≤ N (5 + 5 * i + 0) := (hN.2.2.2.2 i hi 0 (by decide)).1
    have b := Nat.mul_le_mul_left (dig s i) a
    omega)
  have hm : sumN (N 4) (dig s) ≤ sumP N s 0 := hm
  by_cases q : sumN (N 4) (dig s) = 0
  · exfalso
    have z := sumN_dig0 q
    have d := digs hN.1.1 hs
    have : sumN (N 4) (fun j => dig s j * 5 ^ j) = sumN (N 4) (fun _ => 0) := sumN_congr (fun j hj => by rw [z j hj, Nat.zero_mul])
    rw [this, sumN_const, Nat.mul_zero] at d
    omega
  · omega
theorem lrS_pos {N : Nat → Nat} (hN : HOK N) {z : Nat} (h1 : 1 ≤ z) (h6 : z ≤ 6) : ∀ {n r : Nat}, n ≤ 5 ^ N 4 → lrS N z n = some r → 0 < r
  | 0, r, _, h => by cases h
  | s + 1, r, hn, h => by
    unfold lrS at h
    split at h
    · next q =>
      cases h
      have l := ldP_lt hN h1 h6 (show s < 5 ^ N 4 by omega)
      exact room_pos hN (by omega) (by omega)
    · exact lrS_pos hN h1 h6 (by omega) h
/-- the bar by the least room with, the most without -/
theorem bar_mr {N : Nat → Nat} (hN : HOK N) {z : Nat} (h1 : 1 ≤ z) (h6 : z ≤ 6) : barP N z = match lrS N z (5 ^ N 4) with
    | none => none
    | some r => if mrA N z (5 ^ N 4) < r then some (mrA N z (5 ^ N 4) + 1) else none := by
  have p5 : 0 < 5 ^ N 4 := Nat.pow_pos (by decide)
  unfold barP
  cases q : lrS N z (5 ^ N 4) with
  | none => rfl
  | some r =>
    have hr := lrS_pos hN h1 h6 (Nat.le_refl _) q
    have om := odA_mr (N := N) (z := z) hr (5 ^ N 4)
    dsimp only
    cases o : odA N z r (5 ^ N 4) with
    | none =>
      have l0 : ldP N z 0 = 0 := by have := ldP_lt hN h1 h6 p5; omega
      obtain ⟨n, hn⟩ : ∃ n, 5 ^ N 4 = n + 1 := ⟨5 ^ N 4 - 1, by omega⟩
      have hb := brA_mr l0 n
      rw [← hn] at hb
      rw [if_pos (om.mp o), hb]
    | some t =>
      have : ¬ mrA N z (5 ^ N 4) < r := fun h => by have := om.mpr h; rw [o] at this; cases this
      rw [if_neg this]
