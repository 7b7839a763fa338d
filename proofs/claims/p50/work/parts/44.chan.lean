/-- by the best rule it costs what is least -/
theorem rCs_4 {N : Nat → Nat} {b m : Nat} {rf : Nat → Bool} : ∀ d, rCs N 4 b m rf d = cst N d
  | 0 => rfl
  | d + 1 => by
    have ih := rCs_4 (N := N) (b := b) (m := m) (rf := rf) d
    funext s
    show mixP N (boxP N (d + 1)) (swD N (d + 1) (rCs N 4 b m rf d)) s (ruL N 4 b m rf (d + 1) s) = _
    rw [ih]
    rfl
theorem rC_s {N : Nat → Nat} {κ b m : Nat} {rf : Nat → Bool} {d s : Nat} : rC N κ b m rf d s = rCs N κ b m rf d s := by
  unfold rC
  split
  · next h => subst h; rw [rCs_4]
  · rfl
/-- what a state makes of a state -/
def gsM (N : Nat → Nat) (s t : Nat) : Nat := sumN (2 ^ N 4) (fun come => wtM N come (N 4) * (if thM come s (N 4) = t then 1 else 0))
def dlt (t u : Nat) : Nat := if u = t then 1 else 0
theorem sum_dlt {f : Nat → Nat} {t : Nat} : ∀ {n : Nat}, t < n → sumN n (fun u => f u * dlt t u) = f t
  | 0, h => absurd h (Nat.not_lt_zero _)
  | n + 1, h => by
    show sumN n (fun u => f u * dlt t u) + f n * dlt t n = f t
    by_cases e : t = n
    · subst e
      have z : sumN t (fun u => f u * dlt t u) = 0 := by
        have : ∀ m, m ≤ t → sumN m (fun u => f u * dlt t u) = 0 := by
          intro m
          induction m with
          | zero => intro _; rfl
          | succ m ih => intro hm; show sumN m _ + f m * dlt t m = 0; rw [ih (by omega)]; unfold dlt; rw [if_neg (by omega), Nat.mul_zero]
        exact this t (Nat.le_refl _)
      rw [z]
      unfold dlt
      rw [if_pos rfl]
      omega
    · rw [sum_dlt (show t < n by omega)]
      unfold dlt
      rw [if_neg (by omega)]
      omega
theorem chP_s {N : Nat → Nat} (hN : HOK N) {L : Nat → Nat → Nat} {i t : Nat} (hL : ∀ s, s < 5 ^ N 4 → L (N 0 - i) s ≤ s) (ht : t < 5 ^ N 4) : chP N L (i + 1) t = sumN (5 ^ N 4) (fun s => chP N L i s * (N 3 * gsM N s t + (4 - N 3) * gsM N (s - L (N 0 - i) s) t)) := by
  have b3 := hN.2.2.2.1
  rw [← sum_dlt (f := chP N L (i + 1)) ht]
  show sumN (5 ^ N 4) (fun u => cmS N (sprA N (L (N 0 - i)) (chP N L i) (5 ^ N 4)) (N 4) u * dlt t u) = _
  rw [cmS_sum hN _ (Nat.le_refl _), sprA_all (by omega) hL]
  refine sumN_congr (fun s hs => ?_)
  have g : ∀ u, u < 5 ^ N 4 → upS N (dlt t) (N 4) u = gsM N u t := fun u hu => upS_ms hN _ (Nat.le_refl _) _ u hu
  congr 1
  rw [g s hs, g (s - L (N 0 - i) s) (by omega)]
  by_cases q : L (N 0 - i) s = 0
  · rw [if_pos q, q, Nat.sub_zero, ← Nat.add_mul]
    congr 1
    omega
  · rw [if_neg q]
theorem spr_dig {N : Nat → Nat} (hN : HOK N) {ld f : Nat → Nat} {k : Nat} (hl : ∀ s, s < 5 ^ N 4 → ld s ≤ s) : sumN (5 ^ N 4) (fun s => sprA N ld f (5 ^ N 4) s * dig s k) = sumN (5 ^ N 4) (fun s => f s * (N 3 * dig s k + (4 - N 3) * dig (s - ld s) k)) := by
  have b3 := hN.2.2.2.1
  rw [sprA_all (φ := fun s => dig s k) (by omega) hl]
  refine sumN_congr (fun s hs => ?_)
  congr 1
  by_cases q : ld s = 0
  · rw [if_pos q, q, Nat.sub_zero, ← Nat.add_mul]
    congr 1
    omega
  · rw [if_neg q]
theorem sprS_sum {N ld f : Nat → Nat} : ∀ n, sprS N ld f n = sumN n (fun s => if ld s = 0 then 0 else f s * (4 - N 3))
  | 0 => rfl
  | n + 1 => by
    show (if f n = 0 ∨ ld n = 0 then sprS N ld f n else sprS N ld f n + f n * (4 - N 3)) = sumN n _ + (if ld n = 0 then 0 else f n * (4 - N 3))
    rw [sprS_sum n]
    by_cases q : ld n = 0
    · rw [if_pos (Or.inr q), if_pos q, Nat.add_zero]
    · by_cases z : f n = 0
      · rw [if_pos (Or.inl z), if_neg q, z, Nat.zero_mul, Nat.add_zero]
      · rw [if_neg (fun h => h.elim z q), if_neg q]
