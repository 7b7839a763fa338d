/-! sums -/
theorem sumN_add {n : Nat} {f g : Nat → Nat} : sumN n (fun i => f i + g i) = sumN n f + sumN n g := by
  induction n with
  | zero => rfl
  | succ n ih => show sumN n _ + (f n + g n) = (sumN n f + f n) + (sumN n g + g n); rw [ih]; omega
theorem sumN_mul {n c : Nat} {f : Nat → Nat} : sumN n (fun i => f i * c) = sumN n f * c := by
  induction n with
  | zero => exact (Nat.zero_mul c).symm
  | succ n ih => show sumN n _ + _ = (sumN n f + f n) * c; rw [ih, Nat.add_mul]
theorem sumN_mono {n : Nat} {f g : Nat → Nat} (h : ∀ i, i < n → f i ≤ g i) : sumN n f ≤ sumN n g := by
  induction n with
  | zero => exact Nat.le_refl _
  | succ n ih => exact Nat.add_le_add (ih (fun i hi => h i (by omega))) (h n (by omega))
theorem sumN_one {n i : Nat} {f : Nat → Nat} (hi : i < n) : f i ≤ sumN n f := by
  induction n with
  | zero => exact absurd hi (Nat.not_lt_zero _)
  | succ n ih =>
    show f i ≤ sumN n f + f n
    by_cases e : i = n
    · subst e; omega
    · have := ih (by omega); omega
/-- one place of a weighed sum becomes v -/
theorem sumN_put {n s v : Nat} {g φ : Nat → Nat} (hs : s < n) : sumN n (fun t => numP g s v t * φ t) + g s * φ s = sumN n (fun t => g t * φ t) + v * φ s := by
  induction n with
  | zero => exact absurd hs (Nat.not_lt_zero _)
  | succ n ih =>
    show sumN n _ + numP g s v n * φ n + g s * φ s = sumN n _ + g n * φ n + v * φ s
    by_cases e : s = n
    · subst e
      have e2 : sumN s (fun t => numP g s v t * φ t) = sumN s (fun t => g t * φ t) := sumN_congr (fun i hi => by rw [numP_ne (by omega)])
      rw [e2, numP_eq]
      omega
    · have := ih (by omega)
      rw [numP_ne (Ne.symm e)]
      omega
/-! what is filled in stands there -/
theorem digS : ∀ (k : Fin 4) (s : Fin 125), s.val < 5 ^ k.val → sumN k.val (fun j => dig s.val j * 5 ^ j) = s.val := by decide +kernel
theorem digs {k s : Nat} (hk : k ≤ 3) (hs : s < 5 ^ k) : sumN k (fun j => dig s j * 5 ^ j) = s := by
  have h5 : 5 ^ k ≤ 5 ^ 3 := Nat.pow_le_pow_right (by decide) hk
  exact digS ⟨k, by omega⟩ ⟨s, by omega⟩ hs
def flI (N : Nat → Nat) (s hold k x : Nat) : Prop := ∃ n : Nat → Nat, (∀ j, n j ≤ dig s j) ∧ (∀ j, j < N 4 → (N (5 + 5 * j + 2) < hold ∨ (N (5 + 5 * j + 2) = hold ∧ k ≤ j)) → n j = 0) ∧ x = sumN (N 4) (fun j => n j * 5 ^ j)
theorem flI_step {N : Nat → Nat} {s hold k : Nat} {p : Nat × Nat} (hk : k < N 4) (h : flI N s hold k p.2) : flI N s hold (k + 1) (fillStep N s hold k p).2 := by
  obtain ⟨n, h1, h2, h3⟩ := h
  unfold fillStep
  split
  · next q =>
    refine ⟨numP n k (min (dig s k) (p.1 / N (5 + 5 * k + 0))), fun j => ?_, fun j hj hc => ?_, ?_⟩
    · by_cases e : j = k
      · subst e; rw [numP_eq]; exact Nat.min_le_left _ _
      · rw [numP_ne e]; exact h1 j
    · rw [numP_ne (fun e => by subst e; omega)]
      exact h2 j hj (by omega)
    · have e := sumN_put (n := N 4) (s := k) (v := min (dig s k) (p.1 / N (5 + 5 * k + 0))) (g := n) (φ := fun j => 5 ^ j) hk
      have h0 : n k = 0 := h2 k hk (Or.inr ⟨q.1, Nat.le_refl _⟩)
      rw [h0, Nat.zero_mul, Nat.add_zero] at e
      show p.2 + _ = _
      rw [e, h3]
  · exact ⟨n, h1, fun j hj hc => h2 j hj (by omega), h3⟩
theorem flI_in {N : Nat → Nat} {s hold : Nat} {p : Nat × Nat} (h : flI N s hold 0 p.2) : ∀ k, k ≤ N 4 → flI N s hold k (fillIn N s hold k p).2
  | 0, _ => h
  | k + 1, hk => flI_step (by omega) (flI_in h k (by omega))
theorem flI_out {N : Nat → Nat} {s : Nat} (hB : ∀ j, j < N 4 → N (5 + 5 * j + 2) ≤ 9) : ∀ c, c ≤ 10 → ∃ n : Nat → Nat, (∀ j, n j ≤ dig s j) ∧ (∀ j, j < N 4 → N (5 + 5 * j + 2) + c < 10 → n j = 0) ∧ (fillOut N s c).2 = sumN (N 4) (fun j => n j * 5 ^ j)
  | 0, _ => ⟨fun _ => 0, fun _ => Nat.zero_le _, fun _ _ _ => rfl, by
      have : ∀ m, sumN m (fun j => 0 * 5 ^ j) = 0 := fun m => by induction m with | zero => rfl | succ m ih => show sumN m _ + 0 * 5 ^ m = 0; rw [ih, Nat.zero_mul]
      exact (this _).symm⟩
  | c + 1, hc => by
    obtain ⟨n, h1, h2, h3⟩ := flI_out (s := s) hB c (by omega)
    obtain ⟨n', g1, g2, g3⟩ := flI_in (N := N) (s := s) (hold := 9 - c) (p := fillOut N s c) ⟨n, h1, fun j hj q => h2 j hj (by omega), h3⟩ (N 4) (Nat.le_refl _)
    exact ⟨n', g1, fun j hj q => g2 j hj (Or.inl (by omega)), g3⟩
theorem fillP_le {N : Nat → Nat} {s : Nat} (hN : HOK N) (hs : s < 5 ^ N 4) : fillP N s ≤ s := by
  obtain ⟨n, h1, -, h3⟩ := flI_out (N := N) (s := s) (fun j hj => (hN.2.2.2.2 j hj 2 (by decide)).2) 10 (Nat.le_refl _)
  have h4 := sumN_mono (n := N 4) (f := fun j => n j * 5 ^ j) (g := fun j => dig s j * 5 ^ j) (fun j _ => Nat.mul_le_mul_right _ (h1 j))
  rw [digs hN.1.1 hs] at h4
  show (fillOut N s 10).2 ≤ s
  omega
/-! THE CHANCES -/
/-- those behind the load: i states are done -/
def sprA (N : Nat → Nat) (ld f : Nat → Nat) : Nat → Nat → Nat
  | 0 => f
  | i + 1 => if f i = 0 ∨ ld i = 0 then numP (sprA N ld f i) i (f i * 4) else numP (numP (sprA N ld f i) i (f i * N 3)) (i - ld i) (sprA N ld f i (i - ld i) + f i * (4 - N 3))
def sprS (N : Nat → Nat) (ld f : Nat → Nat) : Nat → Nat
  | 0 => 0
  | i + 1 => if f i = 0 ∨ ld i = 0 then sprS N ld f i else sprS N ld f i + f i * (4 - N 3)
theorem sprA_at {N ld f : Nat → Nat} : ∀ {i t : Nat}, i ≤ t → sprA N ld f i t = f t
  | 0, _, _ => rfl
  | i + 1, t, h => by
    unfold sprA
    split
    · rw [numP_ne (by omega)]; exact sprA_at (by omega)
    · rw [numP_ne (by omega), numP_ne (by omega)]; exact sprA_at (by omega)
/-- those behind what comes of sort j: i states are done, from the greatest -/
def cmA (N : Nat → Nat) (j : Nat) (f : Nat → Nat) : Nat → Nat → Nat
  | 0 => f
  | i + 1 => if dig (5 ^ N 4 - 1 - i) j < 4 then numP (numP (cmA N j f i) (5 ^ N 4 - 1 - i + 5 ^ j) (cmA N j f i (5 ^ N 4 - 1 - i + 5 ^ j) + f (5 ^ N 4 - 1 - i) * N (5 + 5 * j + 1))) (5 ^ N 4 - 1 - i) (f (5 ^ N 4 - 1 - i) * (4 - N (5 + 5 * j + 1))) else numP (cmA N j f i) (5 ^ N 4 - 1 - i) (f (5 ^ N 4 - 1 - i) * 4)
theorem cmA_at {N : Nat → Nat} {j : Nat} {f : Nat → Nat} : ∀ {i t : Nat}, i ≤ 5 ^ N 4 → t < 5 ^ N 4 - i → cmA N j f i t = f t
  | 0, _, _, _ => rfl
  | i + 1, t, hi, h => by
    have p5 : 0 < 5 ^ j := Nat.pow_pos (by decide)
    unfold cmA
    split
    · rw [numP_ne (by omega), numP_ne (by omega)]; exact cmA_at (by omega) (by omega)
    · rw [numP_ne (by omega)]; exact cmA_at (by omega) (by omega)
def cmS (N : Nat → Nat) (f : Nat → Nat) : Nat → Nat → Nat
  | 0 => f
  | j + 1 => cmA N j (cmS N f j) (5 ^ N 4)
/-- a test of those behind what comes, by one ahead of it -/
def upU (N : Nat → Nat) (j : Nat) (φ : Nat → Nat) (s : Nat) : Nat := if dig s j < 4 then N (5 + 5 * j + 1) * φ (s + 5 ^ j) + (4 - N (5 + 5 * j + 1)) * φ s else 4 * φ s
theorem sprA_sum {N ld f φ : Nat → Nat} {n : Nat} (h3 : N 3 ≤ 4) (hl : ∀ i, i < n → ld i ≤ i) : ∀ i, i ≤ n → sumN n (fun t => sprA N ld f i t * φ t) + sumN i (fun t => f t * φ t) = sumN n (fun t => f t * φ t) + sumN i (fun t => f t * (if f t = 0 ∨ ld t = 0 then 4 * φ t else N 3 * φ t + (4 - N 3) * φ (t - ld t)))
  | 0, _ => rfl
  | i + 1, hi => by
    have ih := sprA_sum (φ := φ) (f := f) h3 hl i (by omega)
    show sumN n (fun t => sprA N ld f (i + 1) t * φ t) + (sumN i (fun t => f t * φ t) + f i * φ i) = sumN n (fun t => f t * φ t) + (sumN i _ + f i * (if f i = 0 ∨ ld i = 0 then 4 * φ i else N 3 * φ i + (4 - N 3) * φ (i - ld i)))
    by_cases q : f i = 0 ∨ ld i = 0
    · have e : sprA N ld f (i + 1) = numP (sprA N ld f i) i (f i * 4) := if_pos q
      have e2 := sumN_put (n := n) (s := i) (v := f i * 4) (g := sprA N ld f i) (φ := φ) (by omega)
      rw [sprA_at (Nat.le_refl _)] at e2
      rw [e, if_pos q, ← Nat.mul_assoc]
      omega
    · have e : sprA N ld f (i + 1) = numP (numP (sprA N ld f i) i (f i * N 3)) (i - ld i) (sprA N ld f i (i - ld i) + f i * (4 - N 3)) := if_neg q
      have e2 := sumN_put (n := n) (s := i) (v := f i * N 3) (g := sprA N ld f i) (φ := φ) (by omega)
      have e3 := sumN_put (n := n) (s := i - ld i) (v := sprA N ld f i (i - ld i) + f i * (4 - N 3)) (g := numP (sprA N ld f i) i (f i * N 3)) (φ := φ) (by omega)
      have l1 := hl i (by omega)
      rw [numP_ne (show i - ld i ≠ i by omega), Nat.add_mul] at e3
      rw [sprA_at (Nat.le_refl _)] at e2
      rw [e, if_neg q, Nat.mul_add, ← Nat.mul_assoc, ← Nat.mul_assoc]
      omega
theorem cmA_sum {N : Nat → Nat} {j : Nat} {f φ : Nat → Nat} (h4 : N 4 ≤ 3) (hj : j < N 4) (hc : N (5 + 5 * j + 1) ≤ 4) : ∀ i, i ≤ 5 ^ N 4 → sumN (5 ^ N 4) (fun t => cmA N j f i t * φ t) + sumN i (fun t => f (5 ^ N 4 - 1 - t) * φ (5 ^ N 4 - 1 - t)) = sumN (5 ^ N 4) (fun t => f t * φ t) + sumN i (fun t => f (5 ^ N 4 - 1 - t) * upU N j φ (5 ^ N 4 - 1 - t))
  | 0, _ => rfl
  | i + 1, hi => by
    have ih := cmA_sum (φ := φ) (f := f) h4 hj hc i (by omega)
    have hn : 0 < 5 ^ N 4 := Nat.pow_pos (by decide)
    obtain ⟨s, hs⟩ : ∃ s, s = 5 ^ N 4 - 1 - i := ⟨_, rfl⟩
    show sumN (5 ^ N 4) (fun t => cmA N j f (i + 1) t * φ t) + (sumN i _ + f (5 ^ N 4 - 1 - i) * φ (5 ^ N 4 - 1 - i)) = sumN (5 ^ N 4) (fun t => f t * φ t) + (sumN i _ + f (5 ^ N 4 - 1 - i) * upU N j φ (5 ^ N 4 - 1 - i))
    have ea : cmA N j f i s = f s := cmA_at (by omega) (by omega)
    by_cases q : dig s j < 4
    · have e : cmA N j f (i + 1) = numP (numP (cmA N j f i) (s + 5 ^ j) (cmA N j f i (s + 5 ^ j) + f s * N (5 + 5 * j + 1))) s (f s * (4 - N (5 + 5 * j + 1))) := by rw [hs] at q ⊢; exact if_pos q
      have up := dig_up h4 hj (show s < 5 ^ N 4 by omega) q
      have p5 : 0 < 5 ^ j := Nat.pow_pos (by decide)
      have e2 := sumN_put (n := 5 ^ N 4) (s := s + 5 ^ j) (v := cmA N j f i (s + 5 ^ j) + f s * N (5 + 5 * j + 1)) (g := cmA N j f i) (φ := φ) up
      have e3 := sumN_put (n := 5 ^ N 4) (s := s) (v := f s * (4 - N (5 + 5 * j + 1))) (g := numP (cmA N j f i) (s + 5 ^ j) (cmA N j f i (s + 5 ^ j) + f s * N (5 + 5 * j + 1))) (φ := φ) (by omega)
      rw [numP_ne (show s ≠ s + 5 ^ j by omega), ea] at e3
      rw [Nat.add_mul] at e2
      have eu : upU N j φ s = N (5 + 5 * j + 1) * φ (s + 5 ^ j) + (4 - N (5 + 5 * j + 1)) * φ s := if_pos q
      rw [← hs, e, eu, Nat.mul_add, ← Nat.mul_assoc, ← Nat.mul_assoc]
      omega
    · have e : cmA N j f (i + 1) = numP (cmA N j f i) s (f s * 4) := by rw [hs] at q ⊢; exact if_neg q
      have e3 := sumN_put (n := 5 ^ N 4) (s := s) (v := f s * 4) (g := cmA N j f i) (φ := φ) (by omega)
      rw [ea] at e3
      have eu : upU N j φ s = 4 * φ s := if_neg q
      rw [← hs, e, eu, ← Nat.mul_assoc]
      omega
theorem sumN_rev {f : Nat → Nat} : ∀ n, sumN n (fun t => f (n - 1 - t)) = sumN n f
  | 0 => rfl
  | n + 1 => by
    have shift : ∀ (m : Nat) (g : Nat → Nat), sumN (m + 1) g = g 0 + sumN m (fun t => g (t + 1)) := by
      intro m
      induction m with
      | zero => intro g; show 0 + g 0 = g 0 + 0; omega
      | succ m ih => intro g; show sumN (m + 1) g + g (m + 1) = g 0 + (sumN m _ + g (m + 1)); rw [ih]; omega
    rw [shift n]
    have e : sumN n (fun t => f (n + 1 - 1 - (t + 1))) = sumN n (fun t => f (n - 1 - t)) := sumN_congr (fun i hi => by rw [show n + 1 - 1 - (i + 1) = n - 1 - i by omega])
    rw [e, sumN_rev n]
    show f (n + 1 - 1 - 0) + sumN n f = sumN n f + f n
    rw [show n + 1 - 1 - 0 = n by omega]
    omega
theorem cmA_all {N : Nat → Nat} {j : Nat} {f φ : Nat → Nat} (h4 : N 4 ≤ 3) (hj : j < N 4) (hc : N (5 + 5 * j + 1) ≤ 4) : sumN (5 ^ N 4) (fun t => cmA N j f (5 ^ N 4) t * φ t) = sumN (5 ^ N 4) (fun t => f t * upU N j φ t) := by
  have h := cmA_sum (f := f) (φ := φ) h4 hj hc (5 ^ N 4) (Nat.le_refl _)
  rw [sumN_rev (f := fun t => f t * φ t), sumN_rev (f := fun t => f t * upU N j φ t)] at h
  omega
theorem sprA_all {N ld f φ : Nat → Nat} {n : Nat} (h3 : N 3 ≤ 4) (hl : ∀ i, i < n → ld i ≤ i) : sumN n (fun t => sprA N ld f n t * φ t) = sumN n (fun t => f t * (if ld t = 0 then 4 * φ t else N 3 * φ t + (4 - N 3) * φ (t - ld t))) := by
  have h := sprA_sum (f := f) (φ := φ) h3 hl n (Nat.le_refl _)
  have e : sumN n (fun t => f t * (if f t = 0 ∨ ld t = 0 then 4 * φ t else N 3 * φ t + (4 - N 3) * φ (t - ld t))) = sumN n (fun t => f t * (if ld t = 0 then 4 * φ t else N 3 * φ t + (4 - N 3) * φ (t - ld t))) := sumN_congr (fun i _ => by
    by_cases q : f i = 0
    · rw [q, Nat.zero_mul, Nat.zero_mul]
    · by_cases q2 : ld i = 0
      · rw [if_pos (Or.inr q2), if_pos q2]
      · rw [if_neg (fun h => h.elim q q2), if_neg q2])
  omega
/-- a load by a rule -/
def ruL (N : Nat → Nat) (κ b m : Nat) (f : Nat → Bool) (d s : Nat) : Nat := if κ = 4 then ldP N d s else if fillsP κ b m f d s (sumP N s 0) = true then fillP N s else 0
theorem RuleAt.same {Z : zP} {G : zG} {V V' : zV} {p q κ b m : Nat} {f : Nat → Bool} (hP : PlanAt Z G p) (hR : RuleAt Z G V q κ b m f) (h1 : ∀ i x, x ≠ p → V'.1 i x = V.1 i x) (h4 : ∀ x j, x < p + 8 ∨ p + 12 ≤ x → V'.2.2.2 x j = V.2.2.2 x j) : RuleAt Z G V' q κ b m f := by
  obtain ⟨a1, a2, a3, a4, a5, a6, a7⟩ := hR
  have qp : q ≠ p := by
    intro e
    have k1 := a1.2.2
    rw [e, hP.1.2.2] at k1
    exact absurd k1 (by decide)
  refine ⟨a1, (h1 _ _ qp).trans a2, a3, fun e => ⟨(h1 _ _ qp).trans (a4 e).1, (a4 e).2⟩, fun e => ⟨(h1 _ _ qp).trans (a5 e).1, (a5 e).2⟩, fun e => ⟨(h1 _ _ qp).trans (a6 e).1, (h1 _ _ qp).trans (a6 e).2.1, (a6 e).2.2⟩, fun e => ?_⟩
  obtain ⟨t, t1, t2, t3⟩ := a7 e
  refine ⟨t, t1, t2, fun i hi => ?_⟩
  rw [h4 (t + 1) i]
  · exact t3 i hi
  · have k2 := t2.1.2.2
    have ne : ∀ {x c n : Nat}, isA Z G x c n → t ≠ x := by
      intro x c n hx e
      have k3 := hx.2.2
      rw [← e] at k3
      rw [k3] at k2
      have k2 : 9 + c = 2 := k2
      omega
    have n7 := ne hP.2.2.2.2.2.2.2.1.2
    have n8 := ne hP.2.2.2.2.2.2.2.2.1.2
    have n9 := ne hP.2.2.2.2.2.2.2.2.2.1.2
    have n10 := ne hP.2.2.2.2.2.2.2.2.2.2.1.2
    omega
theorem RuleAt.wk {Z : zP} {G : zG} {V : zV} {p q κ b m : Nat} {f : Nat → Bool} {N g : Nat → Nat} (hP : PlanAt Z G p) (hR : RuleAt Z G V q κ b m f) : RuleAt Z G (wkJ V p N g) q κ b m f := hR.same hP (fun _ _ _ => rfl) (fun x j h => rAJ_ne (by omega) j)
/-- the chances row -/
def chJ (V : zV) (p : Nat) (N : Nat → Nat) (f : Nat → Nat) : zV := rAJ V (p + 11) 0 (5 ^ N 4) (fun t => lN (f t))
theorem RuleAt.ch {Z : zP} {G : zG} {V : zV} {p q κ b m : Nat} {f : Nat → Bool} {N g : Nat → Nat} (hP : PlanAt Z G p) (hR : RuleAt Z G V q κ b m f) : RuleAt Z G (chJ V p N g) q κ b m f := hR.same hP (fun _ _ _ => rfl) (fun x j h => rAJ_ne (by omega) j)
theorem ch_set {V : zV} {p s v : Nat} {N f : Nat → Nat} (hs : s < 5 ^ N 4) : sAJ (chJ V p N f) (p + 11) s (lN v) = chJ V p N (numP f s v) := by
  unfold chJ sAJ rAJ
  dsimp only
  rw [rw2_u2 hs]
  congr 4
  funext t
  unfold numP
  split <;> rfl
theorem ch_get {V : zV} {p s : Nat} {N f : Nat → Nat} (hs : s < 5 ^ N 4) (h5 : 5 ^ N 4 ≤ 125) : atL (chJ V p N f) (p + 11) 125 (nI s) = lN (f s) := (atL_in (by omega) (by decide)).trans (rAJ_at hs)
theorem lN_0 {a : Nat} (h : a < 2 ^ 64) : lN a = 0 ↔ a = 0 := by
  constructor
  · intro e
    have h2 := congrArg (fun x : Int64 => x.toBitVec.toNat) e
    rw [show (lN a).toBitVec.toNat = a from (BitVec.toNat_ofNat a 64).trans (Nat.mod_eq_of_lt h)] at h2
    exact h2
  · intro e
    rw [e]
    rfl
theorem c_X1_loadBy {l : Launch} {Z : zP} {G : zG} {V : zV} {p : Nat} (hP : PlanAt Z G p) {N : Nat → Nat} (hH : PlanH V p N) {q κ b m : Nat} {rf : Nat → Bool} (hR : RuleAt Z G V q κ b m rf) {d s : Nat} (hd : d ≤ 6) (hs : s < 5 ^ N 4) (hK : κ = 4 → ∀ s, s < 5 ^ N 4 → V.2.2.1 (p + 7) (d * 125 + s) = nI (ldP N d s)) : CT l Z yX1_loadBy cX1_loadBy 4 (some .int) 3 0 0 [.ref p, .ref q, .int (nI d), .int (nI s)] G V (pI (nI (ruL N κ b m rf d s)) G V) := by
  refine CT.of (by decide +kernel) (Nat.le_of_ble_eq_true rfl) (fun X hX cx => ?_)
  subst hX
  show Wm Z X 4 G V 0 0 _ 0 [(0, some (.ref p)), (1, some (.ref q)), (2, some (.int (nI d))), (3, some (.int (nI s)))] []
  have h0 := hP.1
  have hh := hP.2.2.1.1
  have hN := hH.1
  have hB := hN.1
  have n4 := hB.1
  have hV := hH.2.1
  have n125 := st125 n4
  have eD := hH.2.2.1
  have eS := hH.2.2.2.1
  have eN := hH.2.2.2.2.1
  have κ5 := hR.2.2.1
  refine x_aload_n (pc := 0) cx (dA ddX1_loadBy (i := 0) rfl) rfl ?_
  refine gX1_115 (pc := 1) (congrArg Value.int hR.2.1) cx (dA ddX1_loadBy (i := 1) rfl) hR.1 ?_
  refine x_iconst (pc := 4) (v := nI 4) cx (dA ddX1_loadBy (i := 2) rfl) (by decide) ?_
  refine x_icmp_ne (pc := 5) (tgt := 15) cx (dA ddX1_loadBy (i := 3) rfl) (by decide) (fun c5 => ?_) (fun c5 => ?_)
  · have k4 : ¬ κ = 4 := fun e => c5 (by rw [e])
    have e9 : ruL N κ b m rf d s = if fillsP κ b m rf d s (sumP N s 0) = true then fillP N s else 0 := if_neg k4
    refine x_aload_n (pc := 15) cx (dA ddX1_loadBy (i := 9) rfl) rfl ?_
    refine x_iload_n (pc := 16) cx (dA ddX1_loadBy (i := 10) rfl) rfl ?_
    refine x_iload_n (pc := 17) cx (dA ddX1_loadBy (i := 11) rfl) rfl ?_
    refine x_aload_n (pc := 18) cx (dA ddX1_loadBy (i := 12) rfl) rfl ?_
    refine x_iload_n (pc := 19) cx (dA ddX1_loadBy (i := 13) rfl) rfl ?_
    refine x_V1 (pc := 20) mX1_181 h0 (c_X1_roomOf hP hH hs) cx (dA ddX1_loadBy (i := 14) rfl) (kI ?_)
    have rl := sumP_lt hB (s := s) (w := 0) (by omega)
    refine x_V3 (pc := 23) mX1_184 hR.1 (c_X3_fills hR (by omega) (by omega) (by omega)) cx (dA ddX1_loadBy (i := 15) rfl) (kI ?_)
    refine x_if_eq (pc := 26) (tgt := 37) cx (dA ddX1_loadBy (i := 16) rfl) (by decide) (fun c26 => ?_) (fun c26 => ?_)
    · have c26 := b2i_eq c26
      refine x_iconst (pc := 37) (v := nI 0) cx (dA ddX1_loadBy (i := 21) rfl) (by decide) ?_
      refine x_ireturn (pc := 38) cx (dA ddX1_loadBy (i := 22) rfl) (by first | exact Nat.le_of_ble_eq_true rfl | omega) (by first | exact Nat.le_of_ble_eq_true rfl | omega) ?_
      refine rI ?_
      rw [e9, if_neg c26]
    · have c26 := b2i_ne c26
      refine x_aload_n (pc := 29) cx (dA ddX1_loadBy (i := 17) rfl) rfl ?_
      refine x_iload_n (pc := 30) cx (dA ddX1_loadBy (i := 18) rfl) rfl ?_
      refine x_V1 (pc := 31) mX1_187 h0 (c_X1_fillOf hP hH hs) cx (dA ddX1_loadBy (i := 19) rfl) (kI ?_)
      refine x_goto (pc := 34) (tgt := 38) cx (dA ddX1_loadBy (i := 20) rfl) (by decide) ?_
      refine x_ireturn (pc := 38) cx (dA ddX1_loadBy (i := 22) rfl) (by first | exact Nat.le_of_ble_eq_true rfl | omega) (by first | exact Nat.le_of_ble_eq_true rfl | omega) ?_
      refine rI ?_
      rw [e9, if_pos c26]
  · have k4 : κ = 4 := nI_inj (by omega) (by omega) c5
    have e9 : ruL N κ b m rf d s = ldP N d s := if_pos k4
    refine x_aload_n (pc := 8) cx (dA ddX1_loadBy (i := 4) rfl) rfl ?_
    refine x_iload_n (pc := 9) cx (dA ddX1_loadBy (i := 5) rfl) rfl ?_
    refine x_iload_n (pc := 10) cx (dA ddX1_loadBy (i := 6) rfl) rfl ?_
    refine x_V2 (pc := 11) mX1_112 h0 (c_X1_loadWorkedOut hP hH hd hs (hK k4 s hs)) cx (dA ddX1_loadBy (i := 7) rfl) (kI ?_)
    refine x_ireturn (pc := 14) cx (dA ddX1_loadBy (i := 8) rfl) (by first | exact Nat.le_of_ble_eq_true rfl | omega) (by first | exact Nat.le_of_ble_eq_true rfl | omega) ?_
    exact rI (by rw [e9])
theorem c_X1_startSpread {l : Launch} {Z : zP} {G : zG} {V : zV} {p : Nat} (hP : PlanAt Z G p) {N : Nat → Nat} (hH : PlanH V p N) : CT l Z yX1_startSpread cX1_startSpread 2 none 1 0 0 [.ref p] G V (pV G (chJ V p N (fun t => if t = 0 then 1 else 0))) := by
  refine CT.of (by decide +kernel) (Nat.le_of_ble_eq_true rfl) (fun X hX cx => ?_)
  subst hX
  show Wm Z X 2 G V 0 0 _ 0 [(0, some (.ref p))] []
  have h0 := hP.1
  have hh := hP.2.2.1.1
  have hN := hH.1
  have hB := hN.1
  have n4 := hB.1
  have hV := hH.2.1
  have n125 := st125 n4
  have eD := hH.2.2.1
  have eS := hH.2.2.2.1
  have eN := hH.2.2.2.2.1
  refine x_iconst (pc := 0) (v := nI 0) cx (dA ddX1_startSpread (i := 0) rfl) (by decide) ?_
  refine x_istore_n (pc := 1) cx (dA ddX1_startSpread (i := 1) rfl) (by decide) rfl ?_
  have L2 : ∀ s, s ≤ 5 ^ N 4 → Wm Z X 2 G (rAJ V (p + 11) 0 s (fun t => lN (if t = 0 then 1 else 0))) 0 0 (rQ Z X 0 0 (pV G (chJ V p N (fun t => if t = 0 then 1 else 0)))) 2 [(0, some (.ref p)), (1, some (.int (nI s)))] [] := by
    refine lpU (5 ^ N 4) (fun s hs ih => ?_)
    refine x_iload_n (pc := 2) cx (dA ddX1_startSpread (i := 2) rfl) rfl ?_
    refine x_aload_n (pc := 3) cx (dA ddX1_startSpread (i := 3) rfl) rfl ?_
    refine gX1_76 (pc := 4) (congrArg Value.int eN) cx (dA ddX1_startSpread (i := 4) rfl) h0 ?_
    refine x_icmp_ge (pc := 7) (tgt := 33) cx (dA ddX1_startSpread (i := 5) rfl) (by decide) (fun c7 => ?_) (fun c7 => ?_)
    · have c7 := cleT (by omega) (by omega) c7
      have es : s = 5 ^ N 4 := by omega
      subst es
      refine x_return (pc := 33) cx (dA ddX1_startSpread (i := 17) rfl) (by first | exact Nat.le_of_ble_eq_true rfl | omega) (by first | exact Nat.le_of_ble_eq_true rfl | omega) ?_
      exact ⟨rfl, rfl, rfl⟩
    · have c7 := cleF (by omega) (by omega) c7
      refine x_aload_n (pc := 10) cx (dA ddX1_startSpread (i := 6) rfl) rfl ?_
      refine gX1_44 (pc := 11) (rfA hP.2.2.2.2.2.2.2.2.2.2.2.1) cx (dA ddX1_startSpread (i := 7) rfl) h0 ?_
      refine x_iload_n (pc := 14) cx (dA ddX1_startSpread (i := 8) rfl) rfl ?_
      refine x_iload_n (pc := 15) cx (dA ddX1_startSpread (i := 9) rfl) rfl ?_
      refine x_if_ne (pc := 16) (tgt := 23) cx (dA ddX1_startSpread (i := 10) rfl) (by decide) (fun c16 => ?_) (fun c16 => ?_)
      · have e9 : (if s = 0 then 1 else 0) = 0 := if_neg (fun e => c16 (by rw [e]; rfl))
        refine x_lconst (pc := 23) (v := lN 0) cx (dA ddX1_startSpread (i := 13) rfl) rfl ?_
        refine x_SN3 (pc := 24) mX1_151 (c_X7_put_ hP.2.2.2.2.2.2.2.2.2.2.2.2 (by omega) (by decide)) cx (dA ddX1_startSpread (i := 14) rfl) (kV ?_)
        rw [rAJ_s0 V (p + 11) s (fun t => lN (if t = 0 then 1 else 0)) (v := lN 0) (by rw [e9])]
        refine x_iinc (pc := 27) cx (dA ddX1_startSpread (i := 15) rfl) rfl (iinc1 _) (by decide) rfl ?_
        refine x_goto (pc := 30) (tgt := 2) cx (dA ddX1_startSpread (i := 16) rfl) (by decide) ?_
        exact x_enter (ih (by omega)) ⟨.inr rfl, .inr rfl, trivial⟩
      · have e9 : (if s = 0 then 1 else 0) = 1 := if_pos (nI_inj (b := 0) (by omega) (by decide) c16)
        refine x_lconst (pc := 19) (v := lN 1) cx (dA ddX1_startSpread (i := 11) rfl) rfl ?_
        refine x_goto (pc := 20) (tgt := 24) cx (dA ddX1_startSpread (i := 12) rfl) (by decide) ?_
        refine x_SN3 (pc := 24) mX1_151 (c_X7_put_ hP.2.2.2.2.2.2.2.2.2.2.2.2 (by omega) (by decide)) cx (dA ddX1_startSpread (i := 14) rfl) (kV ?_)
        rw [rAJ_s0 V (p + 11) s (fun t => lN (if t = 0 then 1 else 0)) (v := lN 1) (by rw [e9])]
        refine x_iinc (pc := 27) cx (dA ddX1_startSpread (i := 15) rfl) rfl (iinc1 _) (by decide) rfl ?_
        refine x_goto (pc := 30) (tgt := 2) cx (dA ddX1_startSpread (i := 16) rfl) (by decide) ?_
        exact x_enter (ih (by omega)) ⟨.inr rfl, .inr rfl, trivial⟩
  have L := L2 0 (Nat.zero_le _)
  rw [rAJ_0] at L
  exact x_enter L ⟨.inr rfl, .inr rfl, trivial⟩
theorem c_X1_spreadLoad {l : Launch} {Z : zP} {G : zG} {V : zV} {p : Nat} (hP : PlanAt Z G p) {N : Nat → Nat} (hH : PlanH V p N) {q κ b m : Nat} {rf : Nat → Bool} (hR : RuleAt Z G V q κ b m rf) {d : Nat} {f : Nat → Nat} (hd : d ≤ 6) (hf : ∀ t, t < 5 ^ N 4 → f t < 2 ^ 64) (hl : ∀ t, t < 5 ^ N 4 → ruL N κ b m rf d t ≤ t) (hK : κ = 4 → ∀ s, s < 5 ^ N 4 → V.2.2.1 (p + 7) (d * 125 + s) = nI (ldP N d s)) : CT l Z yX1_spreadLoad cX1_spreadLoad 13 (some .long) 4 0 0 [.ref p, .ref q, .int (nI d)] G (chJ V p N f) (pJ (lN (sprS N (ruL N κ b m rf d) f (5 ^ N 4))) G (chJ V p N (sprA N (ruL N κ b m rf d) f (5 ^ N 4)))) := by
  refine CT.of (by decide +kernel) (Nat.le_of_ble_eq_true rfl) (fun X hX cx => ?_)
  subst hX
  show Wm Z X 13 G (chJ V p N f) 0 0 _ 0 [(0, some (.ref p)), (1, some (.ref q)), (2, some (.int (nI d)))] []
  have h0 := hP.1
  have hh := hP.2.2.1.1
  have hN := hH.1
  have hB := hN.1
  have n4 := hB.1
  have hV := hH.2.1
  have n125 := st125 n4
  have eD := hH.2.2.1
  have eS := hH.2.2.2.1
  have eN := hH.2.2.2.2.1
  refine x_aload_n (pc := 0) cx (dA ddX1_spreadLoad (i := 0) rfl) rfl ?_
  refine gX1_12 (pc := 1) (rfA hP.2.1) cx (dA ddX1_spreadLoad (i := 1) rfl) h0 ?_
  refine x_iconst (pc := 4) (v := nI 3) cx (dA ddX1_spreadLoad (i := 2) rfl) (by decide) ?_
  refine x_V1 (pc := 5) mX1_120 hh (c_X0_number hP.2.2.1 (V := chJ V p N f) hV hB (w := 3) (by omega)) cx (dA ddX1_spreadLoad (i := 3) rfl) (kI ?_)
  refine x_i2l (pc := 8) cx (dA ddX1_spreadLoad (i := 4) rfl) ?_
  have b3 := hN.2.2.2.1
  rw [nI_l (by omega)]
  refine x_lstore_n (pc := 9) cx (dA ddX1_spreadLoad (i := 5) rfl) (by decide) rfl ?_
  refine x_lconst (pc := 10) (v := lN 0) cx (dA ddX1_spreadLoad (i := 6) rfl) rfl ?_
  refine x_lstore (pc := 11) cx (dA ddX1_spreadLoad (i := 7) rfl) (by decide) rfl ?_
  refine x_iconst (pc := 13) (v := nI 0) cx (dA ddX1_spreadLoad (i := 8) rfl) (by decide) ?_
  refine x_istore (pc := 14) cx (dA ddX1_spreadLoad (i := 9) rfl) (by decide) rfl ?_
  have L16 : ∀ s, s ≤ 5 ^ N 4 → Wm Z X 13 G (chJ V p N (sprA N (ruL N κ b m rf d) f s)) 0 0 (rQ Z X 0 0 (pJ (lN (sprS N (ruL N κ b m rf d) f (5 ^ N 4))) G (chJ V p N (sprA N (ruL N κ b m rf d) f (5 ^ N 4))))) 16 [(0, some (.ref p)), (1, some (.ref q)), (2, some (.int (nI d))), (3, some (.long (lN (N 3)))), (5, some (.long (lN (sprS N (ruL N κ b m rf d) f s)))), (7, some (.int (nI s)))] [] := by
    refine lpU (5 ^ N 4) (fun s hs ih => ?_)
    refine x_iload (pc := 16) cx (dA ddX1_spreadLoad (i := 10) rfl) rfl ?_
    refine x_aload_n (pc := 18) cx (dA ddX1_spreadLoad (i := 11) rfl) rfl ?_
    refine gX1_76 (pc := 19) (congrArg Value.int eN) cx (dA ddX1_spreadLoad (i := 12) rfl) h0 ?_
    refine x_icmp_ge (pc := 22) (tgt := 143) cx (dA ddX1_spreadLoad (i := 13) rfl) (by decide) (fun c22 => ?_) (fun c22 => ?_)
    · have c22 := cleT (by omega) (by omega) c22
      have es : s = 5 ^ N 4 := by omega
      subst es
      refine x_lload (pc := 143) cx (dA ddX1_spreadLoad (i := 74) rfl) rfl ?_
      refine x_lreturn (pc := 145) cx (dA ddX1_spreadLoad (i := 75) rfl) (by first | exact Nat.le_of_ble_eq_true rfl | omega) (by first | exact Nat.le_of_ble_eq_true rfl | omega) ?_
      exact ⟨rfl, rfl, rfl⟩
    · have c22 := cleF (by omega) (by omega) c22
      have fs := hf s c22
      have lds := hl s c22
      refine x_aload_n (pc := 25) cx (dA ddX1_spreadLoad (i := 14) rfl) rfl ?_
      refine gX1_44 (pc := 26) (rfA hP.2.2.2.2.2.2.2.2.2.2.2.1) cx (dA ddX1_spreadLoad (i := 15) rfl) h0 ?_
      refine x_iload (pc := 29) cx (dA ddX1_spreadLoad (i := 16) rfl) rfl ?_
      refine x_SN2 (pc := 31) mX1_109 (c_X7_at_ hP.2.2.2.2.2.2.2.2.2.2.2.2 (by decide)) cx (dA ddX1_spreadLoad (i := 17) rfl) (kJ ?_)
      rw [ch_get c22 n125, sprA_at (Nat.le_refl _)]
      refine x_lstore (pc := 34) cx (dA ddX1_spreadLoad (i := 18) rfl) (by decide) rfl ?_
      refine x_lload (pc := 36) cx (dA ddX1_spreadLoad (i := 19) rfl) rfl ?_
      refine x_lconst (pc := 38) (v := lN 0) cx (dA ddX1_spreadLoad (i := 20) rfl) rfl ?_
      refine x_lc_ne (pc := 39) (tgt := 47) cx (dA ddX1_spreadLoad (i := 21) rfl) (dA ddX1_spreadLoad (i := 22) rfl) (by decide) (fun c39 => ?_) (fun c39 => ?_)
      · have nz : ¬ f s = 0 := fun e => c39 (by rw [e])
        refine x_aload_n (pc := 47) cx (dA ddX1_spreadLoad (i := 25) rfl) rfl ?_
        refine x_aload_n (pc := 48) cx (dA ddX1_spreadLoad (i := 26) rfl) rfl ?_
        refine x_iload_n (pc := 49) cx (dA ddX1_spreadLoad (i := 27) rfl) rfl ?_
        refine x_iload (pc := 50) cx (dA ddX1_spreadLoad (i := 28) rfl) rfl ?_
        refine x_V3 (pc := 52) mX1_190 h0 (c_X1_loadBy (V := chJ V p N (sprA N (ruL N κ b m rf d) f s)) hP hH (hR.ch hP) hd c22 hK) cx (dA ddX1_spreadLoad (i := 29) rfl) (kI ?_)
        refine x_istore (pc := 55) cx (dA ddX1_spreadLoad (i := 30) rfl) (by decide) rfl ?_
        refine x_iload (pc := 57) cx (dA ddX1_spreadLoad (i := 31) rfl) rfl ?_
        refine x_if_ne (pc := 59) (tgt := 80) cx (dA ddX1_spreadLoad (i := 32) rfl) (by decide) (fun c59 => ?_) (fun c59 => ?_)
        · have nl : ¬ ruL N κ b m rf d s = 0 := fun e => c59 (by rw [e]; rfl)
          have zz : ¬ (f s = 0 ∨ ruL N κ b m rf d s = 0) := fun h => h.elim nz nl
          have eA : sprA N (ruL N κ b m rf d) f (s + 1) = numP (numP (sprA N (ruL N κ b m rf d) f s) s (f s * N 3)) (s - ruL N κ b m rf d s) ((sprA N (ruL N κ b m rf d) f s) (s - ruL N κ b m rf d s) + f s * (4 - N 3)) := if_neg zz
          have eS2 : sprS N (ruL N κ b m rf d) f (s + 1) = (sprS N (ruL N κ b m rf d) f s) + f s * (4 - N 3) := if_neg zz
          refine x_lload (pc := 80) cx (dA ddX1_spreadLoad (i := 41) rfl) rfl ?_
          refine x_ldc2 (pc := 82) cx klX1_127 (dA ddX1_spreadLoad (i := 42) rfl) ?_
          refine x_lload_n (pc := 85) cx (dA ddX1_spreadLoad (i := 43) rfl) rfl ?_
          refine x_lsub (pc := 86) cx (dA ddX1_spreadLoad (i := 44) rfl) ?_
          rw [lN_sub (by omega)]
          refine x_lmul (pc := 87) cx (dA ddX1_spreadLoad (i := 45) rfl) ?_
          rw [lN_mul]
          refine x_lstore (pc := 88) cx (dA ddX1_spreadLoad (i := 46) rfl) (by decide) rfl ?_
          refine x_aload_n (pc := 90) cx (dA ddX1_spreadLoad (i := 47) rfl) rfl ?_
          refine gX1_44 (pc := 91) (rfA hP.2.2.2.2.2.2.2.2.2.2.2.1) cx (dA ddX1_spreadLoad (i := 48) rfl) h0 ?_
          refine x_iload (pc := 94) cx (dA ddX1_spreadLoad (i := 49) rfl) rfl ?_
          refine x_lload (pc := 96) cx (dA ddX1_spreadLoad (i := 50) rfl) rfl ?_
          refine x_lload_n (pc := 98) cx (dA ddX1_spreadLoad (i := 51) rfl) rfl ?_
          refine x_lmul (pc := 99) cx (dA ddX1_spreadLoad (i := 52) rfl) ?_
          rw [lN_mul]
          refine x_SN3 (pc := 100) mX1_151 (c_X7_put_ hP.2.2.2.2.2.2.2.2.2.2.2.2 (by omega) (by decide)) cx (dA ddX1_spreadLoad (i := 53) rfl) (kV ?_)
          rw [ch_set c22]
          refine x_aload_n (pc := 103) cx (dA ddX1_spreadLoad (i := 54) rfl) rfl ?_
          refine gX1_44 (pc := 104) (rfA hP.2.2.2.2.2.2.2.2.2.2.2.1) cx (dA ddX1_spreadLoad (i := 55) rfl) h0 ?_
          refine x_iload (pc := 107) cx (dA ddX1_spreadLoad (i := 56) rfl) rfl ?_
          refine x_iload (pc := 109) cx (dA ddX1_spreadLoad (i := 57) rfl) rfl ?_
          refine x_isub (pc := 111) cx (dA ddX1_spreadLoad (i := 58) rfl) ?_
          refine x_aload_n (pc := 112) cx (dA ddX1_spreadLoad (i := 59) rfl) rfl ?_
          refine gX1_44 (pc := 113) (rfA hP.2.2.2.2.2.2.2.2.2.2.2.1) cx (dA ddX1_spreadLoad (i := 60) rfl) h0 ?_
          refine x_iload (pc := 116) cx (dA ddX1_spreadLoad (i := 61) rfl) rfl ?_
          refine x_iload (pc := 118) cx (dA ddX1_spreadLoad (i := 62) rfl) rfl ?_
          refine x_isub (pc := 120) cx (dA ddX1_spreadLoad (i := 63) rfl) ?_
          rw [pk_sub lds]
          refine x_SN2 (pc := 121) mX1_109 (c_X7_at_ hP.2.2.2.2.2.2.2.2.2.2.2.2 (by decide)) cx (dA ddX1_spreadLoad (i := 64) rfl) (kJ ?_)
          rw [ch_get (by omega) n125, numP_ne (by omega)]
          refine x_lload (pc := 124) cx (dA ddX1_spreadLoad (i := 65) rfl) rfl ?_
          refine x_ladd (pc := 126) cx (dA ddX1_spreadLoad (i := 66) rfl) ?_
          rw [lN_add]
          refine x_SN3 (pc := 127) mX1_151 (c_X7_put_ hP.2.2.2.2.2.2.2.2.2.2.2.2 (by omega) (by decide)) cx (dA ddX1_spreadLoad (i := 67) rfl) (kV ?_)
          rw [ch_set (by omega), ← eA]
          refine x_lload (pc := 130) cx (dA ddX1_spreadLoad (i := 68) rfl) rfl ?_
          refine x_lload (pc := 132) cx (dA ddX1_spreadLoad (i := 69) rfl) rfl ?_
          refine x_ladd (pc := 134) cx (dA ddX1_spreadLoad (i := 70) rfl) ?_
          rw [lN_add, ← eS2]
          refine x_lstore (pc := 135) cx (dA ddX1_spreadLoad (i := 71) rfl) (by decide) rfl ?_
          refine x_iinc (pc := 137) cx (dA ddX1_spreadLoad (i := 72) rfl) rfl (iinc1 _) (by decide) rfl ?_
          refine x_goto (pc := 140) (tgt := 16) cx (dA ddX1_spreadLoad (i := 73) rfl) (by decide) ?_
          exact x_enter (ih (by omega)) ⟨.inr rfl, .inr rfl, .inr rfl, .inr rfl, .inr rfl, .inr rfl, trivial⟩
        · have zz : f s = 0 ∨ ruL N κ b m rf d s = 0 := Or.inr (nI_inj (b := 0) (by omega) (by decide) c59)
          have eA : sprA N (ruL N κ b m rf d) f (s + 1) = numP (sprA N (ruL N κ b m rf d) f s) s (f s * 4) := if_pos zz
          have eS2 : sprS N (ruL N κ b m rf d) f (s + 1) = (sprS N (ruL N κ b m rf d) f s) := if_pos zz
          refine x_aload_n (pc := 62) cx (dA ddX1_spreadLoad (i := 33) rfl) rfl ?_
          refine gX1_44 (pc := 63) (rfA hP.2.2.2.2.2.2.2.2.2.2.2.1) cx (dA ddX1_spreadLoad (i := 34) rfl) h0 ?_
          refine x_iload (pc := 66) cx (dA ddX1_spreadLoad (i := 35) rfl) rfl ?_
          refine x_lload (pc := 68) cx (dA ddX1_spreadLoad (i := 36) rfl) rfl ?_
          refine x_ldc2 (pc := 70) cx klX1_127 (dA ddX1_spreadLoad (i := 37) rfl) ?_
          refine x_lmul (pc := 73) cx (dA ddX1_spreadLoad (i := 38) rfl) ?_
          rw [lN_mul]
          refine x_SN3 (pc := 74) mX1_151 (c_X7_put_ hP.2.2.2.2.2.2.2.2.2.2.2.2 (by omega) (by decide)) cx (dA ddX1_spreadLoad (i := 39) rfl) (kV ?_)
          rw [ch_set c22, ← eA]
          refine x_goto (pc := 77) (tgt := 137) cx (dA ddX1_spreadLoad (i := 40) rfl) (by decide) ?_
          refine x_iinc (pc := 137) cx (dA ddX1_spreadLoad (i := 72) rfl) rfl (iinc1 _) (by decide) rfl ?_
          refine x_goto (pc := 140) (tgt := 16) cx (dA ddX1_spreadLoad (i := 73) rfl) (by decide) ?_
          have L := ih (by omega)
          rw [eS2] at L
          exact x_enter L ⟨.inr rfl, .inr rfl, .inr rfl, .inr rfl, .inr rfl, .inr rfl, trivial⟩
      · have zz : f s = 0 ∨ ruL N κ b m rf d s = 0 := Or.inl ((lN_0 fs).mp c39)
        have eA : sprA N (ruL N κ b m rf d) f (s + 1) = numP (sprA N (ruL N κ b m rf d) f s) s (f s * 4) := if_pos zz
        have eS2 : sprS N (ruL N κ b m rf d) f (s + 1) = (sprS N (ruL N κ b m rf d) f s) := if_pos zz
        refine x_iconst (pc := 43) (v := nI 0) cx (dA ddX1_spreadLoad (i := 23) rfl) (by decide) ?_
        refine x_goto (pc := 44) (tgt := 55) cx (dA ddX1_spreadLoad (i := 24) rfl) (by decide) ?_
        refine x_istore (pc := 55) cx (dA ddX1_spreadLoad (i := 30) rfl) (by decide) rfl ?_
        refine x_iload (pc := 57) cx (dA ddX1_spreadLoad (i := 31) rfl) rfl ?_
        refine x_if_ne (pc := 59) (tgt := 80) cx (dA ddX1_spreadLoad (i := 32) rfl) (by decide) (fun c59 => absurd (rfl : nI 0 = 0) c59) (fun c59 => ?_)
        refine x_aload_n (pc := 62) cx (dA ddX1_spreadLoad (i := 33) rfl) rfl ?_
        refine gX1_44 (pc := 63) (rfA hP.2.2.2.2.2.2.2.2.2.2.2.1) cx (dA ddX1_spreadLoad (i := 34) rfl) h0 ?_
        refine x_iload (pc := 66) cx (dA ddX1_spreadLoad (i := 35) rfl) rfl ?_
        refine x_lload (pc := 68) cx (dA ddX1_spreadLoad (i := 36) rfl) rfl ?_
        refine x_ldc2 (pc := 70) cx klX1_127 (dA ddX1_spreadLoad (i := 37) rfl) ?_
        refine x_lmul (pc := 73) cx (dA ddX1_spreadLoad (i := 38) rfl) ?_
        rw [lN_mul]
        refine x_SN3 (pc := 74) mX1_151 (c_X7_put_ hP.2.2.2.2.2.2.2.2.2.2.2.2 (by omega) (by decide)) cx (dA ddX1_spreadLoad (i := 39) rfl) (kV ?_)
        rw [ch_set c22, ← eA]
        refine x_goto (pc := 77) (tgt := 137) cx (dA ddX1_spreadLoad (i := 40) rfl) (by decide) ?_
        refine x_iinc (pc := 137) cx (dA ddX1_spreadLoad (i := 72) rfl) rfl (iinc1 _) (by decide) rfl ?_
        refine x_goto (pc := 140) (tgt := 16) cx (dA ddX1_spreadLoad (i := 73) rfl) (by decide) ?_
        have L := ih (by omega)
        rw [eS2] at L
        exact x_enter L ⟨.inr rfl, .inr rfl, .inr rfl, .inr rfl, .inr rfl, .inr rfl, trivial⟩
  exact x_enter (L16 0 (Nat.zero_le _)) ⟨.inr rfl, .inr rfl, .inr rfl, .inr rfl, .inr rfl, .inr rfl, trivial⟩
theorem c_X1_spreadWhatComes {l : Launch} {Z : zP} {G : zG} {V : zV} {p : Nat} (hP : PlanAt Z G p) {N : Nat → Nat} (hH : PlanH V p N) {f : Nat → Nat} : CT l Z yX1_spreadWhatComes cX1_spreadWhatComes 8 none 2 0 0 [.ref p] G (chJ V p N f) (pV G (chJ V p N (cmS N f (N 4)))) := by
  refine CT.of (by decide +kernel) (Nat.le_of_ble_eq_true rfl) (fun X hX cx => ?_)
  subst hX
  show Wm Z X 8 G (chJ V p N f) 0 0 _ 0 [(0, some (.ref p))] []
  have h0 := hP.1
  have hh := hP.2.2.1.1
  have hN := hH.1
  have hB := hN.1
  have n4 := hB.1
  have hV := hH.2.1
  have n125 := st125 n4
  have eD := hH.2.2.1
  have eS := hH.2.2.2.1
  have eN := hH.2.2.2.2.1
  refine x_iconst (pc := 0) (v := nI 0) cx (dA ddX1_spreadWhatComes (i := 0) rfl) (by decide) ?_
  refine x_istore_n (pc := 1) cx (dA ddX1_spreadWhatComes (i := 1) rfl) (by decide) rfl ?_
  have L2 : ∀ j, j ≤ N 4 → Wm Z X 8 G (chJ V p N (cmS N f j)) 0 0 (rQ Z X 0 0 (pV G (chJ V p N (cmS N f (N 4))))) 2 [(0, some (.ref p)), (1, some (.int (nI j)))] [] := by
    refine lpU (N 4) (fun j hj ih => ?_)
    refine x_iload_n (pc := 2) cx (dA ddX1_spreadWhatComes (i := 2) rfl) rfl ?_
    refine x_aload_n (pc := 3) cx (dA ddX1_spreadWhatComes (i := 3) rfl) rfl ?_
    refine gX1_71 (pc := 4) (congrArg Value.int eS) cx (dA ddX1_spreadWhatComes (i := 4) rfl) h0 ?_
    refine x_icmp_ge (pc := 7) (tgt := 134) cx (dA ddX1_spreadWhatComes (i := 5) rfl) (by decide) (fun c7 => ?_) (fun c7 => ?_)
    · have c7 := cleT (by omega) (by omega) c7
      have ej : j = N 4 := by omega
      subst ej
      refine x_return (pc := 134) cx (dA ddX1_spreadWhatComes (i := 70) rfl) (by first | exact Nat.le_of_ble_eq_true rfl | omega) (by first | exact Nat.le_of_ble_eq_true rfl | omega) ?_
      exact ⟨rfl, rfl, rfl⟩
    · have c7 := cleF (by omega) (by omega) c7
      have bc := hB.2 (5 + 5 * j + 1) (by omega)
      have c4 : N (5 + 5 * j + 1) ≤ 4 := (hN.2.2.2.2 j c7 1 (by omega)).2
      have p5 : 0 < 5 ^ j := Nat.pow_pos (by decide)
      refine x_iload_n (pc := 10) cx (dA ddX1_spreadWhatComes (i := 6) rfl) rfl ?_
      refine x_SN1 (pc := 11) mX1_164 (c_X7_oneOf (by omega)) cx (dA ddX1_spreadWhatComes (i := 7) rfl) (kI ?_)
      refine x_istore_n (pc := 14) cx (dA ddX1_spreadWhatComes (i := 8) rfl) (by decide) rfl ?_
      refine x_aload_n (pc := 15) cx (dA ddX1_spreadWhatComes (i := 9) rfl) rfl ?_
      refine gX1_12 (pc := 16) (rfA hP.2.1) cx (dA ddX1_spreadWhatComes (i := 10) rfl) h0 ?_
      refine x_iload_n (pc := 19) cx (dA ddX1_spreadWhatComes (i := 11) rfl) rfl ?_
      refine x_iconst (pc := 20) (v := nI 1) cx (dA ddX1_spreadWhatComes (i := 12) rfl) (by decide) ?_
      refine x_V2 (pc := 21) mX1_167 hh (c_X0_sortNumber hP.2.2.1 (V := chJ V p N (cmS N f j)) hV hB (s := j) (w := 1) (by omega) (by omega)) cx (dA ddX1_spreadWhatComes (i := 13) rfl) (kI ?_)
      refine x_i2l (pc := 24) cx (dA ddX1_spreadWhatComes (i := 14) rfl) ?_
      rw [nI_l (by omega)]
      refine x_lstore_n (pc := 25) cx (dA ddX1_spreadWhatComes (i := 15) rfl) (by decide) rfl ?_
      refine x_aload_n (pc := 26) cx (dA ddX1_spreadWhatComes (i := 16) rfl) rfl ?_
      refine gX1_76 (pc := 27) (congrArg Value.int eN) cx (dA ddX1_spreadWhatComes (i := 17) rfl) h0 ?_
      refine x_iconst (pc := 30) (v := nI 1) cx (dA ddX1_spreadWhatComes (i := 18) rfl) (by decide) ?_
      refine x_isub (pc := 31) cx (dA ddX1_spreadWhatComes (i := 19) rfl) ?_
      have n1 : 1 ≤ 5 ^ N 4 := Nat.pow_pos (by decide)
      rw [pk_sub n1]
      refine x_istore (pc := 32) cx (dA ddX1_spreadWhatComes (i := 20) rfl) (by decide) rfl ?_
      have L34 : ∀ i : Nat, i ≤ 5 ^ N 4 → ∀ v : Int32, v.toInt = (5 ^ N 4 : Nat) - 1 - (i : Int) → Wm Z X 8 G (chJ V p N (cmA N j (cmS N f j) i)) 0 0 (rQ Z X 0 0 (pV G (chJ V p N (cmS N f (N 4))))) 34 [(0, some (.ref p)), (1, some (.int (nI j))), (2, some (.int (nI (5 ^ j)))), (3, some (.long (lN (N (5 + 5 * j + 1))))), (5, some (.int v))] [] := by
        refine lpU (5 ^ N 4) (fun i hi ih2 => ?_)
        intro v hv
        refine x_iload (pc := 34) cx (dA ddX1_spreadWhatComes (i := 21) rfl) rfl ?_
        refine x_if_lt (pc := 36) (tgt := 128) cx (dA ddX1_spreadWhatComes (i := 22) rfl) (by decide) (fun c36 => ?_) (fun c36 => ?_)
        · have ei : i = 5 ^ N 4 := by rw [i32_lt, hv, toI_0] at c36; omega
          subst ei
          refine x_iinc (pc := 128) cx (dA ddX1_spreadWhatComes (i := 68) rfl) rfl (iinc1 _) (by decide) rfl ?_
          refine x_goto (pc := 131) (tgt := 2) cx (dA ddX1_spreadWhatComes (i := 69) rfl) (by decide) ?_
          exact x_enter (ih (by omega)) ⟨.inr rfl, .inr rfl, trivial⟩
        · have hi2 : i < 5 ^ N 4 := by rw [i32_lt, hv, toI_0] at c36; omega
          obtain ⟨s, hs⟩ : ∃ s, s = 5 ^ N 4 - 1 - i := ⟨_, rfl⟩
          have s5 : s < 5 ^ N 4 := by omega
          have ev : v = nI s := by apply Int32.toInt_inj.mp; rw [hv, nI_toInt (by omega)]; omega
          subst ev
          have ea : (cmA N j (cmS N f j) i) s = (cmS N f j) s := cmA_at (by omega) (by omega)
          have dl := dig_lt s j
          refine x_aload_n (pc := 39) cx (dA ddX1_spreadWhatComes (i := 23) rfl) rfl ?_
          refine gX1_44 (pc := 40) (rfA hP.2.2.2.2.2.2.2.2.2.2.2.1) cx (dA ddX1_spreadWhatComes (i := 24) rfl) h0 ?_
          refine x_iload (pc := 43) cx (dA ddX1_spreadWhatComes (i := 25) rfl) rfl ?_
          refine x_SN2 (pc := 45) mX1_109 (c_X7_at_ hP.2.2.2.2.2.2.2.2.2.2.2.2 (by decide)) cx (dA ddX1_spreadWhatComes (i := 26) rfl) (kJ ?_)
          rw [ch_get s5 n125, ea]
          refine x_lstore (pc := 48) cx (dA ddX1_spreadWhatComes (i := 27) rfl) (by decide) rfl ?_
          refine x_iload (pc := 50) cx (dA ddX1_spreadWhatComes (i := 28) rfl) rfl ?_
          refine x_iload_n (pc := 52) cx (dA ddX1_spreadWhatComes (i := 29) rfl) rfl ?_
          refine x_SN2 (pc := 53) mX1_170 (c_X7_standing (by omega) (by omega)) cx (dA ddX1_spreadWhatComes (i := 30) rfl) (kI ?_)
          refine x_iconst (pc := 56) (v := nI 4) cx (dA ddX1_spreadWhatComes (i := 31) rfl) (by decide) ?_
          refine x_icmp_ge (pc := 57) (tgt := 107) cx (dA ddX1_spreadWhatComes (i := 32) rfl) (by decide) (fun c57 => ?_) (fun c57 => ?_)
          · have c57 := cleT (by omega) (by omega) c57
            have q : ¬ dig s j < 4 := by omega
            have eA : cmA N j (cmS N f j) (i + 1) = numP (cmA N j (cmS N f j) i) s ((cmS N f j) s * 4) := by rw [hs] at q ⊢; exact if_neg q
            refine x_aload_n (pc := 107) cx (dA ddX1_spreadWhatComes (i := 59) rfl) rfl ?_
            refine gX1_44 (pc := 108) (rfA hP.2.2.2.2.2.2.2.2.2.2.2.1) cx (dA ddX1_spreadWhatComes (i := 60) rfl) h0 ?_
            refine x_iload (pc := 111) cx (dA ddX1_spreadWhatComes (i := 61) rfl) rfl ?_
            refine x_lload (pc := 113) cx (dA ddX1_spreadWhatComes (i := 62) rfl) rfl ?_
            refine x_ldc2 (pc := 115) cx klX1_127 (dA ddX1_spreadWhatComes (i := 63) rfl) ?_
            refine x_lmul (pc := 118) cx (dA ddX1_spreadWhatComes (i := 64) rfl) ?_
            rw [lN_mul]
            refine x_SN3 (pc := 119) mX1_151 (c_X7_put_ hP.2.2.2.2.2.2.2.2.2.2.2.2 (by omega) (by decide)) cx (dA ddX1_spreadWhatComes (i := 65) rfl) (kV ?_)
            rw [ch_set s5, ← eA]
            refine x_iinc (pc := 122) cx (dA ddX1_spreadWhatComes (i := 66) rfl) rfl rfl (by decide) rfl ?_
            refine x_goto (pc := 125) (tgt := 34) cx (dA ddX1_spreadWhatComes (i := 67) rfl) (by decide) ?_
            exact x_enter (ih2 (by omega) _ (by rw [nI_dec _ (by omega)]; omega)) ⟨.inr rfl, .inr rfl, .inr rfl, .inr rfl, .inr rfl, trivial⟩
          · have c57 := cleF (by omega) (by omega) c57
            have up := dig_up n4 c7 s5 c57
            have q := c57
            have eA : cmA N j (cmS N f j) (i + 1) = numP (numP (cmA N j (cmS N f j) i) (s + 5 ^ j) ((cmA N j (cmS N f j) i) (s + 5 ^ j) + (cmS N f j) s * N (5 + 5 * j + 1))) s ((cmS N f j) s * (4 - N (5 + 5 * j + 1))) := by rw [hs] at q ⊢; exact if_pos q
            refine x_aload_n (pc := 60) cx (dA ddX1_spreadWhatComes (i := 33) rfl) rfl ?_
            refine gX1_44 (pc := 61) (rfA hP.2.2.2.2.2.2.2.2.2.2.2.1) cx (dA ddX1_spreadWhatComes (i := 34) rfl) h0 ?_
            refine x_iload (pc := 64) cx (dA ddX1_spreadWhatComes (i := 35) rfl) rfl ?_
            refine x_iload_n (pc := 66) cx (dA ddX1_spreadWhatComes (i := 36) rfl) rfl ?_
            refine x_iadd (pc := 67) cx (dA ddX1_spreadWhatComes (i := 37) rfl) ?_
            refine x_aload_n (pc := 68) cx (dA ddX1_spreadWhatComes (i := 38) rfl) rfl ?_
            refine gX1_44 (pc := 69) (rfA hP.2.2.2.2.2.2.2.2.2.2.2.1) cx (dA ddX1_spreadWhatComes (i := 39) rfl) h0 ?_
            refine x_iload (pc := 72) cx (dA ddX1_spreadWhatComes (i := 40) rfl) rfl ?_
            refine x_iload_n (pc := 74) cx (dA ddX1_spreadWhatComes (i := 41) rfl) rfl ?_
            refine x_iadd (pc := 75) cx (dA ddX1_spreadWhatComes (i := 42) rfl) ?_
            rw [nI_add]
            refine x_SN2 (pc := 76) mX1_109 (c_X7_at_ hP.2.2.2.2.2.2.2.2.2.2.2.2 (by decide)) cx (dA ddX1_spreadWhatComes (i := 43) rfl) (kJ ?_)
            rw [ch_get up n125]
            refine x_lload (pc := 79) cx (dA ddX1_spreadWhatComes (i := 44) rfl) rfl ?_
            refine x_lload_n (pc := 81) cx (dA ddX1_spreadWhatComes (i := 45) rfl) rfl ?_
            refine x_lmul (pc := 82) cx (dA ddX1_spreadWhatComes (i := 46) rfl) ?_
            refine x_ladd (pc := 83) cx (dA ddX1_spreadWhatComes (i := 47) rfl) ?_
            rw [lN_mul, lN_add]
            refine x_SN3 (pc := 84) mX1_151 (c_X7_put_ hP.2.2.2.2.2.2.2.2.2.2.2.2 (by omega) (by decide)) cx (dA ddX1_spreadWhatComes (i := 48) rfl) (kV ?_)
            rw [ch_set up]
            refine x_aload_n (pc := 87) cx (dA ddX1_spreadWhatComes (i := 49) rfl) rfl ?_
            refine gX1_44 (pc := 88) (rfA hP.2.2.2.2.2.2.2.2.2.2.2.1) cx (dA ddX1_spreadWhatComes (i := 50) rfl) h0 ?_
            refine x_iload (pc := 91) cx (dA ddX1_spreadWhatComes (i := 51) rfl) rfl ?_
            refine x_lload (pc := 93) cx (dA ddX1_spreadWhatComes (i := 52) rfl) rfl ?_
            refine x_ldc2 (pc := 95) cx klX1_127 (dA ddX1_spreadWhatComes (i := 53) rfl) ?_
            refine x_lload_n (pc := 98) cx (dA ddX1_spreadWhatComes (i := 54) rfl) rfl ?_
            refine x_lsub (pc := 99) cx (dA ddX1_spreadWhatComes (i := 55) rfl) ?_
            refine x_lmul (pc := 100) cx (dA ddX1_spreadWhatComes (i := 56) rfl) ?_
            rw [lN_sub c4, lN_mul]
            refine x_SN3 (pc := 101) mX1_151 (c_X7_put_ hP.2.2.2.2.2.2.2.2.2.2.2.2 (by omega) (by decide)) cx (dA ddX1_spreadWhatComes (i := 57) rfl) (kV ?_)
            rw [ch_set s5, ← eA]
            refine x_goto (pc := 104) (tgt := 122) cx (dA ddX1_spreadWhatComes (i := 58) rfl) (by decide) ?_
            refine x_iinc (pc := 122) cx (dA ddX1_spreadWhatComes (i := 66) rfl) rfl rfl (by decide) rfl ?_
            refine x_goto (pc := 125) (tgt := 34) cx (dA ddX1_spreadWhatComes (i := 67) rfl) (by decide) ?_
            exact x_enter (ih2 (by omega) _ (by rw [nI_dec _ (by omega)]; omega)) ⟨.inr rfl, .inr rfl, .inr rfl, .inr rfl, .inr rfl, trivial⟩
      exact x_enter (L34 0 (Nat.zero_le _) (nI (5 ^ N 4 - 1)) (by rw [nI_toInt (by omega)]; omega)) ⟨.inr rfl, .inr rfl, .inr rfl, .inr rfl, .inr rfl, trivial⟩
  exact x_enter (L2 0 (Nat.zero_le _)) ⟨.inr rfl, .inr rfl, trivial⟩
