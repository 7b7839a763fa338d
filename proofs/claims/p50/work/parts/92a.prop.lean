/-! WHAT IS BEST COSTS NO MORE THAN ANY LOAD, ANY RULE, ANY PROMISE -/
/-- a load of a state -/
def LD (N : Nat → Nat) (s l : Nat) : Prop := l ≤ s ∧ dle l s = true ∧ sumP N l 0 ≤ N 2
theorem sumN_0 : ∀ n, sumN n (fun _ => 0) = 0
  | 0 => rfl
  | n + 1 => by
    show sumN n (fun _ => 0) + 0 = 0
    rw [sumN_0 n]
theorem dig_00 (k : Nat) : dig 0 k = 0 := by
  unfold dig
  rw [Nat.zero_div]
theorem sumP_0 (N : Nat → Nat) (w : Nat) : sumP N 0 w = 0 := by
  unfold sumP
  exact (sumN_congr fun i _ => by rw [dig_00, Nat.zero_mul]).trans (sumN_0 (N 4))
theorem dle_of {q s : Nat} (h : ∀ k, k < 3 → dig q k ≤ dig s k) : dle q s = true := by
  unfold dle
  rw [decide_eq_true (h 0 (by decide)), decide_eq_true (h 1 (by decide)), decide_eq_true (h 2 (by decide))]
  rfl
theorem dle_k {q s : Nat} (h : dle q s = true) {k : Nat} (hk : k < 3) : dig q k ≤ dig s k := by
  unfold dle at h
  simp only [Bool.and_eq_true, decide_eq_true_eq] at h
  obtain ⟨a, b, c⟩ := h
  match k, hk with
  | 0, _ => exact a
  | 1, _ => exact b
  | 2, _ => exact c
theorem LD_0 (N : Nat → Nat) (s : Nat) : LD N s 0 := ⟨Nat.zero_le _, dle_of fun k _ => by rw [dig_00]; exact Nat.zero_le _, by rw [sumP_0]; exact Nat.zero_le _⟩
/-- what a load costs behind the ship -/
def lcP (f : Nat → Nat) (box s l : Nat) : Nat := f (s - l) + if l = 0 then 0 else box
theorem lcP_0 {f : Nat → Nat} {box s : Nat} : lcP f box s 0 = f s := by
  unfold lcP
  rw [if_pos rfl, Nat.sub_zero, Nat.add_zero]
theorem mdA_s {N : Nat → Nat} {box : Nat} {f : Nat → Nat} {must : Bool} {s i : Nat} : mdA N box f must s (i + 1) = if dle (i + 1) s = true then (if 0 < i + 1 ∧ sumP N (i + 1) 0 ≤ N 2 ∧ (f (s - (i + 1)) + box < (mdA N box f must s i).2 ∨ (must = true ∧ (mdA N box f must s i).1 = 0)) then (i + 1, f (s - (i + 1)) + box) else mdA N box f must s i) else mdA N box f must s i := rfl
theorem mdA_inv {N : Nat → Nat} {box : Nat} {f : Nat → Nat} {must : Bool} {s : Nat} : ∀ i, i ≤ s → LD N s (mdA N box f must s i).1 ∧ (mdA N box f must s i).2 = lcP f box s (mdA N box f must s i).1
  | 0, _ => ⟨LD_0 N s, lcP_0.symm⟩
  | i + 1, hi => by
    have ih := mdA_inv (N := N) (box := box) (f := f) (must := must) (s := s) i (by omega)
    rw [mdA_s]
    by_cases d : dle (i + 1) s = true
    · rw [if_pos d]
      by_cases q : 0 < i + 1 ∧ sumP N (i + 1) 0 ≤ N 2 ∧ (f (s - (i + 1)) + box < (mdA N box f must s i).2 ∨ must = true ∧ (mdA N box f must s i).1 = 0)
      · rw [if_pos q]
        refine ⟨⟨hi, d, q.2.1⟩, ?_⟩
        show _ = f (s - (i + 1)) + if i + 1 = 0 then 0 else box
        rw [if_neg (Nat.succ_ne_zero i)]
      · rw [if_neg q]
        exact ih
    · rw [if_neg d]
      exact ih
theorem mdA_min {N : Nat → Nat} {box : Nat} {f : Nat → Nat} {s : Nat} : ∀ i, ∀ l, l ≤ i → dle l s = true → sumP N l 0 ≤ N 2 → (mdA N box f false s i).2 ≤ lcP f box s l
  | 0, l, hl, _, _ => by
    rw [Nat.le_zero.mp hl, lcP_0]
    exact Nat.le_refl _
  | i + 1, l, hl, hd, hr => by
    have ih := mdA_min (N := N) (box := box) (f := f) (s := s) i
    rw [mdA_s]
    by_cases d : dle (i + 1) s = true
    · rw [if_pos d]
      by_cases q : 0 < i + 1 ∧ sumP N (i + 1) 0 ≤ N 2 ∧ (f (s - (i + 1)) + box < (mdA N box f false s i).2 ∨ false = true ∧ (mdA N box f false s i).1 = 0)
      · rw [if_pos q]
        have q3 : f (s - (i + 1)) + box < (mdA N box f false s i).2 := by
          rcases q.2.2 with z | z
          · exact z
          · exact absurd z.1 (by decide)
        by_cases e : l = i + 1
        · subst e
          unfold lcP
          rw [if_neg (Nat.succ_ne_zero i)]
          exact Nat.le_refl _
        · have := ih l (by omega) hd hr
          show f (s - (i + 1)) + box ≤ _
          omega
      · rw [if_neg q]
        by_cases e : l = i + 1
        · subst e
          unfold lcP
          rw [if_neg (Nat.succ_ne_zero i)]
          exact Nat.le_of_not_lt fun z => q ⟨Nat.succ_pos i, hr, Or.inl z⟩
        · exact ih l (by omega) hd hr
    · rw [if_neg d]
      by_cases e : l = i + 1
      · subst e
        exact absurd hd d
      · exact ih l (by omega) hd hr
theorem pick_LD {N : Nat → Nat} {box : Nat} {f : Nat → Nat} {must : Bool} {s : Nat} (hs : s < 125) : LD N s (pickP N box f must s) := by
  unfold pickP
  rw [pick_md hs]
  exact (mdA_inv s (Nat.le_refl _)).1
theorem pick_min {N : Nat → Nat} {box : Nat} {f : Nat → Nat} {s l : Nat} (hs : s < 125) (hl : LD N s l) : lcP f box s (pickP N box f false s) ≤ lcP f box s l := by
  unfold pickP
  rw [pick_md hs, ← (mdA_inv s (Nat.le_refl _)).2]
  exact mdA_min s l hl.1 hl.2.1 hl.2.2
theorem mixP_lc {N : Nat → Nat} {box : Nat} {f : Nat → Nat} {s l : Nat} : mixP N box f s l = N 3 * f s + (4 - N 3) * lcP f box s l := rfl
theorem mix_mono {N : Nat → Nat} {box : Nat} {f g : Nat → Nat} {s l : Nat} (h : ∀ t, t ≤ s → f t ≤ g t) : mixP N box f s l ≤ mixP N box g s l := by
  rw [mixP_lc, mixP_lc]
  exact Nat.add_le_add (Nat.mul_le_mul_left _ (h s (Nat.le_refl _))) (Nat.mul_le_mul_left _ (Nat.add_le_add_right (h (s - l) (Nat.sub_le _ _)) _))
theorem bst_mix {N : Nat → Nat} {d : Nat} {f g : Nat → Nat} {s l : Nat} (hs : s < 125) (h : ∀ t, t ≤ s → f t ≤ g t) (hl : LD N s l) : bstP N d false f s ≤ mixP N (boxP N d) g s l := by
  refine Nat.le_trans ?_ (mix_mono h)
  unfold bstP
  rw [mixP_lc, mixP_lc]
  exact Nat.add_le_add_left (Nat.mul_le_mul_left _ (pick_min hs hl)) _
theorem swS_mono {N : Nat → Nat} (h4 : N 4 ≤ 3) {U : Nat} {f g : Nat → Nat} (h : ∀ t, t < 5 ^ N 4 → f t ≤ g t) : ∀ j, j ≤ N 4 → ∀ t, t < 5 ^ N 4 → swS N U f j t ≤ swS N U g j t
  | 0, _, t, ht => h t ht
  | j + 1, hj, t, ht => by
    have ih := swS_mono h4 (U := U) h j (by omega)
    show swA N j (U * 4 ^ j) (swS N U f j) t ≤ swA N j (U * 4 ^ j) (swS N U g j) t
    unfold swA
    refine Nat.add_le_add (Nat.mul_le_mul_left _ ?_) (Nat.mul_le_mul_left _ (ih t ht))
    by_cases d : dig t j < 4
    · rw [if_pos d, if_pos d]
      exact ih _ (dig_up h4 (by omega) ht d)
    · rw [if_neg d, if_neg d]
      exact Nat.add_le_add_right (ih t ht) _
theorem swD_mono {N : Nat → Nat} (h4 : N 4 ≤ 3) {d : Nat} {f g : Nat → Nat} (h : ∀ t, t < 5 ^ N 4 → f t ≤ g t) {t : Nat} (ht : t < 5 ^ N 4) : swD N d f t ≤ swD N d g t := by
  unfold swD
  exact Nat.add_le_add_right (swS_mono h4 h _ (Nat.le_refl _) t ht) _
/-! what is filled in is a load -/
def flR (N : Nat → Nat) (s hold k : Nat) (x : Nat × Nat) : Prop := ∃ n : Nat → Nat, (∀ j, n j ≤ dig s j) ∧ (∀ j, j < N 4 → (N (5 + 5 * j + 2) < hold ∨ (N (5 + 5 * j + 2) = hold ∧ k ≤ j)) → n j = 0) ∧ x.2 = sumN (N 4) (fun j => n j * 5 ^ j) ∧ x.1 + sumN (N 4) (fun j => n j * N (5 + 5 * j + 0)) = N 2
theorem flR_step {N : Nat → Nat} {s hold k : Nat} {p : Nat × Nat} (hk : k < N 4) (h : flR N s hold k p) : flR N s hold (k + 1) (fillStep N s hold k p) := by
  obtain ⟨n, h1, h2, h3, h5⟩ := h
  unfold fillStep
  split
  · next q =>
    have h0 : n k = 0 := h2 k hk (Or.inr ⟨q.1, Nat.le_refl _⟩)
    refine ⟨numP n k (min (dig s k) (p.1 / N (5 + 5 * k + 0))), fun j => ?_, fun j hj hc => ?_, ?_, ?_⟩
    · by_cases e : j = k
      · subst e; rw [numP_eq]; exact Nat.min_le_left _ _
      · rw [numP_ne e]; exact h1 j
    · rw [numP_ne (fun e => by subst e; omega)]
      exact h2 j hj (by omega)
    · have e := sumN_put (n := N 4) (s := k) (v := min (dig s k) (p.1 / N (5 + 5 * k + 0))) (g := n) (φ := fun j => 5 ^ j) hk
      rw [h0, Nat.zero_mul, Nat.add_zero] at e
      show p.2 + _ = _
      rw [e, h3]
    · have e := sumN_put (n := N 4) (s := k) (v := min (dig s k) (p.1 / N (5 + 5 * k + 0))) (g := n) (φ := fun j => N (5 + 5 * j + 0)) hk
      rw [h0, Nat.zero_mul, Nat.add_zero] at e
      show p.1 - min (dig s k) (p.1 / N (5 + 5 * k + 0)) * N (5 + 5 * k + 0) + _ = _
      rw [e]
      have m : min (dig s k) (p.1 / N (5 + 5 * k + 0)) * N (5 + 5 * k + 0) ≤ p.1 := Nat.le_trans (Nat.mul_le_mul_right _ (Nat.min_le_right _ _)) (Nat.div_mul_le_self _ _)
      omega
  · exact ⟨n, h1, fun j hj hc => h2 j hj (by omega), h3, h5⟩
theorem flR_in {N : Nat → Nat} {s hold : Nat} {p : Nat × Nat} (h : flR N s hold 0 p) : ∀ k, k ≤ N 4 → flR N s hold k (fillIn N s hold k p)
  | 0, _ => h
  | k + 1, hk => flR_step (by omega) (flR_in h k (by omega))
theorem flR_out {N : Nat → Nat} {s : Nat} (hB : ∀ j, j < N 4 → N (5 + 5 * j + 2) ≤ 9) : ∀ c, c ≤ 10 → ∃ n : Nat → Nat, (∀ j, n j ≤ dig s j) ∧ (∀ j, j < N 4 → N (5 + 5 * j + 2) + c < 10 → n j = 0) ∧ (fillOut N s c).2 = sumN (N 4) (fun j => n j * 5 ^ j) ∧ (fillOut N s c).1 + sumN (N 4) (fun j => n j * N (5 + 5 * j + 0)) = N 2
  | 0, _ => by
    refine ⟨fun _ => 0, fun _ => Nat.zero_le _, fun _ _ _ => rfl, ?_, ?_⟩
    · show 0 = _
      exact ((sumN_congr fun i _ => Nat.zero_mul _).trans (sumN_0 (N 4))).symm
    · show N 2 + _ = N 2
      have e : sumN (N 4) (fun j => 0 * N (5 + 5 * j + 0)) = 0 := (sumN_congr fun i _ => Nat.zero_mul _).trans (sumN_0 (N 4))
      exact (congrArg (fun z => N 2 + z) e).trans (Nat.add_zero _)
  | c + 1, hc => by
    obtain ⟨n, h1, h2, h3, h5⟩ := flR_out (s := s) hB c (by omega)
    obtain ⟨n', g1, g2, g3, g5⟩ := flR_in (N := N) (s := s) (hold := 9 - c) (p := fillOut N s c) ⟨n, h1, fun j hj q => h2 j hj (by omega), h3, h5⟩ (N 4) (Nat.le_refl _)
    exact ⟨n', g1, fun j hj q => g2 j hj (Or.inl (by omega)), g3, g5⟩
theorem dig_sumA : ∀ (m : Fin 4) (a b c : Fin 5) (k : Fin 3), dig (sumN m.val (fun j => (match j with | 0 => a.val | 1 => b.val | _ => c.val) * 5 ^ j)) k.val = if k.val < m.val then (match k.val with | 0 => a.val | 1 => b.val | _ => c.val) else 0 := by decide +kernel
theorem dig_sum {m k : Nat} {n : Nat → Nat} (hm : m ≤ 3) (hk : k < 3) (hn : ∀ j, n j < 5) : dig (sumN m (fun j => n j * 5 ^ j)) k = if k < m then n k else 0 := by
  have h := dig_sumA ⟨m, by omega⟩ ⟨n 0, hn 0⟩ ⟨n 1, hn 1⟩ ⟨n 2, hn 2⟩ ⟨k, hk⟩
  dsimp only at h
  have e : ∀ j, j < 3 → (match j with | 0 => n 0 | 1 => n 1 | _ => n 2) = n j := fun j hj => by
    match j, hj with
    | 0, _ => rfl
    | 1, _ => rfl
    | 2, _ => rfl
  rw [e k hk] at h
  rw [← h]
  exact congrArg (fun x => dig x k) (sumN_congr fun j hj => by rw [e j (by omega)])
theorem fill_LD {N : Nat → Nat} {s : Nat} (hN : HOK N) (hs : s < 5 ^ N 4) : LD N s (fillP N s) := by
  obtain ⟨n, h1, -, h3, h5⟩ := flR_out (N := N) (s := s) (fun j hj => (hN.2.2.2.2 j hj 2 (by decide)).2) 10 (Nat.le_refl _)
  have hn : ∀ j, n j < 5 := fun j => Nat.lt_of_le_of_lt (h1 j) (dig_lt s j)
  have e : ∀ k, k < 3 → dig (fillP N s) k = if k < N 4 then n k else 0 := fun k hk => by
    show dig (fillOut N s 10).2 k = _
    rw [h3]
    exact dig_sum hN.1.1 hk hn
  refine ⟨fillP_le hN hs, dle_of fun k hk => ?_, ?_⟩
  · rw [e k hk]
    split
    · exact h1 k
    · exact Nat.zero_le _
  · have : sumP N (fillP N s) 0 = sumN (N 4) (fun j => n j * N (5 + 5 * j + 0)) := by
      unfold sumP
      exact sumN_congr fun j hj => by rw [e j (by have := hN.1.1; omega), if_pos hj]
    omega
theorem ruL_LD {N : Nat → Nat} (hN : HOK N) {κ b m : Nat} {rf : Nat → Bool} {d s : Nat} (hs : s < 5 ^ N 4) : LD N s (ruL N κ b m rf d s) := by
  have h5 := n125N hN
  unfold ruL
  split
  · exact pick_LD (by omega)
  · split
    · exact fill_LD hN hs
    · exact LD_0 N s
theorem ruL_fill {N : Nat → Nat} {κ b m : Nat} {rf : Nat → Bool} {d s : Nat} (h : κ ≠ 4) : ruL N κ b m rf d s = 0 ∨ ruL N κ b m rf d s = fillP N s := by
  unfold ruL
  rw [if_neg h]
  split
  · exact Or.inr rfl
  · exact Or.inl rfl
theorem rCs_ge {N : Nat → Nat} (hN : HOK N) {κ b m : Nat} {rf : Nat → Bool} : ∀ d s, s < 5 ^ N 4 → cst N d s ≤ rCs N κ b m rf d s
  | 0, _, _ => Nat.le_refl _
  | d + 1, s, hs => by
    have h5 := n125N hN
    exact bst_mix (by omega) (fun t ht => swD_mono hN.1.1 (rCs_ge hN d) (by omega)) (ruL_LD hN hs)
theorem prC_ge {N : Nat → Nat} (hN : HOK N) {d0 : Nat} (h1 : 1 ≤ d0) : ∀ i s, s < 5 ^ N 4 → cst N (d0 - 1 + i) s ≤ prC N d0 i s
  | 0, _, _ => Nat.le_refl _
  | i + 1, s, hs => by
    have h5 := n125N hN
    obtain ⟨e, rfl⟩ : ∃ e, d0 = e + 1 := ⟨d0 - 1, by omega⟩
    have ih := prC_ge hN h1 i
    rw [show e + 1 - 1 + i = e + i by omega] at ih
    rw [show e + 1 - 1 + (i + 1) = e + i + 1 by omega]
    show bstP N (e + i + 1) false (swD N (e + i + 1) (cst N (e + i))) s ≤ bstP N (e + 1 + i) (decide (i = 0)) (swD N (e + 1 + i) (prC N (e + 1) i)) s
    rw [show e + 1 + i = e + i + 1 by omega]
    exact bst_mix (by omega) (fun t ht => swD_mono hN.1.1 ih (by omega)) (pick_LD (by omega))
theorem cst_mix {N : Nat → Nat} (hN : HOK N) {d s l : Nat} (h1 : 1 ≤ d) (hs : s < 5 ^ N 4) (hl : LD N s l) : cst N d s ≤ mixP N (boxP N d) (aft N d) s l := by
  have h5 := n125N hN
  obtain ⟨e, rfl⟩ : ∃ e, d = e + 1 := ⟨d - 1, by omega⟩
  exact bst_mix (by omega) (fun _ _ => Nat.le_refl _) hl
/-! states that can be come to; boxes -/
theorem ctA_pos {f : Nat → Nat} : ∀ n, 0 < sumN n f → 1 ≤ ctA f n
  | 0, h => absurd h (Nat.lt_irrefl 0)
  | n + 1, h => by
    have h : 0 < sumN n f + f n := h
    unfold ctA
    by_cases e : f n = 0
    · rw [if_pos e]
      exact ctA_pos n (by omega)
    · rw [if_neg e]
      omega
theorem reach_pos {N : Nat → Nat} (hN : HOK N) {L : Nat → Nat → Nat} (hL : ∀ d, 1 ≤ d → d ≤ 6 → ∀ s, s < 5 ^ N 4 → L d s ≤ s) {i : Nat} (hi : i ≤ N 0) : 1 ≤ ctA (chP N L i) (5 ^ N 4) :=
  ctA_pos _ (by rw [chP_mass hN hL i hi]; exact Nat.pow_pos (by decide))
theorem sprS_le {N ld f : Nat → Nat} : ∀ n, sprS N ld f n ≤ sumN n f * 4
  | 0 => Nat.le_refl _
  | n + 1 => by
    have ih := sprS_le (N := N) (ld := ld) (f := f) n
    show sprS N ld f (n + 1) ≤ (sumN n f + f n) * 4
    unfold sprS
    rw [Nat.add_mul]
    split
    · omega
    · have : f n * (4 - N 3) ≤ f n * 4 := Nat.mul_le_mul_left _ (Nat.sub_le _ _)
      omega
theorem boP_le {N : Nat → Nat} (hN : HOK N) {L : Nat → Nat → Nat} (hL : ∀ d, 1 ≤ d → d ≤ 6 → ∀ s, s < 5 ^ N 4 → L d s ≤ s) : ∀ i, i ≤ N 0 → boP N L i ≤ i * sclP N (N 0)
  | 0, _ => Nat.zero_le _
  | i + 1, hi => by
    have ih := boP_le hN hL i (by omega)
    have m := sprS_le (N := N) (ld := L (N 0 - i)) (f := chP N L i) (5 ^ N 4)
    rw [chP_mass hN hL i (by omega)] at m
    show boP N L i + sprS N (L (N 0 - i)) (chP N L i) (5 ^ N 4) * 4 ^ ((N 0 - i) * (1 + N 4) - 1) ≤ (i + 1) * sclP N (N 0)
    rw [Nat.add_mul, Nat.one_mul]
    refine Nat.add_le_add ih (Nat.le_trans (Nat.mul_le_mul_right _ m) ?_)
    have p : 1 ≤ (N 0 - i) * (1 + N 4) := Nat.mul_pos (by omega) (by omega)
    have q : (1 + N 4) * i + (N 0 - i) * (1 + N 4) = N 0 * (1 + N 4) := by
      rw [Nat.mul_comm (1 + N 4) i, ← Nat.add_mul]
      congr 1
      omega
    unfold sclP
    rw [← Nat.pow_succ, ← Nat.pow_add]
    exact Nat.pow_le_pow_right (by decide) (by omega)
/-! the boy's rule is the cheapest -/
theorem boA_min {S : SX} {N : Nat → Nat} : ∀ n, (∀ t, (boA S N n).1 = some t → t < n ∧ ∃ q, S.2.2.2.1 t = some (.inr q) ∧ (boA S N n).2 = rCs N q.1 q.2.1 q.2.2.1 q.2.2.2 (N 0) 0) ∧ ∀ s q, s < n → S.2.2.2.1 s = some (.inr q) → (boA S N n).1 ≠ none ∧ (boA S N n).2 ≤ rCs N q.1 q.2.1 q.2.2.1 q.2.2.2 (N 0) 0
  | 0 => ⟨fun t h => (by cases h), fun s q h => absurd h (Nat.not_lt_zero _)⟩
  | n + 1 => by
    obtain ⟨i1, i2⟩ := boA_min (S := S) (N := N) n
    match e : S.2.2.2.1 n with
    | none =>
      have eq : boA S N (n + 1) = boA S N n := by unfold boA; rw [e]; cases n <;> rfl
      rw [eq]
      refine ⟨fun t h => ⟨by have := (i1 t h).1; omega, (i1 t h).2⟩, fun s q hs hq => i2 s q ?_ hq⟩
      have : s ≠ n := fun z => by subst z; rw [e] at hq; cases hq
      omega
    | some (.inl p) =>
      have eq : boA S N (n + 1) = boA S N n := by unfold boA; rw [e]; cases n <;> rfl
      rw [eq]
      refine ⟨fun t h => ⟨by have := (i1 t h).1; omega, (i1 t h).2⟩, fun s q hs hq => i2 s q ?_ hq⟩
      have : s ≠ n := fun z => by subst z; rw [e] at hq; cases hq
      omega
    | some (.inr p) =>
      have eq : boA S N (n + 1) = if (boA S N n).1 = none ∨ rCs N p.1 p.2.1 p.2.2.1 p.2.2.2 (N 0) 0 < (boA S N n).2 then (some n, rCs N p.1 p.2.1 p.2.2.1 p.2.2.2 (N 0) 0) else boA S N n := by
        show (match S.2.2.2.1 n with
          | some (.inr q) => if (boA S N n).1 = none ∨ rCs N q.1 q.2.1 q.2.2.1 q.2.2.2 (N 0) 0 < (boA S N n).2 then (some n, rCs N q.1 q.2.1 q.2.2.1 q.2.2.2 (N 0) 0) else boA S N n
          | _ => boA S N n) = _
        rw [e]
      rw [eq]
      by_cases c : (boA S N n).1 = none ∨ rCs N p.1 p.2.1 p.2.2.1 p.2.2.2 (N 0) 0 < (boA S N n).2
      · rw [if_pos c]
        refine ⟨fun t h => ?_, fun s q hs hq => ⟨fun h => (by cases h), ?_⟩⟩
        · cases h
          exact ⟨by omega, p, e, rfl⟩
        · by_cases z : s = n
          · subst z
            rw [e] at hq
            cases hq
            exact Nat.le_refl _
          · have := i2 s q (by omega) hq
            rcases c with c | c
            · exact absurd c this.1
            · exact Nat.le_trans (Nat.le_of_lt c) this.2
      · rw [if_neg c]
        refine ⟨fun t h => ⟨by have := (i1 t h).1; omega, (i1 t h).2⟩, fun s q hs hq => ?_⟩
        by_cases z : s = n
        · subst z
          rw [e] at hq
          cases hq
          exact ⟨fun h => c (Or.inl h), Nat.le_of_not_lt fun h => c (Or.inr h)⟩
        · exact i2 s q (by omega) hq
