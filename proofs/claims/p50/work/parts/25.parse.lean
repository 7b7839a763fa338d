/-! what a read statement keeps -/
def tk0 (B : Nat → Nat) (S : Nat) (τ : TK) : Prop := tkOK B S 0 τ
theorem adv_tk {B : Nat → Nat} {S p : Nat} (hp : p ≤ S) : tk0 B S (adv B S p) := by
  obtain ⟨h1, h2⟩ := adv_ok (B := B) hp
  exact ⟨Nat.zero_le _, h2⟩
theorem numH_lt {B : Nat → Nat} {S v : Nat} {τ : TK} (hk : tk0 B S τ) (h : numH B τ = some v) : v ≤ 99 ∧ τ.1 = 2 := by
  obtain ⟨q1, q2, q3, q4, q5, q6, q7⟩ := hk
  unfold numH at h
  split at h
  · next h2 =>
    cases h
    exact ⟨numD_lt h2.2 (fun j h3 h4 => (q7 (Or.inr h2.1) j h3 (by omega)).trans h2.1), h2.1⟩
  · cases h
theorem rdN_some {B : Nat → Nat} {S : Nat} {N : Nat → Nat} {i lo hi v : Nat} {τ : TK} (hn : numH B (adv B S τ.2.2) = some v) (h : lo ≤ v ∧ v ≤ hi) : rdN B S N i lo hi τ = (true, numP N i v, adv B S (adv B S τ.2.2).2.2) := by
  unfold rdN
  rw [hn]
  exact if_pos h
theorem rdN_bad {B : Nat → Nat} {S : Nat} {N : Nat → Nat} {i lo hi v : Nat} {τ : TK} (hn : numH B (adv B S τ.2.2) = some v) (h : ¬ (lo ≤ v ∧ v ≤ hi)) : rdN B S N i lo hi τ = (false, N, adv B S τ.2.2) := by
  unfold rdN
  rw [hn]
  exact if_neg h
theorem rdN_none {B : Nat → Nat} {S : Nat} {N : Nat → Nat} {i lo hi : Nat} {τ : TK} (hn : numH B (adv B S τ.2.2) = none) : rdN B S N i lo hi τ = (false, N, adv B S τ.2.2) := by
  unfold rdN
  rw [hn]
theorem rdN_inv {B : Nat → Nat} {S : Nat} {N : Nat → Nat} {i lo hi : Nat} {τ : TK} (hk : tk0 B S τ) : tk0 B S (rdN B S N i lo hi τ).2.2 ∧ ((rdN B S N i lo hi τ).1 = true → τ.2.2 < (rdN B S N i lo hi τ).2.2.2.2 ∧ ∃ v, lo ≤ v ∧ v ≤ hi ∧ (rdN B S N i lo hi τ).2.1 = numP N i v) := by
  have h0 := hk.2.2.1
  have h1 := adv_ok (B := B) h0
  have h2 := adv_tk (B := B) h0
  cases hn : numH B (adv B S τ.2.2) with
  | none => rw [rdN_none hn]; exact ⟨h2, fun h => by cases h⟩
  | some v =>
    by_cases h : lo ≤ v ∧ v ≤ hi
    · rw [rdN_some hn h]
      have h3 := adv_ok (B := B) h1.2.2.1
      have h4 := h1.2.2.2.2.2.1 (by rw [(numH_lt h2 hn).2]; decide)
      refine ⟨adv_tk h1.2.2.1, fun _ => ⟨?_, v, h.1, h.2, rfl⟩⟩
      show τ.2.2 < (adv B S (adv B S τ.2.2).2.2).2.2
      have := h1.1
      have := h3.1
      have := h3.2.1
      omega
    · rw [rdN_bad hn h]
      exact ⟨h2, fun h => by cases h⟩
theorem bnd_t {r : PR} {f : (Nat → Nat) → TK → PR} (h : r.1 = true) : bnd r f = f r.2.1 r.2.2 := if_pos h
theorem bnd_f {r : PR} {f : (Nat → Nat) → TK → PR} (h : ¬ r.1 = true) : bnd r f = r := if_neg h
theorem sLo_eq : ∀ w, (sLo w : Int) = mLo2 w
  | 0 => rfl
  | w + 1 => rfl
theorem sHi_eq : ∀ w, (sHi w : Int) = mHi2 w
  | 0 => rfl
  | 1 => rfl
  | 2 => rfl
  | w + 3 => rfl
theorem srS_inv {B : Nat → Nat} {S : Nat} {N : Nat → Nat} {i : Nat} {τ : TK} (hk : tk0 B S τ) (hz : N (i + 3) = 0 ∧ N (i + 4) = 0) : ∀ j, j ≤ 5 → tk0 B S (srS B S N i τ j).2.2 ∧ τ.2.2 ≤ (srS B S N i τ j).2.2.2.2 ∧ ((srS B S N i τ j).1 = true → (∀ q, q < i ∨ i + j ≤ q → (srS B S N i τ j).2.1 q = N q) ∧ ∀ w, w < j → sLo w ≤ (srS B S N i τ j).2.1 (i + w) ∧ (srS B S N i τ j).2.1 (i + w) ≤ sHi w)
  | 0, _ => ⟨hk, Nat.le_refl _, fun _ => ⟨fun _ _ => rfl, fun w h => absurd h (Nat.not_lt_zero _)⟩⟩
  | j + 1, hj => by
    obtain ⟨a1, a2, a3⟩ := srS_inv hk hz j (by omega)
    have e : srS B S N i τ (j + 1) = bnd (srS B S N i τ j) fun N τ => if j < 3 then tdN B S (swI j) N (i + j) (sLo j) (sHi j) τ else opN B S (swI j) N (i + j) (sLo j) (sHi j) τ := rfl
    rw [e]
    generalize srS B S N i τ j = r at a1 a2 a3
    by_cases hr : r.1 = true
    · rw [bnd_t hr]
      obtain ⟨b1, b2⟩ := a3 hr
      have main : ∀ P : PR, P = rdN B S r.2.1 (i + j) (sLo j) (sHi j) r.2.2 → tk0 B S P.2.2 ∧ τ.2.2 ≤ P.2.2.2.2 ∧ (P.1 = true → (∀ q, q < i ∨ i + (j + 1) ≤ q → P.2.1 q = N q) ∧ ∀ w, w < j + 1 → sLo w ≤ P.2.1 (i + w) ∧ P.2.1 (i + w) ≤ sHi w) := by
        rintro P rfl
        obtain ⟨c1, c2⟩ := rdN_inv (N := r.2.1) (i := i + j) (lo := sLo j) (hi := sHi j) a1
        refine ⟨c1, ?_, fun hP => ?_⟩
        · by_cases hP : (rdN B S r.2.1 (i + j) (sLo j) (sHi j) r.2.2).1 = true
          · have := (c2 hP).1
            omega
          · have h1 := adv_ok (B := B) a1.2.2.1
            cases hn : numH B (adv B S r.2.2.2.2) with
            | none => rw [rdN_none hn]; show τ.2.2 ≤ (adv B S r.2.2.2.2).2.2; have := h1.1; have := h1.2.1; omega
            | some v =>
              by_cases h : sLo j ≤ v ∧ v ≤ sHi j
              · exact absurd (by rw [rdN_some hn h]) hP
              · rw [rdN_bad hn h]; show τ.2.2 ≤ (adv B S r.2.2.2.2).2.2; have := h1.1; have := h1.2.1; omega
        · obtain ⟨-, v, hv1, hv2, hv⟩ := c2 hP
          rw [hv]
          refine ⟨fun q hq => ?_, fun w hw => ?_⟩
          · unfold numP
            rw [if_neg (by omega)]
            exact b1 q (by omega)
          · unfold numP
            by_cases ew : w = j
            · subst ew
              rw [if_pos rfl]
              exact ⟨hv1, hv2⟩
            · rw [if_neg (by omega)]
              exact b2 w (by omega)
      have same : 3 ≤ j → tk0 B S r.2.2 ∧ τ.2.2 ≤ r.2.2.2.2 ∧ (true = true → (∀ q, q < i ∨ i + (j + 1) ≤ q → r.2.1 q = N q) ∧ ∀ w, w < j + 1 → sLo w ≤ r.2.1 (i + w) ∧ r.2.1 (i + w) ≤ sHi w) := by
        intro h3
        refine ⟨a1, a2, fun _ => ⟨fun q hq => b1 q (by omega), fun w hw => ?_⟩⟩
        by_cases ew : w = j
        · subst ew
          rw [b1 (i + w) (by omega)]
          rcases (show w = 3 ∨ w = 4 by omega) with rfl | rfl
          · rw [hz.1]; decide
          · rw [hz.2]; decide
        · exact b2 w (by omega)
      by_cases h3 : j < 3
      · rw [if_pos h3]
        unfold tdN
        split
        · exact main _ rfl
        · exact ⟨a1, a2, fun h => by cases h⟩
      · rw [if_neg h3]
        unfold opN
        split
        · exact main _ rfl
        · exact same (by omega)
    · rw [bnd_f hr]
      exact ⟨a1, a2, fun h => absurd h hr⟩
/-- a house as it may be -/
def HOK (N : Nat → Nat) : Prop := HouseB N ∧ (1 ≤ N 0 ∧ N 0 ≤ 6) ∧ (1 ≤ N 2 ∧ N 2 ≤ 40) ∧ N 3 ≤ 3 ∧ ∀ k, k < N 4 → ∀ w, w < 5 → sLo w ≤ N (5 + 5 * k + w) ∧ N (5 + 5 * k + w) ≤ sHi w
/-- what a house that isn't told whole keeps of sorts to come -/
def zzN (N : Nat → Nat) : Prop := ∀ k, N 4 ≤ k → k < 3 → N (5 + 5 * k + 3) = 0 ∧ N (5 + 5 * k + 4) = 0
theorem numP_ne {N : Nat → Nat} {i v j : Nat} (h : j ≠ i) : numP N i v j = N j := if_neg h
theorem numP_eq {N : Nat → Nat} {i v : Nat} : numP N i v i = v := if_pos rfl
theorem HOK.put {N : Nat → Nat} {i v : Nat} (h : HOK N) (hi : i < 4) (h0 : i = 0 → 1 ≤ v ∧ v ≤ 6) (h1 : i = 1 → v ≤ 99) (h2 : i = 2 → 1 ≤ v ∧ v ≤ 40) (h3 : i = 3 → v ≤ 3) : HOK (numP N i v) := by
  obtain ⟨⟨a1, a2⟩, b, c, d, e⟩ := h
  refine ⟨⟨by rw [numP_ne (by omega)]; exact a1, fun j hj => ?_⟩, ?_, ?_, ?_, fun k hk w hw => ?_⟩
  · by_cases e : j = i
    · subst e; rw [numP_eq]; omega
    · rw [numP_ne e]; exact a2 j hj
  · by_cases e : i = 0
    · subst e; rw [numP_eq]; exact h0 rfl
    · rw [numP_ne (by omega)]; exact b
  · by_cases e : i = 2
    · subst e; rw [numP_eq]; exact h2 rfl
    · rw [numP_ne (by omega)]; exact c
  · by_cases e : i = 3
    · subst e; rw [numP_eq]; exact h3 rfl
    · rw [numP_ne (by omega)]; exact d
  · rw [numP_ne (by omega)] at hk
    rw [numP_ne (by omega)]
    exact e k hk w hw
theorem zzN.put {N : Nat → Nat} {i v : Nat} (h : zzN N) (hi : i < 4) : zzN (numP N i v) := by
  intro k h1 h2
  rw [numP_ne (by omega)] at h1
  rw [numP_ne (by omega), numP_ne (by omega)]
  exact h k h1 h2
theorem numP_id {N : Nat → Nat} {i v : Nat} (h : N i = v) : numP N i v = N := by
  funext j
  unfold numP
  split
  · next e => rw [e, h]
  · rfl
theorem zzN.id {N : Nat → Nat} (h : zzN N) (h3 : N 4 < 3) : numP (numP N (5 + 5 * N 4 + 3) 0) (5 + 5 * N 4 + 4) 0 = N := by
  obtain ⟨h1, h2⟩ := h (N 4) (Nat.le_refl _) h3
  rw [numP_id h1, numP_id h2]
theorem sHi_le (w : Nat) : sHi w ≤ 99 := by
  match w with
  | 0 => decide
  | 1 => decide
  | 2 => decide
  | w + 3 => exact Nat.le_refl _
theorem stP_inv {B : Nat → Nat} {S : Nat} {N : Nat → Nat} {τ : TK} (hk : tk0 B S τ) (hN : HOK N) (hz : zzN N) : tk0 B S (stP B S N τ).2.2 ∧ ((stP B S N τ).1 = true → τ.2.2 < (stP B S N τ).2.2.2.2 ∧ HOK (stP B S N τ).2.1 ∧ zzN (stP B S N τ).2.1) := by
  unfold stP
  split
  · obtain ⟨c1, c2⟩ := rdN_inv (N := N) (i := 0) (lo := 1) (hi := 6) hk
    refine ⟨c1, fun h => ?_⟩
    obtain ⟨d1, v, d2, d3, d4⟩ := c2 h
    rw [d4]
    exact ⟨d1, hN.put (by decide) (fun _ => ⟨d2, d3⟩) (fun h => by cases h) (fun h => by cases h) (fun h => by cases h), hz.put (by decide)⟩
  · split
    · obtain ⟨c1, c2⟩ := rdN_inv (N := N) (i := 1) (lo := 0) (hi := 99) hk
      generalize rdN B S N 1 0 99 τ = r at c1 c2
      by_cases hr : r.1 = true
      · rw [bnd_t hr]
        obtain ⟨d1, v, d2, d3, d4⟩ := c2 hr
        have hN1 : HOK r.2.1 := by rw [d4]; exact hN.put (by decide) (fun h => by cases h) (fun _ => d3) (fun h => by cases h) (fun h => by cases h)
        have hz1 : zzN r.2.1 := by rw [d4]; exact hz.put (by decide)
        unfold tdN
        split
        · obtain ⟨e1, e2⟩ := rdN_inv (N := r.2.1) (i := 2) (lo := 1) (hi := 40) c1
          refine ⟨e1, fun h => ?_⟩
          obtain ⟨f1, u, f2, f3, f4⟩ := e2 h
          rw [f4]
          exact ⟨by omega, hN1.put (by decide) (fun h => by cases h) (fun h => by cases h) (fun _ => ⟨f2, f3⟩) (fun h => by cases h), hz1.put (by decide)⟩
        · exact ⟨c1, fun h => by cases h⟩
      · rw [bnd_f hr]
        exact ⟨c1, fun h => absurd h hr⟩
    · split
      · obtain ⟨c1, c2⟩ := rdN_inv (N := N) (i := 3) (lo := 0) (hi := 3) hk
        refine ⟨c1, fun h => ?_⟩
        obtain ⟨d1, v, d2, d3, d4⟩ := c2 h
        rw [d4]
        exact ⟨d1, hN.put (by decide) (fun h => by cases h) (fun h => by cases h) (fun h => by cases h) (fun _ => d3), hz.put (by decide)⟩
      · split
        · next h4 =>
          rw [hz.id h4.2]
          have hA := adv_ok (B := B) hk.2.2.1
          obtain ⟨c1, c2, c3⟩ := srS_inv (N := N) (i := 5 + 5 * N 4) (adv_tk (B := B) hk.2.2.1) (hz (N 4) (Nat.le_refl _) h4.2) 5 (Nat.le_refl _)
          -- the word itself is passed
          have hw : τ.2.2 < (srS B S N (5 + 5 * N 4) (adv B S τ.2.2) 5).2.2.2.2 ∨ ¬ (srS B S N (5 + 5 * N 4) (adv B S τ.2.2) 5).1 = true := by
            by_cases hr : (srS B S N (5 + 5 * N 4) (adv B S τ.2.2) 5).1 = true
            · refine Or.inl ?_
              -- room's word stands behind
              by_cases h0 : (adv B S τ.2.2).1 = 0
              · exfalso
                have e1 : srS B S N (5 + 5 * N 4) (adv B S τ.2.2) 1 = (false, N, adv B S τ.2.2) := by
                  have hn : ¬ isWd B (adv B S τ.2.2) 2 = true := by
                    intro q
                    have := (isWd_iff.mp q).1
                    omega
                  show tdN B S 2 N _ _ _ (adv B S τ.2.2) = _
                  unfold tdN
                  rw [if_neg hn]
                have e2 : ∀ j, srS B S N (5 + 5 * N 4) (adv B S τ.2.2) (j + 1) = (false, N, adv B S τ.2.2) := by
                  intro j
                  induction j with
                  | zero => exact e1
                  | succ j ih => show bnd (srS B S N (5 + 5 * N 4) (adv B S τ.2.2) (j + 1)) _ = _; rw [ih]; rfl
                rw [e2 4] at hr
                cases hr
              · have := hA.2.2.2.2.2.1 h0
                have := hA.1
                omega
            · exact Or.inr hr
          generalize srS B S N (5 + 5 * N 4) (adv B S τ.2.2) 5 = r at c1 c2 c3 hw
          by_cases hr : r.1 = true
          · rw [bnd_t hr]
            obtain ⟨b1, b2⟩ := c3 hr
            have hq : ∀ q, q < 5 + 5 * N 4 ∨ 5 + 5 * N 4 + 5 ≤ q → r.2.1 q = N q := b1
            obtain ⟨⟨a1, a2⟩, b, c, d, e⟩ := hN
            have e4 : r.2.1 4 = N 4 := hq 4 (by omega)
            refine ⟨c1, fun _ => ⟨hw.resolve_right (fun h => h hr), ?_, ?_⟩⟩
            · show HOK (numP r.2.1 4 (r.2.1 4 + 1))
              rw [e4]
              refine ⟨⟨?_, fun j hj => ?_⟩, ?_, ?_, ?_, fun k hk' w hw' => ?_⟩
              · rw [numP_eq]; omega
              · by_cases e5 : j = 4
                · subst e5; rw [numP_eq]; omega
                · rw [numP_ne e5]
                  by_cases e6 : j < 5 + 5 * N 4 ∨ 5 + 5 * N 4 + 5 ≤ j
                  · rw [hq j e6]; exact a2 j hj
                  · obtain ⟨w, rfl⟩ : ∃ w, j = 5 + 5 * N 4 + w := ⟨j - (5 + 5 * N 4), by omega⟩
                    have := (b2 w (by omega)).2
                    have := sHi_le w
                    omega
              · rw [numP_ne (by omega), hq 0 (by omega)]; exact b
              · rw [numP_ne (by omega), hq 2 (by omega)]; exact c
              · rw [numP_ne (by omega), hq 3 (by omega)]; exact d
              · rw [numP_eq] at hk'
                rw [numP_ne (by omega)]
                by_cases e6 : k = N 4
                · subst e6; exact b2 w hw'
                · rw [hq _ (by omega)]; exact e k (by omega) w hw'
            · show zzN (numP r.2.1 4 (r.2.1 4 + 1))
              rw [e4]
              intro k h1 h2
              rw [numP_eq] at h1
              rw [numP_ne (by omega), numP_ne (by omega), hq _ (by omega), hq _ (by omega)]
              exact hz k (by omega) h2
          · rw [bnd_f hr]
            exact ⟨c1, fun h => absurd h hr⟩
        · exact ⟨hk, fun h => by cases h⟩
