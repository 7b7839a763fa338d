section MORE
variable {S : SX} {s : Int32} {p q i j n : Int32}
theorem sAJ_eq {V : zV} {a i : Nat} {v : Int64} : (sAJ V a i v).2.2.2 a i = v := u2_same _ _ _ _
theorem sAJ_nj {V : zV} {a i j : Nat} {v : Int64} (h : j ≠ i) : (sAJ V a i v).2.2.2 a j = V.2.2.2 a j := u2_snd _ _ h
/-- behind a statement -/
def ctP (B : Nat → Nat) (S n : Nat) (M : Nat → Nat) (τ : TK) : Option Nat × (Nat → Nat) := if τ.1 = 0 then (if 0 < M 4 then none else some S, M) else if τ.1 = 3 then rdL B S n M (adv B S τ.2.2) else (some τ.2.1, M)
theorem rdL_s {B : Nat → Nat} {S n : Nat} {M : Nat → Nat} {τ : TK} : rdL B S (n + 1) M τ = if (stP B S M τ).1 = false then (some (stP B S M τ).2.2.2.1, (stP B S M τ).2.1) else ctP B S n (stP B S M τ).2.1 (stP B S M τ).2.2 := rfl
theorem addI_lo {N M : Nat → Nat} {s j : Nat} (hj : j < 5 + 5 * N 4) : ∀ w, addI N M s w j = N j
  | 0 => rfl
  | w + 1 => (numP_ne (by omega)).trans (addI_lo hj w)
theorem addI_hi {N M : Nat → Nat} {s w : Nat} : ∀ {n : Nat}, w < n → addI N M s n (5 + 5 * N 4 + w) = M (5 + 5 * s + w)
  | 0, h => absurd h (Nat.not_lt_zero _)
  | n + 1, h => by
    show numP (addI N M s n) (5 + 5 * N 4 + n) (M (5 + 5 * s + n)) _ = _
    by_cases e : w = n
    · subst e; exact numP_eq
    · rw [numP_ne (by omega)]
      exact addI_hi (by omega)
theorem addO_lo {N M : Nat → Nat} {j : Nat} (h4 : j ≠ 4) (hj : j < 5 + 5 * N 4) : ∀ s, addO N M s j = N j
  | 0 => rfl
  | s + 1 => by
    show numP (addI (addO N M s) M s 5) 4 _ j = _
    rw [numP_ne h4, addI_lo (by rw [addO_4]; omega)]
    exact addO_lo h4 hj s
theorem addO_hi {N M : Nat → Nat} {t w : Nat} (hw : w < 5) : ∀ {s : Nat}, t < s → addO N M s (5 + 5 * (N 4 + t) + w) = M (5 + 5 * t + w)
  | 0, h => absurd h (Nat.not_lt_zero _)
  | s + 1, h => by
    show numP (addI (addO N M s) M s 5) 4 _ _ = _
    rw [numP_ne (by omega)]
    by_cases e : t = s
    · subst e
      have e4 := addO_4 (N := N) (M := M) t
      have h5 := addI_hi (N := addO N M t) (M := M) (s := t) (w := w) (n := 5) hw
      rw [e4] at h5
      exact h5
    · rw [addI_lo (by rw [addO_4]; omega)]
      exact addO_hi hw (by omega)
theorem addO_OK {N M : Nat → Nat} (hN : HOK N) (hM : HOK M) (h3 : N 4 + M 4 ≤ 3) : HOK (addO N M (M 4)) := by
  refine ⟨addO_B hN.1 hM.1 h3 _ (Nat.le_refl _), ?_, ?_, ?_, fun k hk w hw => ?_⟩
  · rw [addO_lo (by decide) (by omega)]; exact hN.2.1
  · rw [addO_lo (by decide) (by omega)]; exact hN.2.2.1
  · rw [addO_lo (by decide) (by omega)]; exact hN.2.2.2.1
  · rw [addO_4] at hk
    by_cases q : k < N 4
    · rw [addO_lo (by omega) (by omega)]
      exact hN.2.2.2.2 k q w hw
    · have h := addO_hi (N := N) (M := M) (t := k - N 4) (w := w) hw (s := M 4) (by omega)
      rw [show N 4 + (k - N 4) = k by omega] at h
      rw [h]
      exact hM.2.2.2.2 _ (by omega) w hw
theorem addI_NZ {N M : Nat → Nat} {s : Nat} (hN : NZ N) (h : N 4 < 3) : ∀ w, w ≤ 5 → NZ (addI N M s w)
  | 0, _ => hN
  | w + 1, hw => fun j hj => by
    show numP (addI N M s w) (5 + 5 * N 4 + w) _ j = 0
    rw [numP_ne (by omega)]
    exact addI_NZ hN h w (by omega) j hj
theorem addO_NZ {N M : Nat → Nat} (hN : NZ N) : ∀ s, N 4 + s ≤ 3 → NZ (addO N M s)
  | 0, _ => hN
  | s + 1, h => fun j hj => by
    show numP (addI (addO N M s) M s 5) 4 _ j = 0
    rw [numP_ne (by omega)]
    exact addI_NZ (addO_NZ hN s (by omega)) (by rw [addO_4]; omega) 5 (Nat.le_refl _) j hj
def pE (P : Int32 → zV → Prop) (G1 : zG) : Option Value → zG → zV → Prop := fun r G' V' => ∃ x, r = some (.int x) ∧ G' = G1 ∧ P x V'
theorem byI_n {f : RX → Int32} (h : shX S s = none) : byI S s f = (-4, refX S 2) := by unfold byI; rw [h]
theorem byI_r {f : RX → Int32} {q} (h : shX S s = some (.inl q)) : byI S s f = (-3, refX S 1) := by unfold byI; rw [h]
theorem byI_q {f : RX → Int32} {q} (h : shX S s = some (.inr q)) : byI S s f = (f q, S) := by unfold byI; rw [h]
theorem byJ_n {f : RX → Int64} (h : shX S s = none) : byJ S s f = ((-4 : Int32).toInt64, refX S 2) := by unfold byJ; rw [h]
theorem byJ_r {f : RX → Int64} {q} (h : shX S s = some (.inl q)) : byJ S s f = ((-3 : Int32).toInt64, refX S 1) := by unfold byJ; rw [h]
theorem byJ_q {f : RX → Int64} {q} (h : shX S s = some (.inr q)) : byJ S s f = (f q, S) := by unfold byJ; rw [h]
theorem shX_at {r : Nat} (hr : r < 8) : shX S (nI r) = S.2.2.2.1 r := by show S.2.2.2.1 (tn (nI r)) = _; rw [tn_nI (by omega)]
theorem hX_at {i : Nat} (hi : i < 8) : hX S (nI i) = S.1.2.1 i := by show S.1.2.1 (tn (nI i)) = _; rw [tn_nI (by omega)]
theorem boA_n {S : SX} {N : Nat → Nat} {s : Nat} (h : ∀ q, S.2.2.2.1 s ≠ some (.inr q)) : boA S N (s + 1) = boA S N s := by
  show (match S.2.2.2.1 s with | some (.inr q) => _ | _ => _) = _
  split
  · next q e => exact absurd e (h q)
  · rfl
theorem boA_lt {S : SX} {N : Nat → Nat} : ∀ {s x : Nat}, (boA S N s).1 = some x → x < s
  | 0, x, h => by cases h
  | s + 1, x, h => by
    have ih := @boA_lt S N s x
    unfold boA at h
    split at h
    · split at h
      · cases h; omega
      · have := ih h; omega
    · have := ih h; omega
theorem boA_v {S : SX} {N : Nat → Nat} (hN : HOK N) : ∀ s, (boA S N s).2 < 2 ^ 62
  | 0 => by show 0 < 2 ^ 62; decide
  | s + 1 => by
    have ih := boA_v (S := S) hN s
    unfold boA
    split
    · split
      · show rCs N _ _ _ _ (N 0) 0 < 2 ^ 62
        rw [← rC_s]
        exact rC_lt hN hN.2.1.2 (Nat.pow_pos (by decide))
      · exact ih
    · exact ih
theorem HOK.putS {N : Nat → Nat} {k w v : Nat} (h : HOK N) (hk : k < N 4) (hw : w < 5) (hv : sLo w ≤ v ∧ v ≤ sHi w) : HOK (numP N (5 + 5 * k + w) v) := by
  have v99 := sHi_le w
  have n4 := h.1.1
  refine ⟨h.1.put (by omega) (fun e => by omega), ?_, ?_, ?_, fun k2 hk2 w2 hw2 => ?_⟩
  · rw [numP_ne (by omega)]; exact h.2.1
  · rw [numP_ne (by omega)]; exact h.2.2.1
  · rw [numP_ne (by omega)]; exact h.2.2.2.1
  · rw [numP_ne (by omega)] at hk2
    by_cases e : 5 + 5 * k2 + w2 = 5 + 5 * k + w
    · rw [e, numP_eq, show w2 = w by omega]; exact hv
    · rw [numP_ne e]; exact h.2.2.2.2 k2 hk2 w2 hw2
theorem fCopy_r1 {a} (C : oks p ∧ oks q) (h : shX S p = some (.inr a)) : fCopy S p q i j n = (-3, refX S 1) := by
  unfold fCopy
  rw [if_pos C, h]
theorem fCopy_r2 {b} (C : oks p ∧ oks q) (h : shX S q = some (.inr b)) : fCopy S p q i j n = (-3, refX S 1) := by
  unfold fCopy
  rw [if_pos C, h]
  rcases shX S p with _ | (b | b) <;> rfl
theorem fCopy_n1 (C : oks p ∧ oks q) (h : shX S p = none) (h2 : ∀ b, shX S q ≠ some (.inr b)) : fCopy S p q i j n = (-4, refX S 2) := by
  unfold fCopy
  rw [if_pos C, h]
  match e : shX S q with
  | none => rfl
  | some (.inl b) => rfl
  | some (.inr b) => exact absurd e (h2 b)
theorem fCopy_n2 {a} (C : oks p ∧ oks q) (h : shX S p = some (.inl a)) (h2 : shX S q = none) : fCopy S p q i j n = (-4, refX S 2) := by
  unfold fCopy
  rw [if_pos C, h, h2]
theorem fCopy_b {a b} (C : oks p ∧ oks q) (h : shX S p = some (.inl a)) (h2 : shX S q = some (.inl b)) : fCopy S p q i j n = if a.1 ≠ b.1 then (-3, refX S 1) else if (0 ≤ i.toInt ∧ 0 ≤ n.toInt ∧ i.toInt + n.toInt ≤ (a.2.1 : Int)) ∧ 0 ≤ j.toInt ∧ 0 ≤ n.toInt ∧ j.toInt + n.toInt ≤ (b.2.1 : Int) then (n, putS S (tn q) (some (.inl (b.1, b.2.1, fun z => if tn j ≤ z ∧ z < tn j + tn n then a.2.2 (tn i + (z - tn j)) else b.2.2 z)))) else bad S := by
  unfold fCopy
  rw [if_pos C, h, h2]
theorem mayP_rule {k a : Int32} (h : mayP k a) : 1 ≤ k.toInt ∧ k.toInt ≤ 5 := by
  unfold mayP at h
  omega
theorem mayP_ru {k a : Int32} (h : mayP k a) : (tn k = 1 → uN a ≤ 99) ∧ (tn k = 2 → 1 ≤ uN a ∧ uN a ≤ 6) ∧ (tn k = 3 → uN a < 1000 ∧ 1 ≤ uN a % 10 ∧ uN a % 10 ≤ 6) := by
  have hk := mayP_rule h
  unfold mayP at h
  refine ⟨fun e => ?_, fun e => ?_, fun e => ?_⟩
  · have e1 : k.toInt = 1 := by unfold tn at e; omega
    rw [uN_tn (by omega)]
    unfold tn
    omega
  · have e1 : k.toInt = 2 := by unfold tn at e; omega
    rw [uN_tn (by omega)]
    unfold tn
    omega
  · have e1 : k.toInt = 3 := by unfold tn at e; omega
    have h3 : 0 ≤ a.toInt ∧ a.toInt / 10 ≤ 99 ∧ 1 ≤ a.toInt % 10 ∧ a.toInt % 10 ≤ 6 := by omega
    rw [uN_tn h3.1]
    unfold tn
    omega
theorem numP_NZ {N : Nat → Nat} {i v : Nat} (h : NZ N) (hi : i < 20) : NZ (numP N i v) := fun j hj => (numP_ne (by omega)).trans (h j hj)
theorem rdN_NZ {B : Nat → Nat} {S i lo hi : Nat} {N : Nat → Nat} {τ : TK} (h : NZ N) (hi20 : i < 20) : NZ (rdN B S N i lo hi τ).2.1 := by
  cases hn : numH B (adv B S τ.2.2) with
  | none => rw [rdN_none hn]; exact h
  | some v =>
    by_cases hv : lo ≤ v ∧ v ≤ hi
    · rw [rdN_some hn hv]; exact numP_NZ h hi20
    · rw [rdN_bad hn hv]; exact h
theorem tdN_NZ {B : Nat → Nat} {S w i lo hi : Nat} {N : Nat → Nat} {τ : TK} (h : NZ N) (hi20 : i < 20) : NZ (tdN B S w N i lo hi τ).2.1 := by
  unfold tdN
  split
  · exact rdN_NZ h hi20
  · exact h
theorem opN_NZ {B : Nat → Nat} {S w i lo hi : Nat} {N : Nat → Nat} {τ : TK} (h : NZ N) (hi20 : i < 20) : NZ (opN B S w N i lo hi τ).2.1 := by
  unfold opN
  split
  · exact rdN_NZ h hi20
  · exact h
theorem srS_NZ {B : Nat → Nat} {S i : Nat} {N : Nat → Nat} {τ : TK} (h : NZ N) (hi : i + 5 ≤ 20) : ∀ j, j ≤ 5 → NZ (srS B S N i τ j).2.1
  | 0, _ => h
  | j + 1, hj => by
    have ih := srS_NZ h hi (τ := τ) (B := B) (S := S) j (by omega)
    show NZ (bnd (srS B S N i τ j) _).2.1
    by_cases q : (srS B S N i τ j).1 = true
    · rw [bnd_t q]
      split
      · exact tdN_NZ ih (by omega)
      · exact opN_NZ ih (by omega)
    · rw [bnd_f q]; exact ih
theorem stP_NZ {B : Nat → Nat} {S : Nat} {N : Nat → Nat} {τ : TK} (h : NZ N) : NZ (stP B S N τ).2.1 := by
  unfold stP
  split
  · exact rdN_NZ h (by decide)
  · split
    · by_cases q : (rdN B S N 1 0 99 τ).1 = true
      · rw [bnd_t q]; exact tdN_NZ (rdN_NZ h (by decide)) (by decide)
      · rw [bnd_f q]; exact rdN_NZ h (by decide)
    · split
      · exact rdN_NZ h (by decide)
      · split
        · next h4 =>
          have z := srS_NZ (B := B) (S := S) (i := 5 + 5 * N 4) (τ := adv B S τ.2.2) (numP_NZ (i := 5 + 5 * N 4 + 4) (v := 0) (numP_NZ (i := 5 + 5 * N 4 + 3) (v := 0) h (by omega)) (by omega)) (by omega) 5 (Nat.le_refl _)
          generalize srS B S (numP (numP N (5 + 5 * N 4 + 3) 0) (5 + 5 * N 4 + 4) 0) (5 + 5 * N 4) (adv B S τ.2.2) 5 = R at z
          by_cases q : R.1 = true
          · rw [bnd_t q]; exact numP_NZ z (by decide)
          · rw [bnd_f q]; exact z
        · exact h
theorem rdL_OK {B : Nat → Nat} {S : Nat} : ∀ n (M : Nat → Nat) (τ : TK), tk0 B S τ → HOK M → zzN M → NZ M → ∀ M', rdL B S n M τ = (none, M') → HOK M' ∧ NZ M'
  | 0, M, τ, _, _, _, _, M', h => by cases h
  | n + 1, M, τ, hk, hM, hz, hn, M', h => by
    rw [rdL_s] at h
    have iv := stP_inv hk hM hz
    by_cases ok : (stP B S M τ).1 = true
    · rw [if_neg (by rw [ok]; exact fun q => Bool.noConfusion q)] at h
      obtain ⟨-, hN2, hz2⟩ := iv.2 ok
      have nz := stP_NZ (B := B) (S := S) (τ := τ) hn
      unfold ctP at h
      split at h
      · split at h
        · cases h; exact ⟨hN2, nz⟩
        · cases h
      · split at h
        · exact rdL_OK n _ _ (adv_tk iv.1.2.2.1) hN2 hz2 nz M' h
        · cases h
    · rw [if_pos (by cases e : (stP B S M τ).1; rfl; exact absurd e ok)] at h
      cases h
theorem NZ_clear : NZ clearP := by
  intro j hj
  unfold clearP
  (repeat' split) <;> omega
theorem lN_toI {n : Nat} (h : n < 2 ^ 63) : (lN n).toInt = (n : Int) := Int64.toInt_ofNat_of_lt h
theorem lsub_toInt {a c : Nat} (ha : a < 2 ^ 62) (hc : c < 2 ^ 62) : (lN a - lN c).toInt = (a : Int) - c := by
  rw [Int64.toInt_sub, lN_toI (by omega), lN_toI (by omega), Int.bmod_eq_of_le (by omega) (by omega)]
end MORE
