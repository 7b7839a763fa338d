/-! SUMS OVER WHAT COMES: come says by its bits which sorts come -/
def btM (come s : Nat) : Bool := decide (come / 2 ^ s % 2 = 1)
def wtM (N : Nat → Nat) (come : Nat) : Nat → Nat
  | 0 => 1
  | s + 1 => wtM N come s * (if btM come s = true then N (5 + 5 * s + 1) else 4 - N (5 + 5 * s + 1))
def thM (come st : Nat) : Nat → Nat
  | 0 => st
  | s + 1 => thM come st s + (if btM come s = true ∧ dig st s < 4 then 5 ^ s else 0)
def rfM (N : Nat → Nat) (come st : Nat) : Nat → Nat
  | 0 => 0
  | s + 1 => rfM N come st s + (if btM come s = true ∧ ¬ dig st s < 4 then N (5 + 5 * s + 3) else 0)
theorem sumN_split {a b : Nat} {f : Nat → Nat} : sumN (a + b) f = sumN a f + sumN b (fun i => f (a + i)) := by
  induction b with
  | zero => rfl
  | succ b ih => show sumN (a + b) f + f (a + b) = sumN a f + (sumN b _ + f (a + b)); rw [ih]; omega
theorem sumN_lmul {n c : Nat} {f : Nat → Nat} : sumN n (fun i => c * f i) = c * sumN n f := by
  rw [Nat.mul_comm c, ← sumN_mul]
  exact sumN_congr (fun i _ => Nat.mul_comm _ _)
theorem bt_lo {come j s : Nat} (hs : s < j) : btM (2 ^ j + come) s = btM come s := by
  obtain ⟨e, rfl⟩ : ∃ e, j = s + e + 1 := ⟨j - s - 1, by omega⟩
  have h : 2 ^ (s + e + 1) = 2 ^ s * (2 ^ e * 2) := by rw [Nat.add_assoc, Nat.pow_add, Nat.pow_succ]
  unfold btM
  rw [h, Nat.mul_add_div (Nat.pow_pos (by decide))]
  congr 1
  rw [Nat.mul_comm (2 ^ e) 2, Nat.mul_add_mod]
theorem bt_hi {come j : Nat} (hc : come < 2 ^ j) : btM (2 ^ j + come) j = true ∧ btM come j = false := by
  have p : 0 < 2 ^ j := Nat.pow_pos (by decide)
  unfold btM
  constructor
  · rw [Nat.add_div_left _ p, Nat.div_eq_of_lt hc]; rfl
  · rw [Nat.div_eq_of_lt hc]; rfl
theorem wt_lo {N : Nat → Nat} {come j : Nat} : ∀ s, s ≤ j → wtM N (2 ^ j + come) s = wtM N come s
  | 0, _ => rfl
  | s + 1, h => by
    show wtM N (2 ^ j + come) s * _ = wtM N come s * _
    rw [wt_lo s (by omega), bt_lo (by omega)]
theorem th_lo {come j st : Nat} : ∀ s, s ≤ j → thM (2 ^ j + come) st s = thM come st s
  | 0, _ => rfl
  | s + 1, h => by
    show thM (2 ^ j + come) st s + _ = thM come st s + _
    rw [th_lo s (by omega), bt_lo (by omega)]
theorem rf_lo {N : Nat → Nat} {come j st : Nat} : ∀ s, s ≤ j → rfM N (2 ^ j + come) st s = rfM N come st s
  | 0, _ => rfl
  | s + 1, h => by
    show rfM N (2 ^ j + come) st s + _ = rfM N come st s + _
    rw [rf_lo s (by omega), bt_lo (by omega)]
theorem dig_upB : ∀ (j : Fin 3) (i : Fin 3) (s : Fin 125), i.val < j.val → dig (s.val + 5 ^ j.val) i.val = dig s.val i.val := by decide +kernel
theorem th_up {come j st : Nat} (hj : j < 3) (hs : st < 125) : ∀ s, s ≤ j → thM come (st + 5 ^ j) s = thM come st s + 5 ^ j
  | 0, _ => rfl
  | s + 1, h => by
    show thM come (st + 5 ^ j) s + _ = thM come st s + _ + 5 ^ j
    have e : dig (st + 5 ^ j) s = dig st s := dig_upB ⟨j, hj⟩ ⟨s, by omega⟩ ⟨st, hs⟩ h
    rw [th_up hj hs s (by omega), e]
    omega
theorem rf_up {N : Nat → Nat} {come j st : Nat} (hj : j < 3) (hs : st < 125) : ∀ s, s ≤ j → rfM N come (st + 5 ^ j) s = rfM N come st s
  | 0, _ => rfl
  | s + 1, h => by
    show rfM N come (st + 5 ^ j) s + _ = rfM N come st s + _
    rw [rf_up hj hs s (by omega), dig_upB ⟨j, hj⟩ ⟨s, by omega⟩ ⟨st, hs⟩ h]
theorem wt_sum {N : Nat → Nat} (hN : HOK N) : ∀ j, j ≤ N 4 → sumN (2 ^ j) (fun come => wtM N come j) = 4 ^ j
  | 0, _ => rfl
  | j + 1, hj => by
    have c4 : N (5 + 5 * j + 1) ≤ 4 := (hN.2.2.2.2 j (by omega) 1 (by decide)).2
    have ih := wt_sum hN j (by omega)
    have e1 : sumN (2 ^ j) (fun come => wtM N come (j + 1)) = 4 ^ j * (4 - N (5 + 5 * j + 1)) := by
      rw [← ih, ← sumN_mul]
      refine sumN_congr (fun i hi => ?_)
      show wtM N i j * _ = _
      rw [(bt_hi hi).2]
      rfl
    have e2 : sumN (2 ^ j) (fun i => wtM N (2 ^ j + i) (j + 1)) = 4 ^ j * N (5 + 5 * j + 1) := by
      rw [← ih, ← sumN_mul]
      refine sumN_congr (fun i hi => ?_)
      show wtM N (2 ^ j + i) j * _ = _
      rw [(bt_hi hi).1, wt_lo j (Nat.le_refl _)]
      rfl
    rw [Nat.pow_succ 2 j, Nat.mul_two, sumN_split, e1, e2, ← Nat.mul_add, Nat.pow_succ 4 j]
    congr 1
    omega
/-- the sweep by sorts is the sum over what comes -/
def msM (N : Nat → Nat) (U : Nat) (f : Nat → Nat) (j st : Nat) : Nat := sumN (2 ^ j) (fun come => wtM N come j * (rfM N come st j * U + f (thM come st j)))
theorem msM_s {N : Nat → Nat} (hN : HOK N) {U : Nat} {f : Nat → Nat} {j st : Nat} (hj : j < N 4) (hs : st < 5 ^ N 4) : msM N U f (j + 1) st = N (5 + 5 * j + 1) * (if dig st j < 4 then msM N U f j (st + 5 ^ j) else msM N U f j st + N (5 + 5 * j + 3) * (U * 4 ^ j)) + (4 - N (5 + 5 * j + 1)) * msM N U f j st := by
  have h4 := hN.1.1
  have h125 := n125N hN
  have e1 : sumN (2 ^ j) (fun come => wtM N come (j + 1) * (rfM N come st (j + 1) * U + f (thM come st (j + 1)))) = (4 - N (5 + 5 * j + 1)) * msM N U f j st := by
    unfold msM
    rw [← sumN_lmul]
    refine sumN_congr (fun i hi => ?_)
    have b := (bt_hi hi).2
    have w : wtM N i (j + 1) = wtM N i j * (4 - N (5 + 5 * j + 1)) := by show wtM N i j * _ = _; rw [b]; rfl
    have t : thM i st (j + 1) = thM i st j := by show thM i st j + _ = _; rw [b]; rfl
    have r : rfM N i st (j + 1) = rfM N i st j := by show rfM N i st j + _ = _; rw [b]; rfl
    rw [w, t, r, Nat.mul_comm (wtM N i j), Nat.mul_assoc]
  have e2 : sumN (2 ^ j) (fun i => wtM N (2 ^ j + i) (j + 1) * (rfM N (2 ^ j + i) st (j + 1) * U + f (thM (2 ^ j + i) st (j + 1)))) = N (5 + 5 * j + 1) * (if dig st j < 4 then msM N U f j (st + 5 ^ j) else msM N U f j st + N (5 + 5 * j + 3) * (U * 4 ^ j)) := by
    have w : ∀ i, i < 2 ^ j → wtM N (2 ^ j + i) (j + 1) = wtM N i j * N (5 + 5 * j + 1) := fun i hi => by show wtM N (2 ^ j + i) j * _ = _; rw [(bt_hi hi).1, wt_lo j (Nat.le_refl _)]; rfl
    by_cases q : dig st j < 4
    · rw [if_pos q]
      unfold msM
      rw [← sumN_lmul]
      refine sumN_congr (fun i hi => ?_)
      have t : thM (2 ^ j + i) st (j + 1) = thM i (st + 5 ^ j) j := by
        show thM (2 ^ j + i) st j + _ = _
        rw [(bt_hi hi).1, th_lo j (Nat.le_refl _), if_pos ⟨rfl, q⟩, th_up (by omega) (by omega) j (Nat.le_refl _)]
      have r : rfM N (2 ^ j + i) st (j + 1) = rfM N i (st + 5 ^ j) j := by
        show rfM N (2 ^ j + i) st j + _ = _
        rw [(bt_hi hi).1, rf_lo j (Nat.le_refl _), if_neg (fun h => h.2 q), rf_up (by omega) (by omega) j (Nat.le_refl _)]
        rfl
      rw [w i hi, t, r, Nat.mul_comm (wtM N i j), Nat.mul_assoc]
    · rw [if_neg q]
      have ws := wt_sum hN j (by omega)
      have e3 : N (5 + 5 * j + 3) * (U * 4 ^ j) = sumN (2 ^ j) (fun i => wtM N i j * (N (5 + 5 * j + 3) * U)) := by
        rw [sumN_mul, ws, ← Nat.mul_assoc, Nat.mul_comm]
      rw [e3]
      unfold msM
      rw [← sumN_add, ← sumN_lmul]
      refine sumN_congr (fun i hi => ?_)
      have t : thM (2 ^ j + i) st (j + 1) = thM i st j := by
        show thM (2 ^ j + i) st j + _ = _
        rw [th_lo j (Nat.le_refl _), if_neg (fun h => q h.2)]
        rfl
      have r : rfM N (2 ^ j + i) st (j + 1) = rfM N i st j + N (5 + 5 * j + 3) := by
        show rfM N (2 ^ j + i) st j + _ = _
        rw [(bt_hi hi).1, rf_lo j (Nat.le_refl _), if_pos ⟨rfl, q⟩]
      rw [w i hi, t, r, Nat.mul_comm (wtM N i j), Nat.mul_assoc, ← Nat.mul_add, Nat.add_mul]
      congr 2
      omega
  show sumN (2 ^ (j + 1)) _ = _
  rw [Nat.pow_succ 2 j, Nat.mul_two, sumN_split, e1, e2]
  exact Nat.add_comm _ _
theorem swS_ms {N : Nat → Nat} (hN : HOK N) {U : Nat} {f : Nat → Nat} : ∀ j, j ≤ N 4 → ∀ st, st < 5 ^ N 4 → swS N U f j st = msM N U f j st
  | 0, _, st, _ => by
    show f st = 0 + 1 * (0 * U + f st)
    omega
  | j + 1, hj, st, hs => by
    have ih := swS_ms hN (U := U) (f := f) j (by omega)
    rw [msM_s hN (by omega) hs]
    show swA N j (U * 4 ^ j) (swS N U f j) st = _
    unfold swA
    rw [ih st hs]
    by_cases q : dig st j < 4
    · rw [if_pos q, if_pos q, ih _ (dig_up hN.1.1 (by omega) hs q)]
    · rw [if_neg q, if_neg q]
/-- a test behind what comes, as a sum over what comes -/
def upS (N : Nat → Nat) (φ : Nat → Nat) : Nat → Nat → Nat
  | 0 => φ
  | j + 1 => upS N (upU N j φ) j
theorem cmS_sum {N : Nat → Nat} (hN : HOK N) {f : Nat → Nat} : ∀ j, j ≤ N 4 → ∀ φ : Nat → Nat, sumN (5 ^ N 4) (fun t => cmS N f j t * φ t) = sumN (5 ^ N 4) (fun t => f t * upS N φ j t)
  | 0, _, φ => rfl
  | j + 1, hj, φ => by
    have c4 : N (5 + 5 * j + 1) ≤ 4 := (hN.2.2.2.2 j (by omega) 1 (by decide)).2
    rw [show cmS N f (j + 1) = cmA N j (cmS N f j) (5 ^ N 4) from rfl, cmA_all hN.1.1 (by omega) c4, cmS_sum hN j (by omega)]
    rfl
