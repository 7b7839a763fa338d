theorem th_digA : ∀ (come : Fin 8) (j : Fin 3) (st : Fin 125), dig (thM come.val st.val j.val) j.val = dig st.val j.val := by decide +kernel
/-- a test ahead of what comes is the sum of it behind -/
theorem upS_ms {N : Nat → Nat} (hN : HOK N) : ∀ j, j ≤ N 4 → ∀ (φ : Nat → Nat) (st : Nat), st < 5 ^ N 4 → upS N φ j st = sumN (2 ^ j) (fun come => wtM N come j * φ (thM come st j))
  | 0, _, φ, st, _ => by
    show φ st = 0 + 1 * φ st
    omega
  | j + 1, hj, φ, st, hs => by
    have h4 := hN.1.1
    have h125 := n125N hN
    have c4 : N (5 + 5 * j + 1) ≤ 4 := (hN.2.2.2.2 j (by omega) 1 (by decide)).2
    have p2 : 2 ^ j ≤ 4 := Nat.le_trans (Nat.pow_le_pow_right (by decide) (show j ≤ 2 by omega)) (by decide)
    have e1 : sumN (2 ^ j) (fun come => wtM N come (j + 1) * φ (thM come st (j + 1))) = sumN (2 ^ j) (fun come => wtM N come j * ((4 - N (5 + 5 * j + 1)) * φ (thM come st j))) := by
      refine sumN_congr (fun i hi => ?_)
      have b := (bt_hi hi).2
      have w : wtM N i (j + 1) = wtM N i j * (4 - N (5 + 5 * j + 1)) := by show wtM N i j * _ = _; rw [b]; rfl
      have t : thM i st (j + 1) = thM i st j := by show thM i st j + _ = _; rw [b]; rfl
      rw [w, t, Nat.mul_assoc]
    have e2 : sumN (2 ^ j) (fun i => wtM N (2 ^ j + i) (j + 1) * φ (thM (2 ^ j + i) st (j + 1))) = sumN (2 ^ j) (fun come => wtM N come j * (N (5 + 5 * j + 1) * φ (thM come st j + if dig st j < 4 then 5 ^ j else 0))) := by
      refine sumN_congr (fun i hi => ?_)
      have w : wtM N (2 ^ j + i) (j + 1) = wtM N i j * N (5 + 5 * j + 1) := by show wtM N (2 ^ j + i) j * _ = _; rw [(bt_hi hi).1, wt_lo j (Nat.le_refl _)]; rfl
      have t : thM (2 ^ j + i) st (j + 1) = thM i st j + if dig st j < 4 then 5 ^ j else 0 := by
        show thM (2 ^ j + i) st j + _ = _
        rw [(bt_hi hi).1, th_lo j (Nat.le_refl _)]
        congr 1
        by_cases q : dig st j < 4
        · rw [if_pos ⟨rfl, q⟩, if_pos q]
        · rw [if_neg (fun h => q h.2), if_neg q]
      rw [w, t, Nat.mul_assoc]
    show upS N (upU N j φ) j st = sumN (2 ^ (j + 1)) _
    rw [upS_ms hN j (by omega) _ st hs, Nat.pow_succ 2 j, Nat.mul_two, sumN_split, e1, e2, ← sumN_add]
    refine sumN_congr (fun i hi => ?_)
    rw [← Nat.mul_add]
    congr 1
    have dg : dig (thM i st j) j = dig st j := th_digA ⟨i, by omega⟩ ⟨j, by omega⟩ ⟨st, by omega⟩
    unfold upU
    rw [dg]
    by_cases q : dig st j < 4
    · rw [if_pos q, if_pos q]; exact Nat.add_comm _ _
    · rw [if_neg q, if_neg q]
      show 4 * φ (thM i st j) = (4 - N (5 + 5 * j + 1)) * φ (thM i st j) + N (5 + 5 * j + 1) * φ (thM i st j)
      rw [← Nat.add_mul]
      congr 1
      omega
/-! THE LOADS that may be, in their order -/
def lsA (b c : Nat) : Nat → List Nat
  | 0 => []
  | a + 1 => lsA b c a ++ [a + 5 * b + 25 * c]
def lsB (s c : Nat) : Nat → List Nat
  | 0 => []
  | b + 1 => lsB s c b ++ lsA b c (dig s 0 + 1)
def lsC (s : Nat) : Nat → List Nat
  | 0 => []
  | c + 1 => lsC s c ++ lsB s c (dig s 1 + 1)
/-- a load of what stands -/
def dle (q s : Nat) : Bool := decide (dig q 0 ≤ dig s 0) && (decide (dig q 1 ≤ dig s 1) && decide (dig q 2 ≤ dig s 2))
def lsM (s : Nat) : Nat → List Nat
  | 0 => []
  | i + 1 => if dle (i + 1) s = true then lsM s i ++ [i + 1] else lsM s i
theorem ls_eqA : ∀ s : Fin 125, lsC s.val (dig s.val 2 + 1) = 0 :: lsM s.val s.val := by decide +kernel
theorem pkA_ls {N : Nat → Nat} {box : Nat} {f : Nat → Nat} {must : Bool} {s b c : Nat} {x : Nat × Nat} : ∀ a, pkA N box f must s b c x a = (lsA b c a).foldl (fun y q => pkS N box f must s q y) x
  | 0 => rfl
  | a + 1 => by
    show pkS N box f must s (a + 5 * b + 25 * c) (pkA N box f must s b c x a) = (lsA b c a ++ [a + 5 * b + 25 * c]).foldl _ x
    rw [List.foldl_append, pkA_ls a]
    rfl
theorem pkB_ls {N : Nat → Nat} {box : Nat} {f : Nat → Nat} {must : Bool} {s c : Nat} {x : Nat × Nat} : ∀ b, pkB N box f must s c x b = (lsB s c b).foldl (fun y q => pkS N box f must s q y) x
  | 0 => rfl
  | b + 1 => by
    show pkA N box f must s b c (pkB N box f must s c x b) (dig s 0 + 1) = (lsB s c b ++ lsA b c (dig s 0 + 1)).foldl _ x
    rw [List.foldl_append, pkA_ls, pkB_ls b]
theorem pkC_ls {N : Nat → Nat} {box : Nat} {f : Nat → Nat} {must : Bool} {s : Nat} : ∀ c, pkC N box f must s c = (lsC s c).foldl (fun y q => pkS N box f must s q y) (0, f s)
  | 0 => rfl
  | c + 1 => by
    show pkB N box f must s c (pkC N box f must s c) (dig s 1 + 1) = (lsC s c ++ lsB s c (dig s 1 + 1)).foldl _ (0, f s)
    rw [List.foldl_append, pkB_ls, pkC_ls c]
/-- the reference's way: every load up to s -/
def mdA (N : Nat → Nat) (box : Nat) (f : Nat → Nat) (must : Bool) (s : Nat) : Nat → Nat × Nat
  | 0 => (0, f s)
  | i + 1 => if dle (i + 1) s = true then pkS N box f must s (i + 1) (mdA N box f must s i) else mdA N box f must s i
theorem mdA_ls {N : Nat → Nat} {box : Nat} {f : Nat → Nat} {must : Bool} {s : Nat} : ∀ i, mdA N box f must s i = (lsM s i).foldl (fun y q => pkS N box f must s q y) (0, f s)
  | 0 => rfl
  | i + 1 => by
    unfold mdA lsM
    split
    · rw [List.foldl_append, mdA_ls i]; rfl
    · exact mdA_ls i
theorem pick_md {N : Nat → Nat} {box : Nat} {f : Nat → Nat} {must : Bool} {s : Nat} (hs : s < 125) : pkC N box f must s (dig s 2 + 1) = mdA N box f must s s := by
  have e : lsC s (dig s 2 + 1) = 0 :: lsM s s := ls_eqA ⟨s, hs⟩
  rw [pkC_ls, mdA_ls, e, List.foldl_cons]
  have e0 : pkS N box f must s 0 (0, f s) = (0, f s) := if_neg (fun h => absurd h.1 (by decide))
  rw [e0]
/-! FILLING by the order of holds -/
/-- sort k is filled in -/
def fiS (N : Nat → Nat) (s k : Nat) (p : Nat × Nat) : Nat × Nat := (p.1 - min (dig s k) (p.1 / N (5 + 5 * k + 0)) * N (5 + 5 * k + 0), p.2 + min (dig s k) (p.1 / N (5 + 5 * k + 0)) * 5 ^ k)
/-- the sorts of a hold, the first n; the holds 9, 8 .. -/
def orI (h : Nat → Nat) (hold : Nat) : Nat → List Nat
  | 0 => []
  | k + 1 => if h k = hold then orI h hold k ++ [k] else orI h hold k
def orO (h : Nat → Nat) (n : Nat) : Nat → List Nat
  | 0 => []
  | c + 1 => orO h n c ++ orI h (9 - c) n
theorem fillIn_or {N : Nat → Nat} {s hold : Nat} {p : Nat × Nat} (h1 : ∀ k, k < N 4 → 0 < N (5 + 5 * k + 0)) : ∀ k, k ≤ N 4 → fillIn N s hold k p = (orI (fun k => N (5 + 5 * k + 2)) hold k).foldl (fun y q => fiS N s q y) p
  | 0, _ => rfl
  | k + 1, hk => by
    show fillStep N s hold k (fillIn N s hold k p) = (if N (5 + 5 * k + 2) = hold then orI (fun k => N (5 + 5 * k + 2)) hold k ++ [k] else orI (fun k => N (5 + 5 * k + 2)) hold k).foldl (fun y q => fiS N s q y) p
    rw [fillIn_or h1 k (by omega)]
    unfold fillStep
    by_cases q : N (5 + 5 * k + 2) = hold
    · rw [if_pos ⟨q, h1 k (by omega)⟩, if_pos q, List.foldl_append]
      rfl
    · rw [if_neg (fun h => q h.1), if_neg q]
theorem fillOut_or {N : Nat → Nat} {s : Nat} (h1 : ∀ k, k < N 4 → 0 < N (5 + 5 * k + 0)) : ∀ c, fillOut N s c = (orO (fun k => N (5 + 5 * k + 2)) (N 4) c).foldl (fun y q => fiS N s q y) (N 2, 0)
  | 0 => rfl
  | c + 1 => by
    show fillIn N s (9 - c) (N 4) (fillOut N s c) = (orO _ (N 4) c ++ orI _ (9 - c) (N 4)).foldl _ _
    rw [List.foldl_append, fillIn_or h1 _ (Nat.le_refl _), fillOut_or h1 c]
/-- the reference's choice: the first of the greatest hold among those not done -/
def mxB (h : Nat → Nat) (dn : List Nat) : Nat → Option Nat
  | 0 => none
  | k + 1 => match mxB h dn k with
    | none => if dn.contains k = true then none else some k
    | some b => if dn.contains k = false ∧ h b < h k then some k else some b
def mxO (h : Nat → Nat) (n : Nat) : Nat → List Nat
  | 0 => []
  | t + 1 => match mxB h (mxO h n t) n with
    | none => mxO h n t
    | some b => mxO h n t ++ [b]
def hF (a b c : Nat) : Nat → Nat := fun k => match k with
  | 0 => a
  | 1 => b
  | _ => c
theorem or_mxA : ∀ (n : Fin 4) (a b c : Fin 10), orO (hF a.val b.val c.val) n.val 10 = mxO (hF a.val b.val c.val) n.val n.val := by decide +kernel
theorem orI_congr {h g : Nat → Nat} {hold : Nat} : ∀ n, (∀ k, k < n → h k = g k) → orI h hold n = orI g hold n
  | 0, _ => rfl
  | k + 1, e => by
    show (if h k = hold then orI h hold k ++ [k] else orI h hold k) = (if g k = hold then orI g hold k ++ [k] else orI g hold k)
    rw [orI_congr k (fun i hi => e i (by omega)), e k (by omega)]
theorem orO_congr {h g : Nat → Nat} {n : Nat} (e : ∀ k, k < n → h k = g k) : ∀ c, orO h n c = orO g n c
  | 0 => rfl
  | c + 1 => by
    show orO h n c ++ orI h (9 - c) n = orO g n c ++ orI g (9 - c) n
    rw [orO_congr e c, orI_congr n e]
theorem mxB_lt {h : Nat → Nat} {dn : List Nat} : ∀ {n b : Nat}, mxB h dn n = some b → b < n
  | 0, b, q => by cases q
  | k + 1, b, q => by
    unfold mxB at q
    split at q
    · split at q
      · cases q
      · cases q; omega
    · next b' e =>
      split at q
      · cases q; omega
      · cases q; have := mxB_lt e; omega
theorem mxB_congr {h g : Nat → Nat} {dn : List Nat} : ∀ n, (∀ k, k < n → h k = g k) → mxB h dn n = mxB g dn n
  | 0, _ => rfl
  | k + 1, e => by
    unfold mxB
    rw [← mxB_congr (dn := dn) k (fun i hi => e i (by omega))]
    cases q : mxB h dn k with
    | none => rfl
    | some b =>
      have := mxB_lt q
      dsimp only
      rw [e k (by omega), e b (by omega)]
theorem mxO_congr {h g : Nat → Nat} {n : Nat} (e : ∀ k, k < n → h k = g k) : ∀ t, mxO h n t = mxO g n t
  | 0 => rfl
  | t + 1 => by
    unfold mxO
    rw [mxO_congr e t, mxB_congr n e]
/-- filling by the reference's order -/
theorem fillP_mx {N : Nat → Nat} {s : Nat} (hN : HOK N) : fillP N s = ((mxO (fun k => N (5 + 5 * k + 2)) (N 4) (N 4)).foldl (fun y q => fiS N s q y) (N 2, 0)).2 := by
  have h4 := hN.1.1
  have h1 : ∀ k, k < N 4 → 0 < N (5 + 5 * k + 0) := fun k hk => (hN.2.2.2.2 k hk 0 (by decide)).1
  have h9 : ∀ k, k < N 4 → N (5 + 5 * k + 2) ≤ 9 := fun k hk => (hN.2.2.2.2 k hk 2 (by decide)).2
  have e : ∀ k, k < N 4 → N (5 + 5 * k + 2) = hF (min (N (5 + 5 * 0 + 2)) 9) (min (N (5 + 5 * 1 + 2)) 9) (min (N (5 + 5 * 2 + 2)) 9) k := by
    intro k hk
    have := h9 k hk
    rcases (show k = 0 ∨ k = 1 ∨ k = 2 by omega) with q | q | q <;> subst q
    · show _ = min _ 9; omega
    · show _ = min _ 9; omega
    · show _ = min _ 9; omega
  unfold fillP
  rw [fillOut_or h1, orO_congr e 10, mxO_congr e (N 4)]
  rw [show orO (hF (min (N (5 + 5 * 0 + 2)) 9) (min (N (5 + 5 * 1 + 2)) 9) (min (N (5 + 5 * 2 + 2)) 9)) (N 4) 10 = mxO (hF (min (N (5 + 5 * 0 + 2)) 9) (min (N (5 + 5 * 1 + 2)) 9) (min (N (5 + 5 * 2 + 2)) 9)) (N 4) (N 4) from or_mxA ⟨N 4, by omega⟩ ⟨min (N (5 + 5 * 0 + 2)) 9, by omega⟩ ⟨min (N (5 + 5 * 1 + 2)) 9, by omega⟩ ⟨min (N (5 + 5 * 2 + 2)) 9, by omega⟩]
