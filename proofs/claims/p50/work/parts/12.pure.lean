/-! small facts that the walks use -/
theorem rI {x y : Int32} {G : zG} {V : zV} (h : x = y) : pI y G V (some (.int x)) G V := ⟨by rw [h], rfl, rfl⟩
theorem rJ {x y : Int64} {G : zG} {V : zV} (h : x = y) : pJ y G V (some (.long x)) G V := ⟨by rw [h], rfl, rfl⟩
theorem lpU {P : Nat → Prop} (N : Nat) (step : ∀ i, i ≤ N → (i < N → P (i + 1)) → P i) : ∀ i, i ≤ N → P i := by
  intro i hi
  obtain ⟨d, hd⟩ : ∃ d, N - i = d := ⟨_, rfl⟩
  induction d generalizing i with
  | zero => exact step i hi (fun h => by omega)
  | succ d ih => exact step i hi (fun h => ih (i + 1) (by omega) (by omega))
/-- counting down: i of N are still to come -/
theorem lpD {P : Nat → Prop} (step : ∀ i, (∀ j, i = j + 1 → P j) → P i) : ∀ i, P i := by
  intro i
  induction i with
  | zero => exact step 0 (fun j h => by omega)
  | succ i ih => exact step (i + 1) (fun j h => by cases h; exact ih)
theorem ix3 {x : Int32} {m : Nat} (hm : m < 2 ^ 31) (h1 : ¬ x < 0) (h2 : ¬ nI m ≤ x) : ∃ j : Nat, j < m ∧ x = nI j := by
  rcases pk_ix x hm with h | h | h
  · exact absurd h h1
  · exact absurd h h2
  · exact h
theorem i32_lt {x y : Int32} : x < y ↔ x.toInt < y.toInt := Int32.lt_iff_toInt_lt
theorem i32_le {x y : Int32} : x ≤ y ↔ x.toInt ≤ y.toInt := Int32.le_iff_toInt_le
theorem i32_eq {x y : Int32} : x = y ↔ x.toInt = y.toInt := Int32.toInt_inj.symm
theorem toI_0 : (0 : Int32).toInt = 0 := rfl
def b2i (p : Prop) [Decidable p] : Int32 := if p then 1 else 0
theorem b2i_t {p : Prop} [Decidable p] (h : p) : b2i p = 1 := if_pos h
theorem b2i_f {p : Prop} [Decidable p] (h : ¬ p) : b2i p = 0 := if_neg h
theorem b2i_ne {p : Prop} [Decidable p] (h : ¬ b2i p = 0) : p := by
  by_cases hp : p
  · exact hp
  · exact absurd (b2i_f hp) h
theorem b2i_eq {p : Prop} [Decidable p] (h : b2i p = 0) : ¬ p := by
  intro hp
  rw [b2i_t hp] at h
  exact absurd h (by decide)
theorem b2i_nar {p : Prop} [Decidable p] : narrow .boolean (.int (b2i p)) = .int (b2i p) := by
  unfold b2i
  split <;> rfl
/-- an element of an int array, 0 beside it -/
def atI (V : zV) (a m : Nat) (x : Int32) : Int32 := if x < 0 ∨ nI m ≤ x then 0 else V.2.2.1 a x.toNatClampNeg
def atL (V : zV) (a m : Nat) (x : Int32) : Int64 := if x < 0 ∨ nI m ≤ x then 0 else V.2.2.2 a x.toNatClampNeg
theorem atI_in {V : zV} {a m j : Nat} (h : j < m) (hm : m < 2 ^ 31) : atI V a m (nI j) = V.2.2.1 a j := by
  unfold atI
  rw [if_neg, nI_clamp (by omega)]
  rintro (h1 | h1)
  · exact nI_pos (by omega) h1
  · exact nI_ge h hm h1
theorem atL_in {V : zV} {a m j : Nat} (h : j < m) (hm : m < 2 ^ 31) : atL V a m (nI j) = V.2.2.2 a j := by
  unfold atL
  rw [if_neg, nI_clamp (by omega)]
  rintro (h1 | h1)
  · exact nI_pos (by omega) h1
  · exact nI_ge h hm h1
theorem atI_out {V : zV} {a m : Nat} {x : Int32} (h : x < 0 ∨ nI m ≤ x) : atI V a m x = 0 := if_pos h
theorem atL_out {V : zV} {a m : Nat} {x : Int32} (h : x < 0 ∨ nI m ≤ x) : atL V a m x = 0 := if_pos h
/-- a stretch of a row becomes g -/
def rw2 {α : Type} (f : Nat → Nat → α) (a lo n : Nat) (g : Nat → α) : Nat → Nat → α := fun x j => if x = a ∧ lo ≤ j ∧ j < lo + n then g (j - lo) else f x j
theorem rw2_0 {α : Type} (f : Nat → Nat → α) (a lo : Nat) (g : Nat → α) : rw2 f a lo 0 g = f := by
  funext x j
  simp only [rw2]
  rw [if_neg (by omega)]
theorem rw2_s {α : Type} (f : Nat → Nat → α) (a lo i : Nat) (g : Nat → α) {v : α} (hv : v = g i) : u2 (rw2 f a lo i g) a (lo + i) v = rw2 f a lo (i + 1) g := by
  funext x j
  simp only [rw2, u2]
  by_cases h : x = a ∧ j = lo + i
  · rw [if_pos h, if_pos (by omega), hv]
    congr 1
    omega
  · rw [if_neg h]
    by_cases h2 : x = a ∧ lo ≤ j ∧ j < lo + i
    · rw [if_pos h2, if_pos (by omega)]
    · rw [if_neg h2, if_neg (by omega)]
theorem rw2_ne {α : Type} {f : Nat → Nat → α} {a lo n : Nat} {g : Nat → α} {x : Nat} (h : x ≠ a) (j : Nat) : rw2 f a lo n g x j = f x j := by
  simp only [rw2]
  rw [if_neg (by omega)]
theorem rw2_in {α : Type} {f : Nat → Nat → α} {a lo n : Nat} {g : Nat → α} {j : Nat} (h1 : lo ≤ j) (h2 : j < lo + n) : rw2 f a lo n g a j = g (j - lo) := by
  simp only [rw2]
  rw [if_pos ⟨trivial, h1, h2⟩]
theorem rw2_out {α : Type} {f : Nat → Nat → α} {a lo n : Nat} {g : Nat → α} {j : Nat} (h : j < lo ∨ lo + n ≤ j) : rw2 f a lo n g a j = f a j := by
  simp only [rw2]
  rw [if_neg (by omega)]
theorem rw2_in0 {α : Type} {f : Nat → Nat → α} {a n : Nat} {g : Nat → α} {j : Nat} (h2 : j < n) : rw2 f a 0 n g a j = g j := by
  rw [rw2_in (Nat.zero_le _) (by omega)]
  rfl
def rAI (V : zV) (a lo n : Nat) (g : Nat → Int32) : zV := (V.1, V.2.1, rw2 V.2.2.1 a lo n g, V.2.2.2)
def rAJ (V : zV) (a lo n : Nat) (g : Nat → Int64) : zV := (V.1, V.2.1, V.2.2.1, rw2 V.2.2.2 a lo n g)
theorem rAI_0 (V : zV) (a lo : Nat) (g : Nat → Int32) : rAI V a lo 0 g = V := by
  unfold rAI
  rw [rw2_0]
theorem rAJ_0 (V : zV) (a lo : Nat) (g : Nat → Int64) : rAJ V a lo 0 g = V := by
  unfold rAJ
  rw [rw2_0]
theorem rAI_s (V : zV) (a lo i : Nat) (g : Nat → Int32) {v : Int32} (hv : v = g i) : sAI (rAI V a lo i g) a (lo + i) v = rAI V a lo (i + 1) g := by
  unfold sAI rAI
  dsimp only
  rw [rw2_s _ _ _ _ _ hv]
theorem rAJ_s (V : zV) (a lo i : Nat) (g : Nat → Int64) {v : Int64} (hv : v = g i) : sAJ (rAJ V a lo i g) a (lo + i) v = rAJ V a lo (i + 1) g := by
  unfold sAJ rAJ
  dsimp only
  rw [rw2_s _ _ _ _ _ hv]
/-- digits of a state -/
def dig (s k : Nat) : Nat := s / 5 ^ k % 5
theorem dig_lt (s k : Nat) : dig s k < 5 := Nat.mod_lt _ (by decide)
/-- a sum of n numbers -/
def sumN (n : Nat) (f : Nat → Nat) : Nat := match n with
  | 0 => 0
  | n + 1 => sumN n f + f n
theorem sumN_congr {n : Nat} {f g : Nat → Nat} (h : ∀ i, i < n → f i = g i) : sumN n f = sumN n g := by
  induction n with
  | zero => rfl
  | succ n ih => show sumN n f + f n = sumN n g + g n; rw [ih (fun i hi => h i (by omega)), h n (by omega)]
theorem sumN_le {n M : Nat} {f : Nat → Nat} (h : ∀ i, i < n → f i ≤ M) : sumN n f ≤ n * M := by
  induction n with
  | zero => exact Nat.zero_le _
  | succ n ih =>
    have h1 := ih (fun i hi => h i (by omega))
    have h2 := h n (by omega)
    show sumN n f + f n ≤ (n + 1) * M
    rw [Nat.succ_mul]
    omega
theorem shl4 : ∀ p : Fin 32, (1 : Int64) <<< ((nI (2 * p.val)).toInt64 &&& 63) = lN (4 ^ p.val) := by decide +kernel
theorem nI_cmul (a b : Nat) : nI a * nI b = nI (a * b) := pk_mul a b
theorem nI_lit0 : (0 : Int32) = nI 0 := rfl
theorem nI_inj {a b : Nat} (ha : a < 2 ^ 31) (hb : b < 2 ^ 31) (h : nI a = nI b) : a = b := (nI_eq ha hb).mp h
theorem iinc1 (a : Nat) : nI a + Int32.ofInt 1 = nI (a + 1) := nI_1 a
theorem iinc6 (a : Nat) : nI a + Int32.ofInt 6 = nI (a + 6) := nI_add a 6
theorem cleT {a b : Nat} (ha : a < 2 ^ 31) (hb : b < 2 ^ 31) (h : nI a ≤ nI b) : a ≤ b := (nI_leI ha hb).mp h
theorem cleF {a b : Nat} (ha : a < 2 ^ 31) (hb : b < 2 ^ 31) (h : ¬ nI a ≤ nI b) : b < a := Nat.lt_of_not_le (fun q => h ((nI_leI ha hb).mpr q))
theorem cltT {a b : Nat} (ha : a < 2 ^ 31) (hb : b < 2 ^ 31) (h : nI a < nI b) : a < b := (nI_ltI ha hb).mp h
theorem cltF {a b : Nat} (ha : a < 2 ^ 31) (hb : b < 2 ^ 31) (h : ¬ nI a < nI b) : b ≤ a := Nat.le_of_not_lt (fun q => h ((nI_ltI ha hb).mpr q))
theorem ceqT {a b : Nat} (ha : a < 2 ^ 31) (hb : b < 2 ^ 31) (h : nI a = nI b) : a = b := (nI_eq ha hb).mp h
theorem ceqF {a b : Nat} (ha : a < 2 ^ 31) (hb : b < 2 ^ 31) (h : ¬ nI a = nI b) : a ≠ b := fun q => h (by rw [q])
theorem div32 {a d : Nat} (ha : a < 2 ^ 31) (h0 : 0 < d) (hd : d < 2 ^ 31) : nI a / nI d = nI (a / d) := pk_div ha h0 hd
theorem rem32 {a d : Nat} (ha : a < 2 ^ 31) (h0 : 0 < d) (hd : d < 2 ^ 31) : nI a - nI a / nI d * nI d = nI (a % d) := pk_rem ha h0 hd
theorem rAI_s0 (V : zV) (a i : Nat) (g : Nat → Int32) {v : Int32} (hv : v = g i) : sAI (rAI V a 0 i g) a i v = rAI V a 0 (i + 1) g := by
  have := rAI_s V a 0 i g hv
  rwa [Nat.zero_add] at this
theorem rAJ_s0 (V : zV) (a i : Nat) (g : Nat → Int64) {v : Int64} (hv : v = g i) : sAJ (rAJ V a 0 i g) a i v = rAJ V a 0 (i + 1) g := by
  have := rAJ_s V a 0 i g hv
  rwa [Nat.zero_add] at this
theorem isK_nG {Z : zP} {G : zG} {a c t m : Nat} (h : isK Z G a c) : isK Z (nG G t m) a c := ⟨h.1, Nat.lt_succ_of_lt h.2.1, by show (va_up G.2.1 G.1 (t, m) a).1 = c; rw [va_up_ne _ _ (Nat.ne_of_lt h.2.1)]; exact h.2.2⟩
theorem isA_nG {Z : zP} {G : zG} {a t' m' t m : Nat} (h : isA Z G a t' m') : isA Z (nG G t m) a t' m' := ⟨h.1, Nat.lt_succ_of_lt h.2.1, by show va_up G.2.1 G.1 (t, m) a = _; rw [va_up_ne _ _ (Nat.ne_of_lt h.2.1)]; exact h.2.2⟩
