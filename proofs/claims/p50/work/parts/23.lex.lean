/-! THE READER, as numbers: a tape of bytes B, S long; a token is its kind, its first place, one past its last -/
def kOf (b : Nat) : Nat := if 97 ≤ b ∧ b ≤ 122 then 1 else if 48 ≤ b ∧ b ≤ 57 then 2 else if b = 59 then 3 else 4
def skipF (B : Nat → Nat) (S : Nat) : Nat → Nat → Nat
  | 0, p => p
  | n + 1, p => if p < S ∧ B p = 32 then skipF B S n (p + 1) else p
def skip (B : Nat → Nat) (S p : Nat) : Nat := skipF B S (S - p) p
def runF (B : Nat → Nat) (S k : Nat) : Nat → Nat → Nat
  | 0, p => p
  | n + 1, p => if p < S ∧ kOf (B p) = k then runF B S k n (p + 1) else p
def run (B : Nat → Nat) (S k p : Nat) : Nat := runF B S k (S - p) p
abbrev TK : Type := Nat × Nat × Nat
def adv (B : Nat → Nat) (S p : Nat) : TK := if S ≤ skip B S p then (0, skip B S p, skip B S p) else if kOf (B (skip B S p)) = 1 ∨ kOf (B (skip B S p)) = 2 then (kOf (B (skip B S p)), skip B S p, run B S (kOf (B (skip B S p))) (skip B S p + 1)) else (kOf (B (skip B S p)), skip B S p, skip B S p + 1)
theorem kOf_le (b : Nat) : 1 ≤ kOf b ∧ kOf b ≤ 4 := by
  unfold kOf
  split
  · omega
  · split
    · omega
    · split <;> omega
theorem skip_go {B : Nat → Nat} {S p : Nat} (h : p < S ∧ B p = 32) : skip B S p = skip B S (p + 1) := by
  unfold skip
  obtain ⟨d, hd⟩ : ∃ d, S - p = d + 1 := ⟨S - p - 1, by omega⟩
  rw [hd, show S - (p + 1) = d by omega]
  show (if p < S ∧ B p = 32 then skipF B S d (p + 1) else p) = _
  rw [if_pos h]
theorem skip_stop {B : Nat → Nat} {S p : Nat} (h : ¬ (p < S ∧ B p = 32)) : skip B S p = p := by
  unfold skip
  cases hd : S - p with
  | zero => rfl
  | succ d =>
    show (if p < S ∧ B p = 32 then skipF B S d (p + 1) else p) = _
    rw [if_neg h]
theorem run_go {B : Nat → Nat} {S k p : Nat} (h : p < S ∧ kOf (B p) = k) : run B S k p = run B S k (p + 1) := by
  unfold run
  obtain ⟨d, hd⟩ : ∃ d, S - p = d + 1 := ⟨S - p - 1, by omega⟩
  rw [hd, show S - (p + 1) = d by omega]
  show (if p < S ∧ kOf (B p) = k then runF B S k d (p + 1) else p) = _
  rw [if_pos h]
theorem run_stop {B : Nat → Nat} {S k p : Nat} (h : ¬ (p < S ∧ kOf (B p) = k)) : run B S k p = p := by
  unfold run
  cases hd : S - p with
  | zero => rfl
  | succ d =>
    show (if p < S ∧ kOf (B p) = k then runF B S k d (p + 1) else p) = _
    rw [if_neg h]
theorem skipF_le {B : Nat → Nat} {S : Nat} : ∀ (n p : Nat), p ≤ skipF B S n p ∧ (p ≤ S → skipF B S n p ≤ S)
  | 0, p => ⟨Nat.le_refl _, fun h => h⟩
  | n + 1, p => by
    have h := skipF_le (B := B) (S := S) n (p + 1)
    unfold skipF
    split
    · next h2 => exact ⟨by omega, fun _ => h.2 (by omega)⟩
    · exact ⟨Nat.le_refl _, fun h => h⟩
theorem skip_le {B : Nat → Nat} {S p : Nat} : p ≤ skip B S p ∧ (p ≤ S → skip B S p ≤ S) := skipF_le _ _
theorem runF_le {B : Nat → Nat} {S k : Nat} : ∀ (n p : Nat), p ≤ runF B S k n p ∧ (p ≤ S → runF B S k n p ≤ S) ∧ ∀ j, p ≤ j → j < runF B S k n p → kOf (B j) = k
  | 0, p => ⟨Nat.le_refl _, fun h => h, fun j h1 h2 => absurd h2 (by show ¬ j < p; omega)⟩
  | n + 1, p => by
    have h := runF_le (B := B) (S := S) (k := k) n (p + 1)
    unfold runF
    split
    · next h2 =>
      refine ⟨by omega, fun _ => h.2.1 (by omega), fun j h3 h4 => ?_⟩
      by_cases e : j = p
      · rw [e]; exact h2.2
      · exact h.2.2 j (by omega) h4
    · exact ⟨Nat.le_refl _, fun h => h, fun j h1 h2 => absurd h2 (by omega)⟩
theorem run_le {B : Nat → Nat} {S k p : Nat} : p ≤ run B S k p ∧ (p ≤ S → run B S k p ≤ S) ∧ ∀ j, p ≤ j → j < run B S k p → kOf (B j) = k := runF_le _ _
/-- what holds of a token that is read from p on -/
def tkOK (B : Nat → Nat) (S p : Nat) (τ : TK) : Prop := p ≤ τ.2.1 ∧ τ.2.1 ≤ τ.2.2 ∧ τ.2.2 ≤ S ∧ τ.1 ≤ 4 ∧ (τ.1 = 0 → τ.2.1 = S) ∧ (τ.1 ≠ 0 → τ.2.1 < τ.2.2) ∧ ((τ.1 = 1 ∨ τ.1 = 2) → ∀ j, τ.2.1 ≤ j → j < τ.2.2 → kOf (B j) = τ.1)
theorem adv_ok {B : Nat → Nat} {S p : Nat} (hp : p ≤ S) : tkOK B S p (adv B S p) := by
  have h1 := skip_le (B := B) (S := S) (p := p)
  have h2 := h1.2 hp
  unfold adv
  split
  · next h => exact ⟨h1.1, Nat.le_refl _, h2, Nat.zero_le _, fun _ => by show skip B S p = S; omega, fun h => absurd rfl h, fun h => by rcases h with h | h <;> cases h⟩
  · next h =>
    have hk := kOf_le (B (skip B S p))
    have hr := run_le (B := B) (S := S) (k := kOf (B (skip B S p))) (p := skip B S p + 1)
    split
    · refine ⟨h1.1, by show skip B S p ≤ run B S _ _; omega, hr.2.1 (by omega), hk.2, fun h0 => ?_, fun _ => by show skip B S p < run B S _ _; omega, fun _ j h3 h4 => ?_⟩
      · have h0 : kOf (B (skip B S p)) = 0 := h0
        omega
      · have h3 : skip B S p ≤ j := h3
        by_cases e : j = skip B S p
        · rw [e]
        · exact hr.2.2 j (by omega) h4
    · next h5 =>
      refine ⟨h1.1, by show skip B S p ≤ skip B S p + 1; omega, by show skip B S p + 1 ≤ S; omega, hk.2, fun h0 => ?_, fun _ => by show skip B S p < skip B S p + 1; omega, fun h6 => absurd h6 h5⟩
      have h0 : kOf (B (skip B S p)) = 0 := h0
      omega
/-- n digits from f on -/
def numD (B : Nat → Nat) (f : Nat) : Nat → Nat
  | 0 => 0
  | n + 1 => 10 * numD B f n + (B (f + n) - 48)
/-- the number that a token is -/
def numH (B : Nat → Nat) (τ : TK) : Option Nat := if τ.1 = 2 ∧ τ.2.2 - τ.2.1 ≤ 2 then some (numD B τ.2.1 (τ.2.2 - τ.2.1)) else none
def isWd (B : Nat → Nat) (τ : TK) (i : Nat) : Bool := decide (τ.1 = 1) && (decide (τ.2.2 - τ.2.1 = (sW i).length) && (List.range (sW i).length).all (fun j => decide (B (τ.2.1 + j) = (sW i).getD j 0)))
theorem isWd_iff {B : Nat → Nat} {τ : TK} {i : Nat} : isWd B τ i = true ↔ τ.1 = 1 ∧ τ.2.2 - τ.2.1 = (sW i).length ∧ ∀ j, j < (sW i).length → B (τ.2.1 + j) = (sW i).getD j 0 := by
  unfold isWd
  simp only [Bool.and_eq_true, decide_eq_true_eq, List.all_eq_true, List.mem_range]
abbrev PR : Type := Bool × (Nat → Nat) × TK
/-- a number in its range, behind its word -/
def rdN (B : Nat → Nat) (S : Nat) (N : Nat → Nat) (i lo hi : Nat) (τ : TK) : PR := match numH B (adv B S τ.2.2) with
  | some v => if lo ≤ v ∧ v ≤ hi then (true, numP N i v, adv B S (adv B S τ.2.2).2.2) else (false, N, adv B S τ.2.2)
  | none => (false, N, adv B S τ.2.2)
def tdN (B : Nat → Nat) (S w : Nat) (N : Nat → Nat) (i lo hi : Nat) (τ : TK) : PR := if isWd B τ w = true then rdN B S N i lo hi τ else (false, N, τ)
def opN (B : Nat → Nat) (S w : Nat) (N : Nat → Nat) (i lo hi : Nat) (τ : TK) : PR := if isWd B τ w = true then rdN B S N i lo hi τ else (true, N, τ)
def bnd (r : PR) (f : (Nat → Nat) → TK → PR) : PR := if r.1 = true then f r.2.1 r.2.2 else r
/-- the words of a sort's numbers, and their ranges -/
def swI (w : Nat) : Nat := match w with
  | 0 => 2
  | 1 => 5
  | 2 => 6
  | 3 => 7
  | _ => 8
def sLo (w : Nat) : Nat := match w with
  | 0 => 1
  | _ => 0
def sHi (w : Nat) : Nat := match w with
  | 0 => 9
  | 1 => 4
  | 2 => 9
  | _ => 99
/-- a sort's numbers, the first j of them -/
def srS (B : Nat → Nat) (S : Nat) (N : Nat → Nat) (i : Nat) (τ : TK) : Nat → PR
  | 0 => (true, N, τ)
  | j + 1 => bnd (srS B S N i τ j) fun N τ => if j < 3 then tdN B S (swI j) N (i + j) (sLo j) (sHi j) τ else opN B S (swI j) N (i + j) (sLo j) (sHi j) τ
/-- a statement -/
def stP (B : Nat → Nat) (S : Nat) (N : Nat → Nat) (τ : TK) : PR :=
  if isWd B τ 0 = true then rdN B S N 0 1 6 τ
  else if isWd B τ 1 = true then bnd (rdN B S N 1 0 99 τ) fun N τ => tdN B S 2 N 2 1 40 τ
  else if isWd B τ 3 = true then rdN B S N 3 0 3 τ
  else if isWd B τ 4 = true ∧ N 4 < 3 then bnd (srS B S (numP (numP N (5 + 5 * N 4 + 3) 0) (5 + 5 * N 4 + 4) 0) (5 + 5 * N 4) (adv B S τ.2.2) 5) fun N τ => (true, numP N 4 (N 4 + 1), τ)
  else (false, N, τ)
/-- statements with ; between: the fault, none if there is none -/
def rdL (B : Nat → Nat) (S : Nat) : Nat → (Nat → Nat) → TK → Option Nat × (Nat → Nat)
  | 0, N, _ => (some S, N)
  | n + 1, N, τ => if (stP B S N τ).1 = false then (some (stP B S N τ).2.2.2.1, (stP B S N τ).2.1)
    else if (stP B S N τ).2.2.1 = 0 then (if 0 < (stP B S N τ).2.1 4 then none else some S, (stP B S N τ).2.1)
    else if (stP B S N τ).2.2.1 = 3 then rdL B S n (stP B S N τ).2.1 (adv B S (stP B S N τ).2.2.2.2)
    else (some (stP B S N τ).2.2.2.1, (stP B S N τ).2.1)
/-- a byte as it is kept -/
def sb (b : Nat) : Int32 := (nI b).toInt8.toInt32
theorem sb_all : ∀ b : Fin 256, (sb b.val).toInt = if b.val < 128 then (b.val : Int) else (b.val : Int) - 256 := by decide +kernel
theorem sb_toInt {b : Nat} (h : b < 256) : (sb b).toInt = if b < 128 then (b : Int) else (b : Int) - 256 := sb_all ⟨b, h⟩
theorem sb_eq {b c : Nat} (h : b < 256) (hc : c < 128) : sb b = nI c ↔ b = c := by
  rw [i32_eq, sb_toInt h, nI_toInt (by omega)]
  split <;> omega
/-! THE CLASS'S TAPE at t: token V 202 .. 204 -/
def TapeAt (Z : zP) (G : zG) (t : Nat) : Prop := isK Z G t 4 ∧ G.2.2.1 200 t = some (t + 1) ∧ isA Z G (t + 1) 0 160
def TapeV (V : zV) (t : Nat) (B : Nat → Nat) (S : Nat) : Prop := V.1 201 t = nI S ∧ (∀ j, j < 160 → V.2.2.1 (t + 1) j = sb (B j)) ∧ S ≤ 160 ∧ ∀ j, B j < 256
def tokV (V : zV) (t : Nat) (a b c : Int32) : zV := (fun x y => if y = t ∧ x = 202 then a else if y = t ∧ x = 203 then b else if y = t ∧ x = 204 then c else V.1 x y, V.2)
theorem tok_id (V : zV) (t : Nat) : tokV V t (V.1 202 t) (V.1 203 t) (V.1 204 t) = V := by
  unfold tokV
  obtain ⟨V1, V2⟩ := V
  congr 1
  funext x y
  dsimp only
  split
  · next h => rw [h.1, h.2]
  · split
    · next h => rw [h.1, h.2]
    · split
      · next h => rw [h.1, h.2]
      · rfl
theorem tok_202 (V : zV) (t : Nat) (a b c v : Int32) : sI (tokV V t a b c) 202 t v = tokV V t v b c := by
  unfold tokV sI u2
  congr 1
  funext x y
  by_cases h1 : y = t <;> by_cases h2 : x = 202 <;> simp [h1, h2]
theorem tok_203 (V : zV) (t : Nat) (a b c v : Int32) : sI (tokV V t a b c) 203 t v = tokV V t a v c := by
  unfold tokV sI u2
  congr 1
  funext x y
  by_cases h1 : y = t <;> by_cases h2 : x = 203 <;> simp [h1, h2]
theorem tok_204 (V : zV) (t : Nat) (a b c v : Int32) : sI (tokV V t a b c) 204 t v = tokV V t a b v := by
  unfold tokV sI u2
  congr 1
  funext x y
  by_cases h1 : y = t <;> by_cases h2 : x = 204 <;> simp [h1, h2]
theorem tok_tok (V : zV) (t : Nat) (a b c d e f : Int32) : tokV (tokV V t a b c) t d e f = tokV V t d e f := by
  unfold tokV
  congr 1
  funext x y
  dsimp only
  split
  · rfl
  · split
    · rfl
    · split <;> rfl
theorem tok_g202 {V : zV} {t : Nat} {a b c : Int32} : (tokV V t a b c).1 202 t = a := by simp [tokV]
theorem tok_g203 {V : zV} {t : Nat} {a b c : Int32} : (tokV V t a b c).1 203 t = b := by simp [tokV]
theorem tok_g204 {V : zV} {t : Nat} {a b c : Int32} : (tokV V t a b c).1 204 t = c := by simp [tokV]
theorem TapeV.tok {V : zV} {t : Nat} {B : Nat → Nat} {S : Nat} {a b c : Int32} (h : TapeV V t B S) : TapeV (tokV V t a b c) t B S := ⟨by show (tokV V t a b c).1 201 t = _; simp only [tokV]; simp; exact h.1, h.2⟩
