/-! THE PLAN, as numbers: of a house N, costs in quarters -/
def sclP (N : Nat → Nat) (d : Nat) : Nat := 4 ^ (d * (1 + N 4))
def swA (N : Nat → Nat) (j u : Nat) (f : Nat → Nat) (s : Nat) : Nat := N (5 + 5 * j + 1) * (if dig s j < 4 then f (s + 5 ^ j) else f s + N (5 + 5 * j + 3) * u) + (4 - N (5 + 5 * j + 1)) * f s
def swS (N : Nat → Nat) (u : Nat) (f : Nat → Nat) : Nat → Nat → Nat
  | 0 => f
  | j + 1 => swA N j (u * 4 ^ j) (swS N u f j)
def swD (N : Nat → Nat) (d : Nat) (f : Nat → Nat) (s : Nat) : Nat := swS N (sclP N (d - 1)) f (N 4) s + sumP N s 2 * (sclP N (d - 1) * 4 ^ N 4)
def boxP (N : Nat → Nat) (d : Nat) : Nat := N 1 * 4 ^ (d * (1 + N 4) - 1)
def mixP (N : Nat → Nat) (box : Nat) (f : Nat → Nat) (s l : Nat) : Nat := N 3 * f s + (4 - N 3) * (f (s - l) + if l = 0 then 0 else box)
def pkS (N : Nat → Nat) (box : Nat) (f : Nat → Nat) (must : Bool) (s l : Nat) (a : Nat × Nat) : Nat × Nat := if 0 < l ∧ sumP N l 0 ≤ N 2 ∧ (f (s - l) + box < a.2 ∨ (must = true ∧ a.1 = 0)) then (l, f (s - l) + box) else a
def pkA (N : Nat → Nat) (box : Nat) (f : Nat → Nat) (must : Bool) (s b c : Nat) (x : Nat × Nat) : Nat → Nat × Nat
  | 0 => x
  | a + 1 => pkS N box f must s (a + 5 * b + 25 * c) (pkA N box f must s b c x a)
def pkB (N : Nat → Nat) (box : Nat) (f : Nat → Nat) (must : Bool) (s c : Nat) (x : Nat × Nat) : Nat → Nat × Nat
  | 0 => x
  | b + 1 => pkA N box f must s b c (pkB N box f must s c x b) (dig s 0 + 1)
def pkC (N : Nat → Nat) (box : Nat) (f : Nat → Nat) (must : Bool) (s : Nat) : Nat → Nat × Nat
  | 0 => (0, f s)
  | c + 1 => pkB N box f must s c (pkC N box f must s c) (dig s 1 + 1)
def pickP (N : Nat → Nat) (box : Nat) (f : Nat → Nat) (must : Bool) (s : Nat) : Nat := (pkC N box f must s (dig s 2 + 1)).1
def pkOK (s : Nat) (x : Nat × Nat) : Prop := x.1 ≤ s ∧ x.2 < 2 ^ 63
theorem pkS_ok {N : Nat → Nat} {box : Nat} {f : Nat → Nat} {must : Bool} {s l : Nat} {x : Nat × Nat} (hf : ∀ t, t ≤ s → f t < 2 ^ 62) (hb : box < 2 ^ 62) (hl : l ≤ s) (hx : pkOK s x) : pkOK s (pkS N box f must s l x) := by
  unfold pkS
  split
  · have := hf (s - l) (Nat.sub_le _ _)
    exact ⟨hl, by show f (s - l) + box < 2 ^ 63; omega⟩
  · exact hx
theorem pkA_ok {N : Nat → Nat} {box : Nat} {f : Nat → Nat} {must : Bool} {s b c : Nat} {x : Nat × Nat} (hf : ∀ t, t ≤ s → f t < 2 ^ 62) (hb : box < 2 ^ 62) (hx : pkOK s x) : ∀ a, (∀ a', a' < a → a' + 5 * b + 25 * c ≤ s) → pkOK s (pkA N box f must s b c x a)
  | 0, _ => hx
  | a + 1, h => pkS_ok hf hb (h a (by omega)) (pkA_ok hf hb hx a (fun a' h' => h a' (by omega)))
theorem dig3 {s : Nat} (h : s < 125) : s = dig s 0 + 5 * dig s 1 + 25 * dig s 2 := by
  unfold dig
  simp only [Nat.pow_zero, Nat.div_one, show (5 : Nat) ^ 1 = 5 from rfl, show (5 : Nat) ^ 2 = 25 from rfl]
  omega
theorem pkB_ok {N : Nat → Nat} {box : Nat} {f : Nat → Nat} {must : Bool} {s c : Nat} {x : Nat × Nat} (hs : s < 125) (hf : ∀ t, t ≤ s → f t < 2 ^ 62) (hb : box < 2 ^ 62) (hc : c ≤ dig s 2) (hx : pkOK s x) : ∀ b, b ≤ dig s 1 + 1 → pkOK s (pkB N box f must s c x b)
  | 0, _ => hx
  | b + 1, h => pkA_ok hf hb (pkB_ok hs hf hb hc hx b (by omega)) _ (fun a' h' => by have := dig3 hs; omega)
theorem pkC_ok {N : Nat → Nat} {box : Nat} {f : Nat → Nat} {must : Bool} {s : Nat} (hs : s < 125) (hf : ∀ t, t ≤ s → f t < 2 ^ 62) (hb : box < 2 ^ 62) : ∀ c, c ≤ dig s 2 + 1 → pkOK s (pkC N box f must s c)
  | 0, _ => ⟨Nat.zero_le _, Nat.lt_trans (hf s (Nat.le_refl _)) (by decide)⟩
  | c + 1, h => pkB_ok hs hf hb (by omega) (pkC_ok hs hf hb c (by omega)) _ (Nat.le_refl _)
/-- what is best: costs with d days left; loads and costs behind the load with d + 1 left -/
def aftP (N : Nat → Nat) (g : Nat → Nat) (d : Nat) : Nat → Nat := swD N d g
def bstP (N : Nat → Nat) (d : Nat) (must : Bool) (f : Nat → Nat) (s : Nat) : Nat := mixP N (boxP N d) f s (pickP N (boxP N d) f must s)
def cst (N : Nat → Nat) : Nat → Nat → Nat
  | 0 => fun s => sumP N s 4
  | d + 1 => bstP N (d + 1) false (swD N (d + 1) (cst N d))
def aft (N : Nat → Nat) (d : Nat) : Nat → Nat := swD N d (cst N (d - 1))
def ldP (N : Nat → Nat) (d s : Nat) : Nat := pickP N (boxP N d) (aft N d) false s
/-! its objects -/
def PlanAt (Z : zP) (G : zG) (p : Nat) : Prop := isK Z G p 1 ∧ G.2.2.1 50 p = some (p + 1) ∧ HouseAt Z G (p + 1) ∧
  (G.2.2.1 54 p = some (p + 3) ∧ isA Z G (p + 3) 1 125) ∧ (G.2.2.1 55 p = some (p + 4) ∧ isA Z G (p + 4) 1 125) ∧ (G.2.2.1 56 p = some (p + 5) ∧ isA Z G (p + 5) 1 125) ∧ (G.2.2.1 57 p = some (p + 6) ∧ isA Z G (p + 6) 1 125) ∧
  (G.2.2.1 58 p = some (p + 7) ∧ isA Z G (p + 7) 1 875) ∧ (G.2.2.1 59 p = some (p + 8) ∧ isA Z G (p + 8) 2 875) ∧ (G.2.2.1 60 p = some (p + 9) ∧ isA Z G (p + 9) 2 875) ∧ (G.2.2.1 61 p = some (p + 10) ∧ isA Z G (p + 10) 2 125) ∧ (G.2.2.1 62 p = some (p + 11) ∧ isA Z G (p + 11) 2 125)
/-- what it has of its house -/
def PlanH (V : zV) (p : Nat) (N : Nat → Nat) : Prop := HOK N ∧ HouseV V (p + 1) N ∧ V.1 51 p = nI (N 0) ∧ V.1 52 p = nI (N 4) ∧ V.1 53 p = nI (5 ^ N 4) ∧
  (∀ s, s < 5 ^ N 4 → V.2.2.1 (p + 3) s = nI (sumP N s 0)) ∧ (∀ s, s < 5 ^ N 4 → V.2.2.1 (p + 4) s = nI (sumP N s 2)) ∧ (∀ s, s < 5 ^ N 4 → V.2.2.1 (p + 5) s = nI (sumP N s 4)) ∧ (∀ s, s < 5 ^ N 4 → V.2.2.1 (p + 6) s = nI (fillP N s))
def wkJ (V : zV) (p : Nat) (N : Nat → Nat) (f : Nat → Nat) : zV := rAJ V (p + 10) 0 (5 ^ N 4) (fun t => lN (f t))
theorem rAJ_ne {V : zV} {a lo n x : Nat} {g : Nat → Int64} (h : x ≠ a) (j : Nat) : (rAJ V a lo n g).2.2.2 x j = V.2.2.2 x j := rw2_ne h j
theorem rAJ_at {V : zV} {a n j : Nat} {g : Nat → Int64} (h : j < n) : (rAJ V a 0 n g).2.2.2 a j = g j := rw2_in0 h
theorem rAJ_off {V : zV} {a lo n j : Nat} {g : Nat → Int64} (h1 : lo ≤ j) (h2 : j < lo + n) : (rAJ V a lo n g).2.2.2 a j = g (j - lo) := rw2_in h1 h2
theorem rAJ_out {V : zV} {a lo n j : Nat} {g : Nat → Int64} (h : j < lo ∨ lo + n ≤ j) : (rAJ V a lo n g).2.2.2 a j = V.2.2.2 a j := rw2_out h
theorem rAI_ne {V : zV} {a lo n x : Nat} {g : Nat → Int32} (h : x ≠ a) (j : Nat) : (rAI V a lo n g).2.2.1 x j = V.2.2.1 x j := rw2_ne h j
theorem rAI_at {V : zV} {a n j : Nat} {g : Nat → Int32} (h : j < n) : (rAI V a 0 n g).2.2.1 a j = g j := rw2_in0 h
theorem rAI_off {V : zV} {a lo n j : Nat} {g : Nat → Int32} (h1 : lo ≤ j) (h2 : j < lo + n) : (rAI V a lo n g).2.2.1 a j = g (j - lo) := rw2_in h1 h2
theorem rAI_out {V : zV} {a lo n j : Nat} {g : Nat → Int32} (h : j < lo ∨ lo + n ≤ j) : (rAI V a lo n g).2.2.1 a j = V.2.2.1 a j := rw2_out h
theorem rw2_u2 {α : Type} {f : Nat → Nat → α} {a n s : Nat} {g : Nat → α} {v : α} (hs : s < n) : u2 (rw2 f a 0 n g) a s v = rw2 f a 0 n (fun t => if t = s then v else g t) := by
  funext x j
  unfold u2 rw2
  by_cases e : x = a ∧ j = s
  · rw [if_pos e, if_pos (by omega)]
    simp only [Nat.sub_zero]
    rw [if_pos e.2]
  · rw [if_neg e]
    by_cases e2 : x = a ∧ 0 ≤ j ∧ j < 0 + n
    · rw [if_pos e2, if_pos e2]
      simp only [Nat.sub_zero]
      rw [if_neg (by omega)]
    · rw [if_neg e2, if_neg e2]
theorem wk_set {V : zV} {p s v : Nat} {N f : Nat → Nat} (hs : s < 5 ^ N 4) : sAJ (wkJ V p N f) (p + 10) s (lN v) = wkJ V p N (numP f s v) := by
  unfold wkJ sAJ rAJ
  dsimp only
  rw [rw2_u2 hs]
  congr 4
  funext t
  unfold numP
  split <;> rfl
theorem wk_get {V : zV} {p s : Nat} {N f : Nat → Nat} (hs : s < 5 ^ N 4) (h5 : 5 ^ N 4 ≤ 125) : atL (wkJ V p N f) (p + 10) 125 (nI s) = lN (f s) :=
  (atL_in (by omega) (by decide)).trans (rAJ_at hs)
theorem st125 {N : Nat → Nat} (h : N 4 ≤ 3) : 5 ^ N 4 ≤ 125 := by
  rcases (show N 4 = 0 ∨ N 4 = 1 ∨ N 4 = 2 ∨ N 4 = 3 by omega) with e | e | e | e <;> rw [e] <;> decide
theorem dig_upA : ∀ (k : Fin 4) (j : Fin 3) (s : Fin 125), j.val < k.val → s.val < 5 ^ k.val → dig s.val j.val < 4 → s.val + 5 ^ j.val < 5 ^ k.val := by decide +kernel
theorem dig_up {k j s : Nat} (hk : k ≤ 3) (hj : j < k) (hs : s < 5 ^ k) (hd : dig s j < 4) : s + 5 ^ j < 5 ^ k := by
  have h5 : 5 ^ k ≤ 5 ^ 3 := Nat.pow_le_pow_right (by decide) hk
  exact dig_upA ⟨k, by omega⟩ ⟨j, by omega⟩ ⟨s, by omega⟩ hj hs hd
/-- s and all above are as they were, those below are new -/
def upP (s : Nat) (g f : Nat → Nat) : Nat → Nat := fun t => if t < s then g t else f t
theorem upP_0 (g f : Nat → Nat) : upP 0 g f = f := by
  funext t
  exact if_neg (Nat.not_lt_zero _)
theorem upP_s {s : Nat} {g f : Nat → Nat} : numP (upP s g f) s (g s) = upP (s + 1) g f := by
  funext t
  unfold numP upP
  by_cases e : t = s
  · subst e
    rw [if_pos rfl, if_pos (by omega)]
  · rw [if_neg e]
    by_cases h : t < s
    · rw [if_pos h, if_pos (by omega)]
    · rw [if_neg h, if_neg (by omega)]
theorem upP_at {s t : Nat} {g f : Nat → Nat} (h : s ≤ t) : upP s g f t = f t := if_neg (by omega)
theorem wk_upN {V : zV} {p : Nat} {N g f : Nat → Nat} : wkJ V p N (upP (5 ^ N 4) g f) = wkJ V p N g := by
  unfold wkJ rAJ
  congr 3
  funext x j
  unfold rw2
  split
  · next h =>
    show lN (upP _ g f _) = _
    unfold upP
    rw [if_pos (by omega)]
  · rfl
/-- those from s on are new -/
def dnP (s : Nat) (g f : Nat → Nat) : Nat → Nat := fun t => if t < s then f t else g t
theorem dnP_s {s : Nat} {g f : Nat → Nat} : numP (dnP (s + 1) g f) s (g s) = dnP s g f := by
  funext t
  unfold numP dnP
  by_cases e : t = s
  · subst e
    rw [if_pos rfl, if_neg (by omega)]
  · rw [if_neg e]
    by_cases h : t < s
    · rw [if_pos h, if_pos (by omega)]
    · rw [if_neg h, if_neg (by omega)]
theorem dnP_0 {g f : Nat → Nat} : dnP 0 g f = g := by
  funext t
  exact if_neg (Nat.not_lt_zero _)
theorem dnP_at {s t : Nat} {g f : Nat → Nat} (h : t < s) : dnP s g f t = f t := if_pos h
theorem wk_dnN {V : zV} {p : Nat} {N g f : Nat → Nat} : wkJ V p N (dnP (5 ^ N 4) g f) = wkJ V p N f := by
  unfold wkJ rAJ
  congr 3
  funext x j
  unfold rw2
  split
  · next h =>
    show lN (dnP _ g f _) = _
    unfold dnP
    rw [if_pos (by omega)]
  · rfl
theorem c_X1_hasState {l : Launch} {Z : zP} {G : zG} {V : zV} {p : Nat} (hP : PlanAt Z G p) {N : Nat → Nat} (hH : PlanH V p N) {x : Int32} : CT l Z yX1_hasState cX1_hasState 2 (some .boolean) 0 0 0 [.ref p, .int x] G V (pI (b2i (0 ≤ x.toInt ∧ x.toInt < (5 ^ N 4 : Nat))) G V) := by
  refine CT.of (by decide +kernel) (Nat.le_of_ble_eq_true rfl) (fun X hX cx => ?_)
  subst hX
  show Wm Z X 2 G V 0 0 _ 0 [(0, some (.ref p)), (1, some (.int x))] []
  have h0 := hP.1
  have hh := hP.2.2.1.1
  have hN := hH.1
  have hB := hN.1
  have n4 := hB.1
  have hV := hH.2.1
  have n125 := st125 n4
  have eD := hH.2.2.1
  have eS := hH.2.2.2.1
  have eN := hH.2.2.2.2.1
  have tn := nI_toInt (n := 5 ^ N 4) (by omega)
  refine x_iload_n (pc := 0) cx (dA ddX1_hasState (i := 0) rfl) rfl ?_
  refine x_if_lt (pc := 1) (tgt := 16) cx (dA ddX1_hasState (i := 1) rfl) (by decide) (fun c1 => ?_) (fun c1 => ?_)
  · refine x_iconst (pc := 16) (v := nI 0) cx (dA ddX1_hasState (i := 8) rfl) (by decide) ?_
    refine x_zreturn (pc := 17) cx (dA ddX1_hasState (i := 9) rfl) (by first | exact Nat.le_of_ble_eq_true rfl | omega) (by first | exact Nat.le_of_ble_eq_true rfl | omega) rfl ?_
    refine rI ?_
    (try simp only [i32_lt, i32_le, toI_0, tn] at c1)
    (try simp only [i32_lt, i32_le, toI_0, tn] at c9)
    first | exact (b2i_t (by omega)).symm | exact (b2i_f (by omega)).symm
  · refine x_iload_n (pc := 4) cx (dA ddX1_hasState (i := 2) rfl) rfl ?_
    refine x_aload_n (pc := 5) cx (dA ddX1_hasState (i := 3) rfl) rfl ?_
    refine gX1_76 (pc := 6) (congrArg Value.int eN) cx (dA ddX1_hasState (i := 4) rfl) h0 ?_
    refine x_icmp_ge (pc := 9) (tgt := 16) cx (dA ddX1_hasState (i := 5) rfl) (by decide) (fun c9 => ?_) (fun c9 => ?_)
    · refine x_iconst (pc := 16) (v := nI 0) cx (dA ddX1_hasState (i := 8) rfl) (by decide) ?_
      refine x_zreturn (pc := 17) cx (dA ddX1_hasState (i := 9) rfl) (by first | exact Nat.le_of_ble_eq_true rfl | omega) (by first | exact Nat.le_of_ble_eq_true rfl | omega) rfl ?_
      refine rI ?_
      (try simp only [i32_lt, i32_le, toI_0, tn] at c1)
      (try simp only [i32_lt, i32_le, toI_0, tn] at c9)
      first | exact (b2i_t (by omega)).symm | exact (b2i_f (by omega)).symm
    · refine x_iconst (pc := 12) (v := nI 1) cx (dA ddX1_hasState (i := 6) rfl) (by decide) ?_
      refine x_goto (pc := 13) (tgt := 17) cx (dA ddX1_hasState (i := 7) rfl) (by decide) ?_
      refine x_zreturn (pc := 17) cx (dA ddX1_hasState (i := 9) rfl) (by first | exact Nat.le_of_ble_eq_true rfl | omega) (by first | exact Nat.le_of_ble_eq_true rfl | omega) rfl ?_
      refine rI ?_
      (try simp only [i32_lt, i32_le, toI_0, tn] at c1)
      (try simp only [i32_lt, i32_le, toI_0, tn] at c9)
      first | exact (b2i_t (by omega)).symm | exact (b2i_f (by omega)).symm
theorem c_X1_hasPlace {l : Launch} {Z : zP} {G : zG} {V : zV} {p : Nat} (hP : PlanAt Z G p) {N : Nat → Nat} (hH : PlanH V p N) {y x : Int32} : CT l Z yX1_hasPlace cX1_hasPlace 3 (some .boolean) 1 0 0 [.ref p, .int y, .int x] G V (pI (b2i ((0 ≤ y.toInt ∧ y.toInt ≤ (N 0 : Nat)) ∧ (0 ≤ x.toInt ∧ x.toInt < (5 ^ N 4 : Nat)))) G V) := by
  refine CT.of (by decide +kernel) (Nat.le_of_ble_eq_true rfl) (fun X hX cx => ?_)
  subst hX
  show Wm Z X 3 G V 0 0 _ 0 [(0, some (.ref p)), (1, some (.int y)), (2, some (.int x))] []
  have h0 := hP.1
  have hh := hP.2.2.1.1
  have hN := hH.1
  have hB := hN.1
  have n4 := hB.1
  have hV := hH.2.1
  have n125 := st125 n4
  have eD := hH.2.2.1
  have eS := hH.2.2.2.1
  have eN := hH.2.2.2.2.1
  have tn := nI_toInt (n := N 0) (nI20 (hB.2 0 (by omega)))
  refine x_iload_n (pc := 0) cx (dA ddX1_hasPlace (i := 0) rfl) rfl ?_
  refine x_if_lt (pc := 1) (tgt := 24) cx (dA ddX1_hasPlace (i := 1) rfl) (by decide) (fun c1 => ?_) (fun c1 => ?_)
  · refine x_iconst (pc := 24) (v := nI 0) cx (dA ddX1_hasPlace (i := 12) rfl) (by decide) ?_
    refine x_zreturn (pc := 25) cx (dA ddX1_hasPlace (i := 13) rfl) (by first | exact Nat.le_of_ble_eq_true rfl | omega) (by first | exact Nat.le_of_ble_eq_true rfl | omega) rfl ?_
    refine rI ?_
    (try simp only [i32_lt, i32_le, toI_0, tn] at c1)
    (try simp only [i32_lt, i32_le, toI_0, tn] at c9)
    first | exact (b2i_t (by omega)).symm | exact (b2i_f (by omega)).symm
  · refine x_iload_n (pc := 4) cx (dA ddX1_hasPlace (i := 2) rfl) rfl ?_
    refine x_aload_n (pc := 5) cx (dA ddX1_hasPlace (i := 3) rfl) rfl ?_
    refine gX1_66 (pc := 6) (congrArg Value.int eD) cx (dA ddX1_hasPlace (i := 4) rfl) h0 ?_
    refine x_icmp_gt (pc := 9) (tgt := 24) cx (dA ddX1_hasPlace (i := 5) rfl) (by decide) (fun c9 => ?_) (fun c9 => ?_)
    · refine x_iconst (pc := 24) (v := nI 0) cx (dA ddX1_hasPlace (i := 12) rfl) (by decide) ?_
      refine x_zreturn (pc := 25) cx (dA ddX1_hasPlace (i := 13) rfl) (by first | exact Nat.le_of_ble_eq_true rfl | omega) (by first | exact Nat.le_of_ble_eq_true rfl | omega) rfl ?_
      refine rI ?_
      (try simp only [i32_lt, i32_le, toI_0, tn] at c1)
      (try simp only [i32_lt, i32_le, toI_0, tn] at c9)
      first | exact (b2i_t (by omega)).symm | exact (b2i_f (by omega)).symm
    · refine x_aload_n (pc := 12) cx (dA ddX1_hasPlace (i := 6) rfl) rfl ?_
      refine x_iload_n (pc := 13) cx (dA ddX1_hasPlace (i := 7) rfl) rfl ?_
      refine x_V1 (pc := 14) mX1_90 h0 (c_X1_hasState hP hH) cx (dA ddX1_hasPlace (i := 8) rfl) (kI ?_)
      refine x_if_eq (pc := 17) (tgt := 24) cx (dA ddX1_hasPlace (i := 9) rfl) (by decide) (fun c17 => ?_) (fun c17 => ?_)
      · have c17 := b2i_eq c17
        refine x_iconst (pc := 24) (v := nI 0) cx (dA ddX1_hasPlace (i := 12) rfl) (by decide) ?_
        refine x_zreturn (pc := 25) cx (dA ddX1_hasPlace (i := 13) rfl) (by first | exact Nat.le_of_ble_eq_true rfl | omega) (by first | exact Nat.le_of_ble_eq_true rfl | omega) rfl ?_
        refine rI ?_
        (try simp only [i32_lt, i32_le, toI_0, tn] at c1)
        (try simp only [i32_lt, i32_le, toI_0, tn] at c9)
        first | exact (b2i_t (by omega)).symm | exact (b2i_f (by omega)).symm
      · have c17 := b2i_ne c17
        refine x_iconst (pc := 20) (v := nI 1) cx (dA ddX1_hasPlace (i := 10) rfl) (by decide) ?_
        refine x_goto (pc := 21) (tgt := 25) cx (dA ddX1_hasPlace (i := 11) rfl) (by decide) ?_
        refine x_zreturn (pc := 25) cx (dA ddX1_hasPlace (i := 13) rfl) (by first | exact Nat.le_of_ble_eq_true rfl | omega) (by first | exact Nat.le_of_ble_eq_true rfl | omega) rfl ?_
        refine rI ?_
        (try simp only [i32_lt, i32_le, toI_0, tn] at c1)
        (try simp only [i32_lt, i32_le, toI_0, tn] at c9)
        first | exact (b2i_t (by omega)).symm | exact (b2i_f (by omega)).symm
theorem c_X1_hasDay {l : Launch} {Z : zP} {G : zG} {V : zV} {p : Nat} (hP : PlanAt Z G p) {N : Nat → Nat} (hH : PlanH V p N) {y x : Int32} : CT l Z yX1_hasDay cX1_hasDay 3 (some .boolean) 2 0 0 [.ref p, .int y, .int x] G V (pI (b2i ((1 ≤ y.toInt ∧ y.toInt ≤ (N 0 : Nat)) ∧ (0 ≤ x.toInt ∧ x.toInt < (5 ^ N 4 : Nat)))) G V) := by
  refine CT.of (by decide +kernel) (Nat.le_of_ble_eq_true rfl) (fun X hX cx => ?_)
  subst hX
  show Wm Z X 3 G V 0 0 _ 0 [(0, some (.ref p)), (1, some (.int y)), (2, some (.int x))] []
  have h0 := hP.1
  have hh := hP.2.2.1.1
  have hN := hH.1
  have hB := hN.1
  have n4 := hB.1
  have hV := hH.2.1
  have n125 := st125 n4
  have eD := hH.2.2.1
  have eS := hH.2.2.2.1
  have eN := hH.2.2.2.2.1
  have t1 : (nI 1).toInt = 1 := rfl
  refine x_iload_n (pc := 0) cx (dA ddX1_hasDay (i := 0) rfl) rfl ?_
  refine x_iconst (pc := 1) (v := nI 1) cx (dA ddX1_hasDay (i := 1) rfl) (by decide) ?_
  refine x_icmp_lt (pc := 2) (tgt := 18) cx (dA ddX1_hasDay (i := 2) rfl) (by decide) (fun c2 => ?_) (fun c2 => ?_)
  · refine x_iconst (pc := 18) (v := nI 0) cx (dA ddX1_hasDay (i := 10) rfl) (by decide) ?_
    refine x_zreturn (pc := 19) cx (dA ddX1_hasDay (i := 11) rfl) (by first | exact Nat.le_of_ble_eq_true rfl | omega) (by first | exact Nat.le_of_ble_eq_true rfl | omega) rfl ?_
    refine rI ?_
    (try simp only [i32_lt, i32_le, toI_0, t1] at c2)
    first | exact (b2i_t (by omega)).symm | exact (b2i_f (by omega)).symm
  · refine x_aload_n (pc := 5) cx (dA ddX1_hasDay (i := 3) rfl) rfl ?_
    refine x_iload_n (pc := 6) cx (dA ddX1_hasDay (i := 4) rfl) rfl ?_
    refine x_iload_n (pc := 7) cx (dA ddX1_hasDay (i := 5) rfl) rfl ?_
    refine x_V2 (pc := 8) mX1_94 h0 (c_X1_hasPlace hP hH) cx (dA ddX1_hasDay (i := 6) rfl) (kI ?_)
    refine x_if_eq (pc := 11) (tgt := 18) cx (dA ddX1_hasDay (i := 7) rfl) (by decide) (fun c11 => ?_) (fun c11 => ?_)
    · have c11 := b2i_eq c11
      refine x_iconst (pc := 18) (v := nI 0) cx (dA ddX1_hasDay (i := 10) rfl) (by decide) ?_
      refine x_zreturn (pc := 19) cx (dA ddX1_hasDay (i := 11) rfl) (by first | exact Nat.le_of_ble_eq_true rfl | omega) (by first | exact Nat.le_of_ble_eq_true rfl | omega) rfl ?_
      refine rI ?_
      (try simp only [i32_lt, i32_le, toI_0, t1] at c2)
      first | exact (b2i_t (by omega)).symm | exact (b2i_f (by omega)).symm
    · have c11 := b2i_ne c11
      refine x_iconst (pc := 14) (v := nI 1) cx (dA ddX1_hasDay (i := 8) rfl) (by decide) ?_
      refine x_goto (pc := 15) (tgt := 19) cx (dA ddX1_hasDay (i := 9) rfl) (by decide) ?_
      refine x_zreturn (pc := 19) cx (dA ddX1_hasDay (i := 11) rfl) (by first | exact Nat.le_of_ble_eq_true rfl | omega) (by first | exact Nat.le_of_ble_eq_true rfl | omega) rfl ?_
      refine rI ?_
      (try simp only [i32_lt, i32_le, toI_0, t1] at c2)
      first | exact (b2i_t (by omega)).symm | exact (b2i_f (by omega)).symm
theorem c_X1_roomOf {l : Launch} {Z : zP} {G : zG} {V : zV} {p : Nat} (hP : PlanAt Z G p) {N : Nat → Nat} (hH : PlanH V p N) {s : Nat} (hs : s < 5 ^ N 4) : CT l Z yX1_roomOf cX1_roomOf 2 (some .int) 1 0 0 [.ref p, .int (nI s)] G V (pI (nI (sumP N s 0)) G V) := by
  refine CT.of (by decide +kernel) (Nat.le_of_ble_eq_true rfl) (fun X hX cx => ?_)
  subst hX
  show Wm Z X 2 G V 0 0 _ 0 [(0, some (.ref p)), (1, some (.int (nI s)))] []
  have h0 := hP.1
  have hh := hP.2.2.1.1
  have hN := hH.1
  have hB := hN.1
  have n4 := hB.1
  have hV := hH.2.1
  have n125 := st125 n4
  have eD := hH.2.2.1
  have eS := hH.2.2.2.1
  have eN := hH.2.2.2.2.1
  refine x_aload_n (pc := 0) cx (dA ddX1_roomOf (i := 0) rfl) rfl ?_
  refine gX1_18 (pc := 1) (rfA hP.2.2.2.1.1) cx (dA ddX1_roomOf (i := 1) rfl) h0 ?_
  refine x_iload_n (pc := 4) cx (dA ddX1_roomOf (i := 2) rfl) rfl ?_
  refine x_SN2 (pc := 5) mX1_98 (c_X7_at hP.2.2.2.1.2 (by decide)) cx (dA ddX1_roomOf (i := 3) rfl) (kI ?_)
  rw [atI_in (by omega) (by decide), hH.2.2.2.2.2.1 s hs]
  refine x_ireturn (pc := 8) cx (dA ddX1_roomOf (i := 4) rfl) (by first | exact Nat.le_of_ble_eq_true rfl | omega) (by first | exact Nat.le_of_ble_eq_true rfl | omega) ?_
  exact rI rfl
theorem c_X1_fillOf {l : Launch} {Z : zP} {G : zG} {V : zV} {p : Nat} (hP : PlanAt Z G p) {N : Nat → Nat} (hH : PlanH V p N) {s : Nat} (hs : s < 5 ^ N 4) : CT l Z yX1_fillOf cX1_fillOf 2 (some .int) 1 0 0 [.ref p, .int (nI s)] G V (pI (nI (fillP N s)) G V) := by
  refine CT.of (by decide +kernel) (Nat.le_of_ble_eq_true rfl) (fun X hX cx => ?_)
  subst hX
  show Wm Z X 2 G V 0 0 _ 0 [(0, some (.ref p)), (1, some (.int (nI s)))] []
  have h0 := hP.1
  have hh := hP.2.2.1.1
  have hN := hH.1
  have hB := hN.1
  have n4 := hB.1
  have hV := hH.2.1
  have n125 := st125 n4
  have eD := hH.2.2.1
  have eS := hH.2.2.2.1
  have eN := hH.2.2.2.2.1
  refine x_aload_n (pc := 0) cx (dA ddX1_fillOf (i := 0) rfl) rfl ?_
  refine gX1_28 (pc := 1) (rfA hP.2.2.2.2.2.2.1.1) cx (dA ddX1_fillOf (i := 1) rfl) h0 ?_
  refine x_iload_n (pc := 4) cx (dA ddX1_fillOf (i := 2) rfl) rfl ?_
  refine x_SN2 (pc := 5) mX1_98 (c_X7_at hP.2.2.2.2.2.2.1.2 (by decide)) cx (dA ddX1_fillOf (i := 3) rfl) (kI ?_)
  rw [atI_in (by omega) (by decide), hH.2.2.2.2.2.2.2.2 s hs]
  refine x_ireturn (pc := 8) cx (dA ddX1_fillOf (i := 4) rfl) (by first | exact Nat.le_of_ble_eq_true rfl | omega) (by first | exact Nat.le_of_ble_eq_true rfl | omega) ?_
  exact rI rfl
theorem c_X1_placeOf {l : Launch} {Z : zP} {G : zG} {V : zV} {d s : Nat} : CT l Z yX1_placeOf cX1_placeOf 2 (some .int) 0 0 0 [.int (nI d), .int (nI s)] G V (pI (nI (d * 125 + s)) G V) := by
  refine CT.of (by decide +kernel) (Nat.le_of_ble_eq_true rfl) (fun X hX cx => ?_)
  subst hX
  show Wm Z X 2 G V 0 0 _ 0 [(0, some (.int (nI d))), (1, some (.int (nI s)))] []
  refine x_iload_n (pc := 0) cx (dA ddX1_placeOf (i := 0) rfl) rfl ?_
  refine x_bipush (pc := 1) (v := nI 125) cx (dA ddX1_placeOf (i := 1) rfl) (by decide) ?_
  refine x_imul (pc := 3) cx (dA ddX1_placeOf (i := 2) rfl) ?_
  refine x_iload_n (pc := 4) cx (dA ddX1_placeOf (i := 3) rfl) rfl ?_
  refine x_iadd (pc := 5) cx (dA ddX1_placeOf (i := 4) rfl) ?_
  rw [nI_cmul, nI_add]
  refine x_ireturn (pc := 6) cx (dA ddX1_placeOf (i := 5) rfl) (by first | exact Nat.le_of_ble_eq_true rfl | omega) (by first | exact Nat.le_of_ble_eq_true rfl | omega) ?_
  exact rI rfl
theorem c_X1_loadWorkedOut {l : Launch} {Z : zP} {G : zG} {V : zV} {p : Nat} (hP : PlanAt Z G p) {N : Nat → Nat} (hH : PlanH V p N) {d s v : Nat} (hd : d ≤ 6) (hs : s < 5 ^ N 4) (hv : V.2.2.1 (p + 7) (d * 125 + s) = nI v) : CT l Z yX1_loadWorkedOut cX1_loadWorkedOut 3 (some .int) 1 0 0 [.ref p, .int (nI d), .int (nI s)] G V (pI (nI v) G V) := by
  refine CT.of (by decide +kernel) (Nat.le_of_ble_eq_true rfl) (fun X hX cx => ?_)
  subst hX
  show Wm Z X 3 G V 0 0 _ 0 [(0, some (.ref p)), (1, some (.int (nI d))), (2, some (.int (nI s)))] []
  have h0 := hP.1
  have hh := hP.2.2.1.1
  have hN := hH.1
  have hB := hN.1
  have n4 := hB.1
  have hV := hH.2.1
  have n125 := st125 n4
  have eD := hH.2.2.1
  have eS := hH.2.2.2.1
  have eN := hH.2.2.2.2.1
  refine x_aload_n (pc := 0) cx (dA ddX1_loadWorkedOut (i := 0) rfl) rfl ?_
  refine gX1_31 (pc := 1) (rfA hP.2.2.2.2.2.2.2.1.1) cx (dA ddX1_loadWorkedOut (i := 1) rfl) h0 ?_
  refine x_iload_n (pc := 4) cx (dA ddX1_loadWorkedOut (i := 2) rfl) rfl ?_
  refine x_iload_n (pc := 5) cx (dA ddX1_loadWorkedOut (i := 3) rfl) rfl ?_
  refine x_S2 (pc := 6) mX1_106 c_X1_placeOf cx (dA ddX1_loadWorkedOut (i := 4) rfl) (kI ?_)
  refine x_SN2 (pc := 9) mX1_98 (c_X7_at hP.2.2.2.2.2.2.2.1.2 (by decide)) cx (dA ddX1_loadWorkedOut (i := 5) rfl) (kI ?_)
  rw [atI_in (by omega) (by decide), hv]
  refine x_ireturn (pc := 12) cx (dA ddX1_loadWorkedOut (i := 6) rfl) (by first | exact Nat.le_of_ble_eq_true rfl | omega) (by first | exact Nat.le_of_ble_eq_true rfl | omega) ?_
  exact rI rfl
theorem c_X1_startFromEnd {l : Launch} {Z : zP} {G : zG} {V : zV} {p : Nat} (hP : PlanAt Z G p) {N : Nat → Nat} (hH : PlanH V p N) : CT l Z yX1_startFromEnd cX1_startFromEnd 2 none 1 0 0 [.ref p] G V (pV G (wkJ V p N (fun t => sumP N t 4))) := by
  refine CT.of (by decide +kernel) (Nat.le_of_ble_eq_true rfl) (fun X hX cx => ?_)
  subst hX
  show Wm Z X 2 G V 0 0 _ 0 [(0, some (.ref p))] []
  have h0 := hP.1
  have hh := hP.2.2.1.1
  have hN := hH.1
  have hB := hN.1
  have n4 := hB.1
  have hV := hH.2.1
  have n125 := st125 n4
  have eD := hH.2.2.1
  have eS := hH.2.2.2.1
  have eN := hH.2.2.2.2.1
  refine x_iconst (pc := 0) (v := nI 0) cx (dA ddX1_startFromEnd (i := 0) rfl) (by decide) ?_
  refine x_istore_n (pc := 1) cx (dA ddX1_startFromEnd (i := 1) rfl) (by decide) rfl ?_
  have L2 : ∀ s, s ≤ 5 ^ N 4 → Wm Z X 2 G (rAJ V (p + 10) 0 s (fun t => lN (sumP N t 4))) 0 0 (rQ Z X 0 0 (pV G (wkJ V p N (fun t => sumP N t 4)))) 2 [(0, some (.ref p)), (1, some (.int (nI s)))] [] := by
    refine lpU (5 ^ N 4) (fun s hs ih => ?_)
    refine x_iload_n (pc := 2) cx (dA ddX1_startFromEnd (i := 2) rfl) rfl ?_
    refine x_aload_n (pc := 3) cx (dA ddX1_startFromEnd (i := 3) rfl) rfl ?_
    refine gX1_76 (pc := 4) (congrArg Value.int eN) cx (dA ddX1_startFromEnd (i := 4) rfl) h0 ?_
    refine x_icmp_ge (pc := 7) (tgt := 33) cx (dA ddX1_startFromEnd (i := 5) rfl) (by decide) (fun c7 => ?_) (fun c7 => ?_)
    · have c7 := cleT (by omega) (by omega) c7
      have es : s = 5 ^ N 4 := by omega
      subst es
      refine x_return (pc := 33) cx (dA ddX1_startFromEnd (i := 17) rfl) (by first | exact Nat.le_of_ble_eq_true rfl | omega) (by first | exact Nat.le_of_ble_eq_true rfl | omega) ?_
      exact ⟨rfl, rfl, rfl⟩
    · have c7 := cleF (by omega) (by omega) c7
      refine x_aload_n (pc := 10) cx (dA ddX1_startFromEnd (i := 6) rfl) rfl ?_
      refine gX1_41 (pc := 11) (rfA hP.2.2.2.2.2.2.2.2.2.2.1.1) cx (dA ddX1_startFromEnd (i := 7) rfl) h0 ?_
      refine x_iload_n (pc := 14) cx (dA ddX1_startFromEnd (i := 8) rfl) rfl ?_
      refine x_aload_n (pc := 15) cx (dA ddX1_startFromEnd (i := 9) rfl) rfl ?_
      refine gX1_25 (pc := 16) (rfA hP.2.2.2.2.2.1.1) cx (dA ddX1_startFromEnd (i := 10) rfl) h0 ?_
      refine x_iload_n (pc := 19) cx (dA ddX1_startFromEnd (i := 11) rfl) rfl ?_
      refine x_SN2 (pc := 20) mX1_98 (c_X7_at hP.2.2.2.2.2.1.2 (by decide)) cx (dA ddX1_startFromEnd (i := 12) rfl) (kI ?_)
      rw [atI_in (by omega) (by decide), show (rAJ V (p + 10) 0 s fun t => lN (sumP N t 4)).2.2.1 (p + 5) s = nI (sumP N s 4) from hH.2.2.2.2.2.2.2.1 s c7]
      refine x_i2l (pc := 23) cx (dA ddX1_startFromEnd (i := 13) rfl) ?_
      rw [nI_l (by have := sumP_lt hB (s := s) (w := 4) (by omega); omega)]
      refine x_SN3 (pc := 24) mX1_151 (c_X7_put_ hP.2.2.2.2.2.2.2.2.2.2.1.2 (by omega) (by decide)) cx (dA ddX1_startFromEnd (i := 14) rfl) (kV ?_)
      rw [rAJ_s0 _ _ _ _ rfl]
      refine x_iinc (pc := 27) cx (dA ddX1_startFromEnd (i := 15) rfl) rfl (iinc1 _) (by decide) rfl ?_
      refine x_goto (pc := 30) (tgt := 2) cx (dA ddX1_startFromEnd (i := 16) rfl) (by decide) ?_
      exact x_enter (ih (by omega)) ⟨.inr rfl, .inr rfl, trivial⟩
  have L := L2 0 (Nat.zero_le _)
  rw [rAJ_0] at L
  exact x_enter L ⟨.inr rfl, .inr rfl, trivial⟩
theorem c_X1_takeCosts {l : Launch} {Z : zP} {G : zG} {V : zV} {p : Nat} (hP : PlanAt Z G p) {N : Nat → Nat} (hH : PlanH V p N) {d : Nat} {g : Nat → Nat} (hd : d ≤ 6) (hg : ∀ s, s < 5 ^ N 4 → V.2.2.2 (p + 8) (d * 125 + s) = lN (g s)) : CT l Z yX1_takeCosts cX1_takeCosts 3 none 1 0 0 [.ref p, .int (nI d)] G V (pV G (wkJ V p N g)) := by
  refine CT.of (by decide +kernel) (Nat.le_of_ble_eq_true rfl) (fun X hX cx => ?_)
  subst hX
  show Wm Z X 3 G V 0 0 _ 0 [(0, some (.ref p)), (1, some (.int (nI d)))] []
  have h0 := hP.1
  have hh := hP.2.2.1.1
  have hN := hH.1
  have hB := hN.1
  have n4 := hB.1
  have hV := hH.2.1
  have n125 := st125 n4
  have eD := hH.2.2.1
  have eS := hH.2.2.2.1
  have eN := hH.2.2.2.2.1
  refine x_iconst (pc := 0) (v := nI 0) cx (dA ddX1_takeCosts (i := 0) rfl) (by decide) ?_
  refine x_istore_n (pc := 1) cx (dA ddX1_takeCosts (i := 1) rfl) (by decide) rfl ?_
  have L2 : ∀ s, s ≤ 5 ^ N 4 → Wm Z X 3 G (rAJ V (p + 10) 0 s (fun t => lN (g t))) 0 0 (rQ Z X 0 0 (pV G (wkJ V p N g))) 2 [(0, some (.ref p)), (1, some (.int (nI d))), (2, some (.int (nI s)))] [] := by
    refine lpU (5 ^ N 4) (fun s hs ih => ?_)
    refine x_iload_n (pc := 2) cx (dA ddX1_takeCosts (i := 2) rfl) rfl ?_
    refine x_aload_n (pc := 3) cx (dA ddX1_takeCosts (i := 3) rfl) rfl ?_
    refine gX1_76 (pc := 4) (congrArg Value.int eN) cx (dA ddX1_takeCosts (i := 4) rfl) h0 ?_
    refine x_icmp_ge (pc := 7) (tgt := 36) cx (dA ddX1_takeCosts (i := 5) rfl) (by decide) (fun c7 => ?_) (fun c7 => ?_)
    · have c7 := cleT (by omega) (by omega) c7
      have es : s = 5 ^ N 4 := by omega
      subst es
      refine x_return (pc := 36) cx (dA ddX1_takeCosts (i := 18) rfl) (by first | exact Nat.le_of_ble_eq_true rfl | omega) (by first | exact Nat.le_of_ble_eq_true rfl | omega) ?_
      exact ⟨rfl, rfl, rfl⟩
    · have c7 := cleF (by omega) (by omega) c7
      refine x_aload_n (pc := 10) cx (dA ddX1_takeCosts (i := 6) rfl) rfl ?_
      refine gX1_41 (pc := 11) (rfA hP.2.2.2.2.2.2.2.2.2.2.1.1) cx (dA ddX1_takeCosts (i := 7) rfl) h0 ?_
      refine x_iload_n (pc := 14) cx (dA ddX1_takeCosts (i := 8) rfl) rfl ?_
      refine x_aload_n (pc := 15) cx (dA ddX1_takeCosts (i := 9) rfl) rfl ?_
      refine gX1_34 (pc := 16) (rfA hP.2.2.2.2.2.2.2.2.1.1) cx (dA ddX1_takeCosts (i := 10) rfl) h0 ?_
      refine x_iload_n (pc := 19) cx (dA ddX1_takeCosts (i := 11) rfl) rfl ?_
      refine x_iload_n (pc := 20) cx (dA ddX1_takeCosts (i := 12) rfl) rfl ?_
      refine x_S2 (pc := 21) mX1_106 c_X1_placeOf cx (dA ddX1_takeCosts (i := 13) rfl) (kI ?_)
      refine x_SN2 (pc := 24) mX1_109 (c_X7_at_ hP.2.2.2.2.2.2.2.2.1.2 (by decide)) cx (dA ddX1_takeCosts (i := 14) rfl) (kJ ?_)
      rw [atL_in (by omega) (by decide), show (rAJ V (p + 10) 0 s fun t => lN (g t)).2.2.2 (p + 8) (d * 125 + s) = lN (g s) from (rAJ_ne (by omega) _).trans (hg s c7)]
      refine x_SN3 (pc := 27) mX1_151 (c_X7_put_ hP.2.2.2.2.2.2.2.2.2.2.1.2 (by omega) (by decide)) cx (dA ddX1_takeCosts (i := 15) rfl) (kV ?_)
      rw [rAJ_s0 _ _ _ _ rfl]
      refine x_iinc (pc := 30) cx (dA ddX1_takeCosts (i := 16) rfl) rfl (iinc1 _) (by decide) rfl ?_
      refine x_goto (pc := 33) (tgt := 2) cx (dA ddX1_takeCosts (i := 17) rfl) (by decide) ?_
      exact x_enter (ih (by omega)) ⟨.inr rfl, .inr rfl, .inr rfl, trivial⟩
  have L := L2 0 (Nat.zero_le _)
  rw [rAJ_0] at L
  exact x_enter L ⟨.inr rfl, .inr rfl, .inr rfl, trivial⟩
theorem c_X1_keepWork {l : Launch} {Z : zP} {G : zG} {V : zV} {p : Nat} (hP : PlanAt Z G p) {N : Nat → Nat} (hH : PlanH V p N) {d a : Nat} {f : Nat → Nat} (hd : d ≤ 6) (ha : isA Z G a 2 875) (hne : a ≠ p + 10) : CT l Z yX1_keepWork cX1_keepWork 4 none 1 0 0 [.ref p, .ref a, .int (nI d)] G (wkJ V p N f) (pV G (rAJ (wkJ V p N f) a (d * 125) (5 ^ N 4) (fun t => lN (f t)))) := by
  refine CT.of (by decide +kernel) (Nat.le_of_ble_eq_true rfl) (fun X hX cx => ?_)
  subst hX
  show Wm Z X 4 G (wkJ V p N f) 0 0 _ 0 [(0, some (.ref p)), (1, some (.ref a)), (2, some (.int (nI d)))] []
  have h0 := hP.1
  have hh := hP.2.2.1.1
  have hN := hH.1
  have hB := hN.1
  have n4 := hB.1
  have hV := hH.2.1
  have n125 := st125 n4
  have eD := hH.2.2.1
  have eS := hH.2.2.2.1
  have eN := hH.2.2.2.2.1
  refine x_iconst (pc := 0) (v := nI 0) cx (dA ddX1_keepWork (i := 0) rfl) (by decide) ?_
  refine x_istore_n (pc := 1) cx (dA ddX1_keepWork (i := 1) rfl) (by decide) rfl ?_
  have L2 : ∀ s, s ≤ 5 ^ N 4 → Wm Z X 4 G (rAJ (wkJ V p N f) a (d * 125) s (fun t => lN (f t))) 0 0 (rQ Z X 0 0 (pV G (rAJ (wkJ V p N f) a (d * 125) (5 ^ N 4) (fun t => lN (f t))))) 2 [(0, some (.ref p)), (1, some (.ref a)), (2, some (.int (nI d))), (3, some (.int (nI s)))] [] := by
    refine lpU (5 ^ N 4) (fun s hs ih => ?_)
    refine x_iload_n (pc := 2) cx (dA ddX1_keepWork (i := 2) rfl) rfl ?_
    refine x_aload_n (pc := 3) cx (dA ddX1_keepWork (i := 3) rfl) rfl ?_
    refine gX1_76 (pc := 4) (congrArg Value.int eN) cx (dA ddX1_keepWork (i := 4) rfl) h0 ?_
    refine x_icmp_ge (pc := 7) (tgt := 33) cx (dA ddX1_keepWork (i := 5) rfl) (by decide) (fun c7 => ?_) (fun c7 => ?_)
    · have c7 := cleT (by omega) (by omega) c7
      have es : s = 5 ^ N 4 := by omega
      subst es
      refine x_return (pc := 33) cx (dA ddX1_keepWork (i := 17) rfl) (by first | exact Nat.le_of_ble_eq_true rfl | omega) (by first | exact Nat.le_of_ble_eq_true rfl | omega) ?_
      exact ⟨rfl, rfl, rfl⟩
    · have c7 := cleF (by omega) (by omega) c7
      refine x_aload_n (pc := 10) cx (dA ddX1_keepWork (i := 6) rfl) rfl ?_
      refine x_iload_n (pc := 11) cx (dA ddX1_keepWork (i := 7) rfl) rfl ?_
      refine x_iload_n (pc := 12) cx (dA ddX1_keepWork (i := 8) rfl) rfl ?_
      refine x_S2 (pc := 13) mX1_106 c_X1_placeOf cx (dA ddX1_keepWork (i := 9) rfl) (kI ?_)
      refine x_aload_n (pc := 16) cx (dA ddX1_keepWork (i := 10) rfl) rfl ?_
      refine gX1_41 (pc := 17) (rfA hP.2.2.2.2.2.2.2.2.2.2.1.1) cx (dA ddX1_keepWork (i := 11) rfl) h0 ?_
      refine x_iload_n (pc := 20) cx (dA ddX1_keepWork (i := 12) rfl) rfl ?_
      refine x_SN2 (pc := 21) mX1_109 (c_X7_at_ hP.2.2.2.2.2.2.2.2.2.2.1.2 (by decide)) cx (dA ddX1_keepWork (i := 13) rfl) (kJ ?_)
      rw [show atL (rAJ (wkJ V p N f) a (d * 125) s fun t => lN (f t)) (p + 10) 125 (nI s) = lN (f s) from (show _ = atL (wkJ V p N f) (p + 10) 125 (nI s) from by rw [atL_in (by omega) (by decide), atL_in (by omega) (by decide)]; exact rAJ_ne (Ne.symm hne) _).trans (wk_get c7 n125)]
      refine x_SN3 (pc := 24) mX1_151 (c_X7_put_ ha (by omega) (by decide)) cx (dA ddX1_keepWork (i := 14) rfl) (kV ?_)
      rw [rAJ_s _ _ _ _ _ rfl]
      refine x_iinc (pc := 27) cx (dA ddX1_keepWork (i := 15) rfl) rfl (iinc1 _) (by decide) rfl ?_
      refine x_goto (pc := 30) (tgt := 2) cx (dA ddX1_keepWork (i := 16) rfl) (by decide) ?_
      exact x_enter (ih (by omega)) ⟨.inr rfl, .inr rfl, .inr rfl, .inr rfl, trivial⟩
  have L := L2 0 (Nat.zero_le _)
  rw [rAJ_0] at L
  exact x_enter L ⟨.inr rfl, .inr rfl, .inr rfl, .inr rfl, trivial⟩
