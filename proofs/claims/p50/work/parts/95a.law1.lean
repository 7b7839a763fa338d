/-! THE LAW: what its methods keep -/
/-- every house has a sort -/
def wk1 (W : WD) : Prop := ∀ i, i < W.1 → 1 ≤ W.2.1 i 4
/-- between acts: the tape is empty; every house has a sort, also those that are kept -/
def lwI (S : SX) : Prop := wk1 S.1 ∧ ∀ W, S.2.1 = some W → wk1 W
def lwT (S : SX) : Prop := S.2.2.1.2 = 0 ∧ lwI S
theorem lwT_alt {S : SX} {h : Nat} {N : Nat → Nat} (hS : lwT S) (hN : h < S.1.1 → 1 ≤ N 4) : lwT (putW S (altW S.1 h N)) := by
  refine ⟨hS.1, fun i hi => ?_, hS.2.2⟩
  show 1 ≤ (if i = h then N else S.1.2.1 i) 4
  by_cases e : i = h
  · rw [if_pos e]
    subst e
    exact hN hi
  · rw [if_neg e]
    exact hS.2.1 i hi
theorem wk1_add {W : WD} {N : Nat → Nat} (hW : wk1 W) (hN : 1 ≤ N 4) : wk1 (addW W N) := by
  intro i hi
  show 1 ≤ (if i = W.1 then N else W.2.1 i) 4
  have hi : i < W.1 + 1 := hi
  by_cases e : i = W.1
  · rw [if_pos e]
    exact hN
  · rw [if_neg e]
    exact hW i (by omega)
theorem tn_lt {x : Int32} {n : Nat} (h : 0 ≤ x.toInt ∧ x.toInt < (n : Int)) : tn x < n := by
  unfold tn
  omega
theorem lwT_alter {S : SX} {h w v : Int32} (hS : lwT S) : lwT (fAlter S h w v).2 := by
  unfold fAlter
  split
  · next c =>
    exact lwT_alt hS fun q => by
      have e : tn w ≤ 2 := by unfold tn; have := c.2.1; omega
      rw [numP_ne (by omega)]
      exact hS.2.1 _ q
  · exact hS
theorem lwT_change {S : SX} {h k w v : Int32} (hS : lwT S) : lwT (fChange S h k w v).2 := by
  unfold fChange
  split
  · next c =>
    exact lwT_alt hS fun q => by
      rw [numP_ne (by omega)]
      exact hS.2.1 _ q
  · exact hS
theorem lwT_row {S : SX} {s t n : Int32} (hS : lwT S) : lwT (fRow S s t n).2 := by
  unfold fRow
  split <;> exact hS
theorem lwT_set {S : SX} {s i : Int32} {v : Int64} (hS : lwT S) : lwT (fSet S s i v).2 := by
  unfold fSet
  (repeat' split) <;> exact hS
theorem lwT_rule {S : SX} {s k a : Int32} (hS : lwT S) : lwT (fRule S s k a).2 := by
  unfold fRule
  (repeat' split) <;> exact hS
theorem lwT_copy {S : SX} {p q i j n : Int32} (hS : lwT S) : lwT (fCopy S p q i j n).2 := by
  unfold fCopy
  (repeat' split) <;> exact hS
theorem lwT_begin {S : SX} {h r : Int32} (hS : lwT S) : lwT (fBegin S h r).2 := by
  unfold fBegin
  (repeat' split) <;> exact hS
theorem lwT_step {S : SX} {D : Int32 → Int32} {vl : Int32 → Nat} {n : Int32} (hS : lwT S) : lwT (fStep D vl S n).2 := by
  unfold fStep
  (repeat' split) <;> exact hS
theorem lwT_weeks {S : SX} {D : Int32 → Int32} {vl : Int32 → Nat} {h r n : Int32} (hS : lwT S) : lwT (fWeeks D vl S h r n).2 := by
  unfold fWeeks
  (repeat' split) <;> exact hS
theorem lwT_join {S : SX} {h o : Int32} (hS : lwT S) : lwT (fJoin S h o).2 := by
  unfold fJoin
  split
  · next c =>
    split
    · split
      · exact hS
      · refine ⟨hS.1, wk1_add hS.2.1 ?_, hS.2.2⟩
        rw [addO_4]
        have := hS.2.1 (tn h) (tn_lt c.1)
        show 1 ≤ S.1.2.1 (tn h) 4 + _
        omega
    · exact hS
  · exact hS
theorem lwT_image {S : SX} (hS : lwT S) : lwT (fImage S).2 := ⟨hS.1, hS.2.1, fun W h => by cases h; exact hS.2.1⟩
theorem lwT_back {S : SX} (hS : lwT S) : lwT (fBack S).2 := by
  unfold fBack
  split
  · exact hS
  · next W e => exact ⟨hS.1, hS.2.2 W e, hS.2.2⟩
/-- being told a house -/
def lwF (n : Nat) (S : SX) : Prop := S.1.1 = n ∧ lwI S
theorem lwF_feed {S : SX} {n : Nat} {v k : Int32} (hS : lwF n S) : lwF n (fFeed S v k).2 := by
  unfold fFeed
  (repeat' split) <;> exact hS
theorem rdL_4 {B : Nat → Nat} {S : Nat} : ∀ n (M : Nat → Nat) (τ : TK) (M' : Nat → Nat), rdL B S n M τ = (none, M') → 1 ≤ M' 4
  | 0, M, τ, M', h => by cases h
  | n + 1, M, τ, M', h => by
    rw [rdL_s] at h
    split at h
    · cases h
    · unfold ctP at h
      split at h
      · split at h
        · next q => cases h; exact q
        · cases h
      · split at h
        · exact rdL_4 n _ _ M' h
        · cases h
theorem lwT_house {S : SX} {n : Nat} (hn : n < 6) (hS : lwF n S) : lwT (fHouse S).2 := by
  have h6 : ¬ S.1.1 = 6 := by have := hS.1; omega
  unfold fHouse
  rw [if_neg h6]
  split
  · next M e => exact ⟨rfl, wk1_add hS.2.1 (rdL_4 _ _ _ _ e), hS.2.2⟩
  · exact ⟨rfl, hS.2⟩
section LS
variable {Z : zP} {X : xP} {G : zG} {V : zV} {k n : Nat} {Q : State → Prop} {pc : Nat} {lw : List (Nat × Option Value)} {st rest : List Value} {own nm : String} {cc : ByteArray} {ret : Option FieldType} {D mc ms nL x : Nat} {col : Nat → Nat} {S' : SX}
/-- behind a call of the class: what it answers is known -/
theorem kCe {A : Int32 × SX} {v : Int32} (hA : A = (v, S')) (h : ∀ G' V' col', RC Z G' V' x col' S' → Wm Z X nL G' V' k n Q pc lw (.int v :: rest)) : ∀ (r : Option Value) (G' : zG) (V' : zV), pCI Z G V x col A r G' V' → Wm Z X nL G' V' k n Q pc lw (r.toList ++ rest) := by
  subst hA
  rintro r G' V' ⟨rfl, -, ⟨col', -, hR⟩, -⟩
  exact h G' V' col' hR
theorem kCeJ {A : Int64 × SX} {v : Int64} (hA : A = (v, S')) (h : ∀ G' V' col', RC Z G' V' x col' S' → Wm Z X nL G' V' k n Q pc lw (.long v :: rest)) : ∀ (r : Option Value) (G' : zG) (V' : zV), pCJ Z G V x col A r G' V' → Wm Z X nL G' V' k n Q pc lw (r.toList ++ rest) := by
  subst hA
  rintro r G' V' ⟨rfl, -, ⟨col', -, hR⟩, -⟩
  exact h G' V' col' hR
theorem kCa {A : Int32 × SX} (h : ∀ G' V' col', RC Z G' V' x col' A.2 → Wm Z X nL G' V' k n Q pc lw (.int A.1 :: rest)) : ∀ (r : Option Value) (G' : zG) (V' : zV), pCI Z G V x col A r G' V' → Wm Z X nL G' V' k n Q pc lw (r.toList ++ rest) := kCe rfl h
/-- a method of the law: what it answers, and what is known then -/
def pS (Z : zP) (x : Nat) (P : Option Value → SX → Prop) : Option Value → zG → zV → Prop := fun r G' V' => ∃ col' S', RC Z G' V' x col' S' ∧ P r S'
theorem kS {P : Option Value → SX → Prop} (h : ∀ (r : Option Value) G' V' col' S', RC Z G' V' x col' S' → P r S' → Wm Z X nL G' V' k n Q pc lw (r.toList ++ rest)) : ∀ (r : Option Value) (G' : zG) (V' : zV), pS Z x P r G' V' → Wm Z X nL G' V' k n Q pc lw (r.toList ++ rest) := by
  rintro r G' V' ⟨col', S', hR, hP⟩
  exact h r G' V' col' S' hR hP
def pK (S : SX) (v : Value) : Option Value → SX → Prop := fun r S' => r = some v ∧ S' = S
theorem kK {S : SX} {v : Value} (h : ∀ G' V' col', RC Z G' V' x col' S → Wm Z X nL G' V' k n Q pc lw (v :: rest)) : ∀ (r : Option Value) (G' : zG) (V' : zV), pS Z x (pK S v) r G' V' → Wm Z X nL G' V' k n Q pc lw (r.toList ++ rest) := by
  rintro r G' V' ⟨col', S', hR, rfl, rfl⟩
  exact h G' V' col' hR
def pN (R : SX → Prop) : Option Value → SX → Prop := fun r S' => r = none ∧ R S'
theorem kN {R : SX → Prop} (h : ∀ G' V' col' S', RC Z G' V' x col' S' → R S' → Wm Z X nL G' V' k n Q pc lw rest) : ∀ (r : Option Value) (G' : zG) (V' : zV), pS Z x (pN R) r G' V' → Wm Z X nL G' V' k n Q pc lw (r.toList ++ rest) := by
  rintro r G' V' ⟨col', S', hR, rfl, hP⟩
  exact h G' V' col' S' hR hP
def pEv (R : SX → Prop) : Option Value → SX → Prop := fun r S' => (∃ v : Int32, r = some (.int v)) ∧ R S'
/-- an element of the script -/
def pY (G : zG) (V : zV) : Option Value → zG → zV → Prop := fun r G' V' => (∃ v : Int32, r = some (.int v)) ∧ G' = G ∧ V' = V
theorem kY (h : ∀ v : Int32, Wm Z X nL G V k n Q pc lw (.int v :: rest)) : ∀ (r : Option Value) (G' : zG) (V' : zV), pY G V r G' V' → Wm Z X nL G' V' k n Q pc lw (r.toList ++ rest) := by
  rintro r G' V' ⟨⟨v, rfl⟩, rfl, rfl⟩
  exact h v
/-- the script's length and elements -/
theorem x_slen (cx : Cx Z X own nm cc nL ret D mc ms) (d : decode cc pc = .ok (.arraylength, 1)) (kk : Wm Z X nL G V k n Q (pc + 1) lw (.int (nI (scL Z)) :: st)) : Wm Z X nL G V k n Q pc lw (.ref (scB Z) :: st) := by
  intro H locs ls hM hS hl
  obtain ⟨cell, h1, h2, h3, h4, h5, h6, h7⟩ := cx.amb.2.2.2.2.1.kept hM.old
  exact W.alen (n := nI (scL Z)) cx.1 cx.2.1 h1 h2 h5 rfl rfl d (kk H locs ls hM hS hl)
theorem x_sld {j : Nat} (hj : j < scL Z) (cx : Cx Z X own nm cc nL ret D mc ms) (d : decode cc pc = .ok (.iaload, 1)) (kk : Wm Z X nL G V k n Q (pc + 1) lw (.int (scX Z j) :: st)) : Wm Z X nL G V k n Q pc lw (.int (nI j) :: .ref (scB Z) :: st) := by
  intro H locs ls hM hS hl
  have hL := cx.amb.2.2.2.2.2
  obtain ⟨cell, h1, h2, h3, h4, h5, h6, h7⟩ := cx.amb.2.2.2.2.1.kept hM.old
  have hc := nI_clamp (n := j) (by omega)
  refine W.iald (v := .int (scX Z j)) cx.1 cx.2.1 h1 h2 h3 (fun q => ?_) (by rw [hc]; exact h6 j hj) rfl rfl d (kk H locs ls hM hS hl)
  rw [hc] at q
  rcases q with q | q
  · exact nI_pos (by omega) q
  · omega
end LS
/-! what is asked of a house that is there: answers as numbers -/
def HS (S : SX) (i : Nat) (N : Nat → Nat) : Prop := i < S.1.1 ∧ S.1.1 ≤ 6 ∧ S.1.2.1 i = N ∧ HOK N ∧ 1 ≤ N 4
theorem RC.hs {Z : zP} {G : zG} {V : zV} {x : Nat} {col : Nat → Nat} {S : SX} (h : RC Z G V x col S) (hI : lwI S) {i : Nat} (hi : i < S.1.1) : HS S i (S.1.2.1 i) := ⟨hi, h.2.2.2.2.1.2.1, rfl, (h.2.2.2.2.1.2.2.1 i hi).2.1, hI.1 i hi⟩
theorem qL_mul (a b : Nat) : lN a * lN b = lN (a * b) := (Int64.ofNat_mul a b).symm
theorem qL_sub {a b : Nat} (h : b ≤ a) (ha : a < 2 ^ 62) : lN a - lN b = lN (a - b) := by
  apply Int64.toInt_inj.mp
  rw [lsub_toInt ha (by omega), lN_toI (by omega)]
  omega
theorem qL_nlt {a b : Nat} (h : a ≤ b) (hb : b < 2 ^ 63) : ¬ lN b < lN a := by
  rw [Int64.lt_iff_toInt_lt, lN_toI hb, lN_toI (by omega)]
  omega
theorem qL_le {a b : Nat} (h : a ≤ b) (hb : b < 2 ^ 63) : lN a ≤ lN b := by
  rw [Int64.le_iff_toInt_le, lN_toI hb, lN_toI (by omega)]
  omega
theorem qI_nlt {a b : Nat} (h : a ≤ b) (hb : b < 2 ^ 31) : ¬ nI b < nI a := by
  rw [i32_lt, nI_toInt hb, nI_toInt (by omega)]
  omega
theorem qI_64 {n : Nat} (h : n < 2 ^ 31) : (nI n).toInt64 = lN n := by
  apply Int64.toInt_inj.mp
  rw [Int32.toInt_toInt64, nI_toInt h, lN_toI (by omega)]
section ASK
variable {S : SX} {i : Nat} {N : Nat → Nat}
theorem HS.c (h : HS S i N) : okc S (nI i) := by
  have := h.1
  have := h.2.1
  rw [show okc S (nI i) = (0 ≤ (nI i).toInt ∧ (nI i).toInt < (S.1.1 : Int)) from rfl, nI_toInt (by omega)]
  omega
theorem HS.x (h : HS S i N) : hX S (nI i) = N := (hX_at (by have := h.1; have := h.2.1; omega)).trans h.2.2.1
theorem ok_t {t : Nat} (hN : HOK N) (ht : t < 5 ^ N 4) : okt N (nI t) := by
  have := n125N hN
  rw [show okt N (nI t) = (0 ≤ (nI t).toInt ∧ (nI t).toInt < ((5 ^ N 4 : Nat) : Int)) from rfl, nI_toInt (by omega)]
  omega
theorem ok_l {l : Nat} (hN : HOK N) (hl : l ≤ N 0) : okl N (nI l) := by
  have := hN.2.1
  rw [show okl N (nI l) = (0 ≤ (nI l).toInt ∧ (nI l).toInt ≤ (N 0 : Int)) from rfl, nI_toInt (by omega)]
  omega
theorem ok_l1 {l : Nat} (hN : HOK N) (h1 : 1 ≤ l) (hl : l ≤ N 0) : okl1 N (nI l) := by
  have := hN.2.1
  rw [show okl1 N (nI l) = (1 ≤ (nI l).toInt ∧ (nI l).toInt ≤ (N 0 : Int)) from rfl, nI_toInt (by omega)]
  omega
theorem ok_s {s : Nat} (hs : s < 8) : oks (nI s) := by
  rw [show oks (nI s) = (0 ≤ (nI s).toInt ∧ (nI s).toInt < 8) from rfl, nI_toInt (by omega)]
  omega
theorem ok_k {k : Nat} (hN : HOK N) (hk : k < N 4) : okk N (nI k) := by
  have := hN.1.1
  rw [show okk N (nI k) = (0 ≤ (nI k).toInt ∧ (nI k).toInt < (N 4 : Int)) from rfl, nI_toInt (by omega)]
  omega
theorem e_houseOf (h : HS S i N) {w : Nat} (hw : w ≤ 4) : fHouseOf S (nI i) (nI w) = (nI (N w), S) := by
  unfold fHouseOf
  rw [if_pos ⟨h.c, by rw [nI_toInt (by omega)]; omega⟩, h.x, tn_nI (by omega)]
theorem e_sortOf (h : HS S i N) {k w : Nat} (hk : k < N 4) (hw : w ≤ 4) : fSortOf S (nI i) (nI k) (nI w) = (nI (N (5 + 5 * k + w)), S) := by
  have n4 := h.2.2.2.1.1.1
  unfold fSortOf
  rw [if_pos ⟨h.c, by rw [h.x]; exact ok_k h.2.2.2.1 hk, by rw [nI_toInt (by omega)]; omega⟩, h.x, tn_nI (by omega), tn_nI (by omega)]
theorem e_of {t k : Nat} (ht : t < 125) (hk : k < 3) : fOf S (nI t) (nI k) = (nI (dig t k), S) := by
  unfold fOf
  rw [if_pos (by rw [nI_toInt (by omega), nI_toInt (by omega)]; omega), tn_nI (by omega), tn_nI (by omega)]
theorem e_fill (h : HS S i N) {t : Nat} (ht : t < 5 ^ N 4) : fFill S (nI i) (nI t) = (nI (fillP N t), S) := by
  have := n125N h.2.2.2.1
  unfold fFill
  rw [if_pos ⟨h.c, by rw [h.x]; exact ok_t h.2.2.2.1 ht⟩, h.x, tn_nI (by omega)]
theorem e_scale (h : HS S i N) {l : Nat} (hl : l ≤ N 0) : fScale S (nI i) (nI l) = (lN (sclP N l), S) := by
  have := h.2.2.2.1.2.1
  unfold fScale
  rw [if_pos ⟨h.c, by rw [h.x]; exact ok_l h.2.2.2.1 hl⟩, h.x, tn_nI (by omega)]
section DAY
variable {l t : Nat}
theorem e_best (h : HS S i N) (h1 : 1 ≤ l) (hl : l ≤ N 0) (ht : t < 5 ^ N 4) : fBest S (nI i) (nI l) (nI t) = (nI (ldP N l t), S) := by
  have := n125N h.2.2.2.1
  have := h.2.2.2.1.2.1
  unfold fBest
  rw [if_pos ⟨h.c, by rw [h.x]; exact ok_l1 h.2.2.2.1 h1 hl, by rw [h.x]; exact ok_t h.2.2.2.1 ht⟩, h.x, tn_nI (by omega), tn_nI (by omega)]
theorem e_cost (h : HS S i N) (hl : l ≤ N 0) (ht : t < 5 ^ N 4) : fCost S (nI i) (nI l) (nI t) = (lN (cst N l t), S) := by
  have := n125N h.2.2.2.1
  have := h.2.2.2.1.2.1
  unfold fCost
  rw [if_pos ⟨h.c, by rw [h.x]; exact ok_l h.2.2.2.1 hl, by rw [h.x]; exact ok_t h.2.2.2.1 ht⟩, h.x, tn_nI (by omega), tn_nI (by omega)]
theorem mix62 (hN : HOK N) (h1 : 1 ≤ l) (hl : l ≤ N 0) (ht : t < 5 ^ N 4) {u : Nat} : mixP N (boxP N l) (aft N l) t u < 2 ^ 62 := by
  have n0 := hN.2.1
  have b := (day_bd hN (d := l) (C := 1188 + 504 * (l - 1)) h1 (f := cst N (l - 1)) (cst_bd hN (l - 1))).2.2 t u ht
  exact bd62 b (scl_lt hN.1.1 (by omega)) (by omega)
theorem e_waits (h : HS S i N) (h1 : 1 ≤ l) (hl : l ≤ N 0) (ht : t < 5 ^ N 4) : fWaits S (nI i) (nI l) (nI t) = (lN (mixP N (boxP N l) (aft N l) t 0 - cst N l t), S) := by
  have hN := h.2.2.2.1
  have := n125N hN
  have := hN.2.1
  unfold fWaits
  rw [if_pos ⟨h.c, by rw [h.x]; exact ok_l1 h.2.2.2.1 h1 hl, by rw [h.x]; exact ok_t h.2.2.2.1 ht⟩, h.x, tn_nI (by omega), tn_nI (by omega), qL_sub (cst_mix hN h1 ht (LD_0 N t)) (mix62 hN h1 hl ht)]
theorem e_once (h : HS S i N) (h1 : 1 ≤ l) (hl : l ≤ N 0) (ht : t < 5 ^ N 4) : fOnce S (nI i) (nI l) (nI t) = (lN (mixP N (boxP N l) (aft N l) t (fillP N t) - cst N l t), S) := by
  have hN := h.2.2.2.1
  have := n125N hN
  have := hN.2.1
  unfold fOnce
  rw [if_pos ⟨h.c, by rw [h.x]; exact ok_l1 h.2.2.2.1 h1 hl, by rw [h.x]; exact ok_t h.2.2.2.1 ht⟩, h.x, tn_nI (by omega), tn_nI (by omega), qL_sub (cst_mix hN h1 ht (fill_LD hN ht)) (mix62 hN h1 hl ht)]
theorem cst62 (hN : HOK N) (hl : l ≤ N 0) (ht : t < 5 ^ N 4) : cst N l t < 2 ^ 62 := by
  have n0 := hN.2.1
  exact bd62 (cst_bd hN l t ht) (scl_lt hN.1.1 (by omega)) (by omega)
theorem e_promise (h : HS S i N) (h1 : 1 ≤ l) (hl : l ≤ N 0) : fPromise S (nI i) (nI l) = (lN (prC N l (N 0 + 1 - l) 0 - cst N (N 0) 0), S) := by
  have hN := h.2.2.2.1
  have n0 := hN.2.1
  have p0 : 0 < 5 ^ N 4 := Nat.pow_pos (by decide)
  have g := prC_ge hN h1 (N 0 + 1 - l) 0 p0
  rw [show l - 1 + (N 0 + 1 - l) = N 0 by omega] at g
  have b := prC_bd hN h1 (N 0 + 1 - l) 0 p0
  rw [show l + (N 0 + 1 - l) - 1 = N 0 by omega] at b
  unfold fPromise
  rw [if_pos ⟨h.c, by rw [h.x]; exact ok_l1 hN h1 hl⟩, h.x, tn_nI (by omega), qL_sub g (bd62 b (scl_lt hN.1.1 (by omega)) (by omega))]
section RULES
variable {s : Nat} {q : RX}
theorem rCs62 (hN : HOK N) (hl : l ≤ N 0) (ht : t < 5 ^ N 4) : rCs N q.1 q.2.1 q.2.2.1 q.2.2.2 l t < 2 ^ 62 := by
  have n0 := hN.2.1
  exact bd62 (rCs_bd hN l t ht) (scl_lt hN.1.1 (by omega)) (by omega)
theorem e_load (h : HS S i N) (h1 : 1 ≤ l) (hl : l ≤ N 0) (ht : t < 5 ^ N 4) (hs : s < 8) (e : S.2.2.2.1 s = some (.inr q)) : fLoad S (nI i) (nI l) (nI t) (nI s) = (nI (ruR N q l t), S) := by
  have hN := h.2.2.2.1
  have := n125N hN
  have := hN.2.1
  unfold fLoad
  rw [if_pos ⟨h.c, by rw [h.x]; exact ok_l1 hN h1 hl, by rw [h.x]; exact ok_t hN ht, ok_s hs⟩, byI_q ((shX_at hs).trans e), h.x, tn_nI (by omega), tn_nI (by omega)]
theorem e_mean (h : HS S i N) (hl : l ≤ N 0) (ht : t < 5 ^ N 4) (hs : s < 8) (e : S.2.2.2.1 s = some (.inr q)) : fMean S (nI i) (nI l) (nI t) (nI s) = (lN (rCs N q.1 q.2.1 q.2.2.1 q.2.2.2 l t), S) := by
  have hN := h.2.2.2.1
  have := n125N hN
  have := hN.2.1
  unfold fMean
  rw [if_pos ⟨h.c, by rw [h.x]; exact ok_l hN hl, by rw [h.x]; exact ok_t hN ht, ok_s hs⟩, byJ_q ((shX_at hs).trans e), h.x, tn_nI (by omega), tn_nI (by omega)]
theorem e_lose (h : HS S i N) (hl : l ≤ N 0) (ht : t < 5 ^ N 4) (hs : s < 8) (e : S.2.2.2.1 s = some (.inr q)) : fLose S (nI i) (nI l) (nI t) (nI s) = (lN (rCs N q.1 q.2.1 q.2.2.1 q.2.2.2 l t - cst N l t), S) := by
  have hN := h.2.2.2.1
  have := n125N hN
  have := hN.2.1
  unfold fLose
  rw [if_pos ⟨h.c, by rw [h.x]; exact ok_l hN hl, by rw [h.x]; exact ok_t hN ht, ok_s hs⟩, byJ_q ((shX_at hs).trans e), h.x, tn_nI (by omega), tn_nI (by omega), qL_sub (rCs_ge hN l t ht) (rCs62 hN hl ht)]
theorem e_reach (h : HS S i N) (hl : l ≤ N 0) (hs : s < 8) (e : S.2.2.2.1 s = some (.inr q)) : fReach S (nI i) (nI l) (nI s) = (nI (ctA (chP N (ruR N q) (N 0 - l)) (5 ^ N 4)), S) := by
  have hN := h.2.2.2.1
  have := hN.2.1
  unfold fReach
  rw [if_pos ⟨h.c, by rw [h.x]; exact ok_l hN hl, ok_s hs⟩, byI_q ((shX_at hs).trans e), h.x, tn_nI (by omega)]
theorem e_boxes (h : HS S i N) (hs : s < 8) (e : S.2.2.2.1 s = some (.inr q)) : fBoxes S (nI i) (nI s) = (lN (boP N (ruR N q) (N 0)), S) := by
  unfold fBoxes
  rw [if_pos ⟨h.c, ok_s hs⟩, byJ_q ((shX_at hs).trans e), h.x]
end RULES
end DAY
theorem e_holds0 {s : Nat} (hs : s < 8) (e : S.2.2.2.1 s = none) : fHolds S (nI s) = (-1, S) := by
  have e : shX S (nI s) = none := (shX_at hs).trans e
  unfold fHolds
  rw [if_pos (ok_s hs), e]
theorem e_holdsL {s : Nat} {q} (hs : s < 8) (e : S.2.2.2.1 s = some (.inl q)) : fHolds S (nI s) = (nI q.1, S) := by
  have e : shX S (nI s) = some (.inl q) := (shX_at hs).trans e
  unfold fHolds
  rw [if_pos (ok_s hs), e]
theorem e_holdsR {s : Nat} {q} (hs : s < 8) (e : S.2.2.2.1 s = some (.inr q)) : fHolds S (nI s) = (nI (10 + q.1), S) := by
  have e : shX S (nI s) = some (.inr q) := (shX_at hs).trans e
  unfold fHolds
  rw [if_pos (ok_s hs), e]
theorem e_boy (h : HS S i N) {s : Nat} {q : RX} (hs : s < 8) (e : S.2.2.2.1 s = some (.inr q)) : ∃ t p, t < 8 ∧ S.2.2.2.1 t = some (.inr p) ∧ fBoy S (nI i) = (nI t, S) ∧ ∀ s' q', s' < 8 → S.2.2.2.1 s' = some (.inr q') → rCs N p.1 p.2.1 p.2.2.1 p.2.2.2 (N 0) 0 ≤ rCs N q'.1 q'.2.1 q'.2.2.1 q'.2.2.2 (N 0) 0 := by
  obtain ⟨i1, i2⟩ := boA_min (S := S) (N := N) 8
  match eb : (boA S N 8).1 with
  | none => exact absurd eb (i2 s q hs e).1
  | some t =>
    obtain ⟨t8, p, hp, hv⟩ := i1 t eb
    refine ⟨t, p, t8, hp, ?_, fun s' q' hs' e' => hv ▸ (i2 s' q' hs' e').2⟩
    unfold fBoy
    rw [if_pos h.c, h.x, eb]
end ASK
