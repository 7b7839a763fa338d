/-! posts that name what holds of the values behind a call -/
def pVx (G1 : zG) (R : zV → Prop) (r : Option Value) (G' : zG) (V' : zV) : Prop := r = none ∧ G' = G1 ∧ R V'
def pIx (x : Int32) (G1 : zG) (R : zV → Prop) (r : Option Value) (G' : zG) (V' : zV) : Prop := r = some (.int x) ∧ G' = G1 ∧ R V'
def pJx (x : Int64) (G1 : zG) (R : zV → Prop) (r : Option Value) (G' : zG) (V' : zV) : Prop := r = some (.long x) ∧ G' = G1 ∧ R V'
section AX
variable {Z : zP} {X : xP} {nL : Nat} {k n : Nat} {Q : State → Prop} {pc : Nat} {lw : List (Nat × Option Value)} {G1 : zG} {R : zV → Prop} {rest : List Value}
theorem kVx (h : ∀ V', R V' → Wm Z X nL G1 V' k n Q pc lw rest) : ∀ (r : Option Value) (G' : zG) (V' : zV), pVx G1 R r G' V' → Wm Z X nL G' V' k n Q pc lw (r.toList ++ rest) := by
  rintro r G' V' ⟨rfl, rfl, h2⟩
  exact h V' h2
theorem kIx {x : Int32} (h : ∀ V', R V' → Wm Z X nL G1 V' k n Q pc lw (.int x :: rest)) : ∀ (r : Option Value) (G' : zG) (V' : zV), pIx x G1 R r G' V' → Wm Z X nL G' V' k n Q pc lw (r.toList ++ rest) := by
  rintro r G' V' ⟨rfl, rfl, h2⟩
  exact h V' h2
theorem kJx {x : Int64} (h : ∀ V', R V' → Wm Z X nL G1 V' k n Q pc lw (.long x :: rest)) : ∀ (r : Option Value) (G' : zG) (V' : zV), pJx x G1 R r G' V' → Wm Z X nL G' V' k n Q pc lw (r.toList ++ rest) := by
  rintro r G' V' ⟨rfl, rfl, h2⟩
  exact h V' h2
end AX
theorem sI_ne {V : zV} {f a i x : Nat} {v : Int32} (h : i ≠ f) : (sI V f a v).1 i x = V.1 i x := u2_fst _ _ h
theorem sI_na {V : zV} {f a i x : Nat} {v : Int32} (h : x ≠ a) : (sI V f a v).1 i x = V.1 i x := u2_snd _ _ h
theorem sI_eq {V : zV} {f a : Nat} {v : Int32} : (sI V f a v).1 f a = v := u2_same _ _ _ _
/-! bounds -/
theorem mix4 {c X Y M : Nat} (hc : c ≤ 4) (hX : X ≤ M) (hY : Y ≤ M) : c * X + (4 - c) * Y ≤ 4 * M := by
  rcases (show c = 0 ∨ c = 1 ∨ c = 2 ∨ c = 3 ∨ c = 4 by omega) with e | e | e | e | e <;> subst e <;> omega
theorem swS_bd {N : Nat → Nat} (hN : HOK N) {U C : Nat} {f : Nat → Nat} (hf : ∀ t, t < 5 ^ N 4 → f t ≤ U * C) : ∀ j, j ≤ N 4 → ∀ t, t < 5 ^ N 4 → swS N U f j t ≤ U * 4 ^ j * (C + 99 * j)
  | 0, _, t, ht => by
    show f t ≤ U * 1 * (C + 0)
    rw [Nat.mul_one, Nat.add_zero]
    exact hf t ht
  | j + 1, hj, t, ht => by
    have ih := swS_bd hN hf j (by omega)
    obtain ⟨W, hW⟩ : ∃ W, W = U * 4 ^ j := ⟨_, rfl⟩
    have e : U * 4 ^ (j + 1) * (C + 99 * (j + 1)) = 4 * (W * (C + 99 * j) + W * 99) := by
      rw [Nat.pow_succ, ← Nat.mul_assoc, ← hW, ← Nat.mul_add, Nat.mul_comm W 4, Nat.mul_assoc]
      rw [show C + 99 * (j + 1) = C + 99 * j + 99 by omega]
    rw [e]
    rw [← hW] at ih
    show swA N j (U * 4 ^ j) (swS N U f j) t ≤ _
    rw [← hW]
    unfold swA
    refine mix4 (hN.2.2.2.2 j (by omega) 1 (by decide)).2 ?_ (Nat.le_trans (ih t ht) (Nat.le_add_right _ _))
    split
    · next h => exact Nat.le_trans (ih _ (dig_up hN.1.1 (by omega) ht h)) (Nat.le_add_right _ _)
    · have r9 : N (5 + 5 * j + 3) ≤ 99 := (hN.2.2.2.2 j (by omega) 3 (by decide)).2
      have := Nat.mul_le_mul_right W r9
      have := ih t ht
      rw [Nat.mul_comm W 99]
      omega
theorem hold_le {N : Nat → Nat} (hN : HOK N) {s : Nat} : sumP N s 2 ≤ 108 := by
  have h := sumN_le (n := N 4) (M := 4 * 9) (f := fun k => dig s k * N (5 + 5 * k + 2)) (fun i hi => Nat.mul_le_mul (by have := dig_lt s i; omega) (hN.2.2.2.2 i hi 2 (by decide)).2)
  have h3 := hN.1.1
  have : N 4 * (4 * 9) ≤ 3 * (4 * 9) := Nat.mul_le_mul_right _ h3
  unfold sumP
  omega
theorem scl_s {N : Nat → Nat} {d : Nat} (h1 : 1 ≤ d) : sclP N d = 4 * (sclP N (d - 1) * 4 ^ N 4) ∧ 4 ^ (d * (1 + N 4) - 1) = sclP N (d - 1) * 4 ^ N 4 := by
  obtain ⟨e, rfl⟩ : ∃ e, d = e + 1 := ⟨d - 1, by omega⟩
  have h : (e + 1) * (1 + N 4) = e * (1 + N 4) + N 4 + 1 := by rw [Nat.add_mul]; omega
  unfold sclP
  rw [h, Nat.add_sub_cancel, Nat.add_sub_cancel, Nat.pow_succ, Nat.pow_add]
  exact ⟨Nat.mul_comm _ _, rfl⟩
theorem day_bd {N : Nat → Nat} (hN : HOK N) {d C : Nat} (h1 : 1 ≤ d) {f : Nat → Nat} (hf : ∀ t, t < 5 ^ N 4 → f t ≤ sclP N (d - 1) * C) : (∀ t, t < 5 ^ N 4 → swD N d f t ≤ sclP N (d - 1) * 4 ^ N 4 * (C + 405)) ∧ boxP N d ≤ sclP N (d - 1) * 4 ^ N 4 * 99 ∧ ∀ s l, s < 5 ^ N 4 → mixP N (boxP N d) (swD N d f) s l ≤ sclP N d * (C + 504) := by
  obtain ⟨W, hW⟩ : ∃ W, W = sclP N (d - 1) * 4 ^ N 4 := ⟨_, rfl⟩
  have a1 : ∀ t, t < 5 ^ N 4 → swD N d f t ≤ W * (C + 405) := by
    intro t ht
    have b1 := swS_bd hN hf (N 4) (Nat.le_refl _) t ht
    have b2 := hold_le hN (s := t)
    rw [← hW] at b1
    unfold swD
    rw [← hW]
    have b3 := Nat.mul_le_mul_right W b2
    have b4 : W * (C + 99 * N 4) ≤ W * (C + 297) := Nat.mul_le_mul_left _ (by have := hN.1.1; omega)
    have b5 : W * (C + 405) = W * (C + 297) + 108 * W := by rw [Nat.mul_comm 108 W, ← Nat.mul_add]
    omega
  have a2 : boxP N d ≤ W * 99 := by
    unfold boxP
    rw [(scl_s h1).2, ← hW, Nat.mul_comm]
    exact Nat.mul_le_mul_left _ (hN.1.2 1 (by decide))
  rw [← hW]
  refine ⟨a1, a2, fun s l hs => ?_⟩
  rw [(scl_s h1).1, ← hW, Nat.mul_assoc]
  have b5 : W * (C + 504) = W * (C + 405) + W * 99 := by rw [← Nat.mul_add]
  rw [b5]
  unfold mixP
  refine mix4 (by have := hN.2.2.2.1; omega) (Nat.le_trans (a1 s hs) (Nat.le_add_right _ _)) ?_
  have q := a1 (s - l) (by omega)
  split
  · rw [Nat.add_zero]; exact Nat.le_trans q (Nat.le_add_right _ _)
  · exact Nat.add_le_add q a2
theorem leav_le {N : Nat → Nat} (hN : HOK N) {s : Nat} : sumP N s 4 ≤ sclP N 0 * 1188 := by
  unfold sclP
  rw [Nat.zero_mul, Nat.pow_zero, Nat.one_mul]
  exact sumP_lt hN.1 (by decide)
theorem cst_bd {N : Nat → Nat} (hN : HOK N) : ∀ d s, s < 5 ^ N 4 → cst N d s ≤ sclP N d * (1188 + 504 * d)
  | 0, s, _ => leav_le hN
  | d + 1, s, hs => by
    have h := (day_bd hN (d := d + 1) (C := 1188 + 504 * d) (by omega) (f := cst N d) (cst_bd hN d)).2.2 s (pickP N (boxP N (d + 1)) (swD N (d + 1) (cst N d)) false s) hs
    rw [show 1188 + 504 * (d + 1) = 1188 + 504 * d + 504 by omega]
    exact h
theorem scl_lt {N : Nat → Nat} (h4 : N 4 ≤ 3) {d : Nat} (hd : d ≤ 6) : sclP N d ≤ 2 ^ 48 := by
  have h : 4 ^ (d * (1 + N 4)) ≤ 4 ^ 24 := Nat.pow_le_pow_right (by decide) (Nat.mul_le_mul hd (show 1 + N 4 ≤ 4 by omega))
  exact Nat.le_trans h (by decide)
theorem bd62 {x S C : Nat} (h : x ≤ S * C) (hS : S ≤ 2 ^ 48) (hC : C ≤ 5000) : x < 2 ^ 62 := by
  have := Nat.mul_le_mul hS hC
  have e : (2 : Nat) ^ 48 * 5000 < 2 ^ 62 := by decide
  omega
theorem day62 {N : Nat → Nat} (hN : HOK N) {d C : Nat} (h1 : 1 ≤ d) (h6 : d ≤ 6) (hC : C ≤ 4212) {f : Nat → Nat} (hf : ∀ t, t < 5 ^ N 4 → f t ≤ sclP N (d - 1) * C) : (∀ t, t < 5 ^ N 4 → swD N d f t < 2 ^ 62) ∧ boxP N d < 2 ^ 62 := by
  obtain ⟨a1, a2, -⟩ := day_bd hN h1 hf
  have h4 := hN.1.1
  have s1 := scl_lt h4 h6
  rw [(scl_s h1).1] at s1
  have s2 : sclP N (d - 1) * 4 ^ N 4 ≤ 2 ^ 48 := by omega
  exact ⟨fun t ht => bd62 (a1 t ht) s2 (by omega), bd62 a2 s2 (by decide)⟩
/-! the same outside a stretch of addresses -/
def SameB (V V' : zV) (lo hi : Nat) : Prop := ∀ x, x < lo ∨ hi ≤ x → (∀ i, V'.1 i x = V.1 i x) ∧ (∀ i, V'.2.1 i x = V.2.1 i x) ∧ (∀ j, V'.2.2.1 x j = V.2.2.1 x j) ∧ ∀ j, V'.2.2.2 x j = V.2.2.2 x j
theorem SameB.refl (V : zV) (lo hi : Nat) : SameB V V lo hi := fun _ _ => ⟨fun _ => rfl, fun _ => rfl, fun _ => rfl, fun _ => rfl⟩
theorem SameB.trans {V V' V'' : zV} {lo hi : Nat} (h : SameB V V' lo hi) (h2 : SameB V' V'' lo hi) : SameB V V'' lo hi := fun x hx => ⟨fun i => ((h2 x hx).1 i).trans ((h x hx).1 i), fun i => ((h2 x hx).2.1 i).trans ((h x hx).2.1 i), fun i => ((h2 x hx).2.2.1 i).trans ((h x hx).2.2.1 i), fun i => ((h2 x hx).2.2.2 i).trans ((h x hx).2.2.2 i)⟩
theorem SameB.sI {V V' : zV} {lo hi f a : Nat} {v : Int32} (h : SameB V V' lo hi) (h1 : lo ≤ a) (h2 : a < hi) : SameB V (sI V' f a v) lo hi := fun x hx => ⟨fun i => (sI_na (show x ≠ a by omega)).trans ((h x hx).1 i), (h x hx).2⟩
theorem SameB.rAJ {V V' : zV} {lo hi a l n : Nat} {g : Nat → Int64} (h : SameB V V' lo hi) (h1 : lo ≤ a) (h2 : a < hi) : SameB V (rAJ V' a l n g) lo hi := fun x hx => ⟨(h x hx).1, (h x hx).2.1, (h x hx).2.2.1, fun j => (rAJ_ne (by omega) j).trans ((h x hx).2.2.2 j)⟩
theorem SameB.rAI {V V' : zV} {lo hi a l n : Nat} {g : Nat → Int32} (h : SameB V V' lo hi) (h1 : lo ≤ a) (h2 : a < hi) : SameB V (rAI V' a l n g) lo hi := fun x hx => ⟨(h x hx).1, (h x hx).2.1, fun j => (rAI_ne (by omega) j).trans ((h x hx).2.2.1 j), (h x hx).2.2.2⟩
theorem SameB.wAI {V V' : zV} {lo hi a l n : Nat} {g : Nat → Int32} (h : SameB V V' lo hi) (h1 : lo ≤ a) (h2 : a < hi) : SameB V (wAI V' a l n g) lo hi := fun x hx => ⟨(h x hx).1, (h x hx).2.1, fun j => (wAI_ne (by omega) j).trans ((h x hx).2.2.1 j), (h x hx).2.2.2⟩
theorem SameB.wk {V V' : zV} {p : Nat} {N g : Nat → Nat} (h : SameB V V' p (p + 12)) : SameB V (wkJ V' p N g) p (p + 12) := h.rAJ (by omega) (by omega)
theorem SameB.ch {V V' : zV} {p : Nat} {N g : Nat → Nat} (h : SameB V V' p (p + 12)) : SameB V (chJ V' p N g) p (p + 12) := h.rAJ (by omega) (by omega)
/-- days known -/
def dkI (K : Nat) : Int32 := if K = 0 then -1 else nI (K - 1)
theorem dkI_s (K : Nat) : dkI K + nI 1 = nI K := by
  unfold dkI
  split
  · next h => subst h; decide
  · rw [nI_add, show K - 1 + 1 = K by omega]
def PlanC (V : zV) (p : Nat) (N : Nat → Nat) (K : Nat) : Prop := V.1 63 p = dkI K ∧ K ≤ 7 ∧ (∀ d, d < K → ∀ s, s < 5 ^ N 4 → V.2.2.2 (p + 8) (d * 125 + s) = lN (cst N d s)) ∧ ∀ d, 1 ≤ d → d < K → ∀ s, s < 5 ^ N 4 → V.2.2.2 (p + 9) (d * 125 + s) = lN (aft N d s) ∧ V.2.2.1 (p + 7) (d * 125 + s) = nI (ldP N d s)
theorem PlanC.wk {V : zV} {p K : Nat} {N g : Nat → Nat} (h : PlanC V p N K) : PlanC (wkJ V p N g) p N K := ⟨h.1, h.2.1, fun d hd s hs => (rAJ_ne (by omega) _).trans (h.2.2.1 d hd s hs), fun d h1 hd s hs => ⟨(rAJ_ne (by omega) _).trans (h.2.2.2 d h1 hd s hs).1, (h.2.2.2 d h1 hd s hs).2⟩⟩
theorem PlanC.ch {V : zV} {p K : Nat} {N g : Nat → Nat} (h : PlanC V p N K) : PlanC (chJ V p N g) p N K := ⟨h.1, h.2.1, fun d hd s hs => (rAJ_ne (by omega) _).trans (h.2.2.1 d hd s hs), fun d h1 hd s hs => ⟨(rAJ_ne (by omega) _).trans (h.2.2.2 d h1 hd s hs).1, (h.2.2.2 d h1 hd s hs).2⟩⟩
/-- a plan at work: from V to V', K days known then -/
def PW (V V' : zV) (p : Nat) (N : Nat → Nat) (K : Nat) : Prop := PlanH V' p N ∧ PlanC V' p N K ∧ V'.1 64 p = V.1 64 p ∧ SameB V V' p (p + 12)
theorem PW.refl {V : zV} {p K : Nat} {N : Nat → Nat} (hH : PlanH V p N) (hC : PlanC V p N K) : PW V V p N K := ⟨hH, hC, rfl, SameB.refl _ _ _⟩
theorem PW.trans {V V' V'' : zV} {p K K' : Nat} {N : Nat → Nat} (h : PW V V' p N K) (h2 : PW V' V'' p N K') : PW V V'' p N K' := ⟨h2.1, h2.2.1, h2.2.2.1.trans h.2.2.1, h.2.2.2.trans h2.2.2.2⟩
theorem PW.wk {V V' : zV} {p K : Nat} {N g : Nat → Nat} (h : PW V V' p N K) : PW V (wkJ V' p N g) p N K := ⟨h.1, h.2.1.wk, h.2.2.1, h.2.2.2.wk⟩
theorem PW.ch {V V' : zV} {p K : Nat} {N g : Nat → Nat} (h : PW V V' p N K) : PW V (chJ V' p N g) p N K := ⟨h.1, h.2.1.ch, h.2.2.1, h.2.2.2.ch⟩
def PX (V : zV) (p : Nat) (N : Nat → Nat) (L : Nat) (V' : zV) : Prop := ∃ K, L ≤ K ∧ PW V V' p N K
theorem PlanH.sI {V : zV} {p i : Nat} {N : Nat → Nat} {v : Int32} (hi : 54 ≤ i) (a : PlanH V p N) : PlanH (sI V i p v) p N := by
  obtain ⟨a1, a2, a3, a4, a5, a6⟩ := a
  exact ⟨a1, a2, (sI_ne (by omega)).trans a3, (sI_ne (by omega)).trans a4, (sI_ne (by omega)).trans a5, a6⟩
theorem PW_0 {V V1 : zV} {p : Nat} {N : Nat → Nat} (h : PW V V1 p N 0) : PW V (sI (rAJ (wkJ V1 p N (fun t => sumP N t 4)) (p + 8) (0 * 125) (5 ^ N 4) (fun t => lN (sumP N t 4))) 63 p (nI 0)) p N 1 := by
  obtain ⟨a, b, c, d⟩ := h
  refine ⟨PlanH.sI (by decide) (show PlanH (rAJ (wkJ V1 _ _ _) _ _ _ _) p N from a), ⟨sI_eq, by decide, fun e he s hs => ?_, fun e h1 he => absurd he (by omega)⟩, (sI_ne (by decide)).trans c, (d.wk.rAJ (by omega) (by omega)).sI (by omega) (by omega)⟩
  · have e0 : e = 0 := by omega
    subst e0
    show (rAJ _ (p + 8) (0 * 125) _ _).2.2.2 (p + 8) _ = _
    rw [rAJ_off (by omega) (by omega), show 0 * 125 + s - 0 * 125 = s by omega]
    rfl
theorem n125N {N : Nat → Nat} (hN : HOK N) : 5 ^ N 4 ≤ 125 := st125 hN.1.1
theorem PW_s {V V1 : zV} {p d : Nat} {N : Nat → Nat} (h7 : d + 1 < 7) (h : PW V V1 p N (d + 1)) : PW V (sI (rAJ (wkJ (wAI (rAJ V1 (p + 9) ((d + 1) * 125) (5 ^ N 4) (fun t => lN (aft N (d + 1) t))) (p + 7) ((d + 1) * 125) ((d + 1) * 125 + 5 ^ N 4) (fun j => nI (pickP N (boxP N (d + 1)) (aft N (d + 1)) false (j - (d + 1) * 125)))) p N (cst N (d + 1))) (p + 8) ((d + 1) * 125) (5 ^ N 4) (fun t => lN (cst N (d + 1) t))) 63 p (nI (d + 1))) p N (d + 2) := by
  obtain ⟨a, b, c, D⟩ := h
  have hn := n125N a.1
  refine ⟨PlanH.sI (by decide) (show PlanH (wAI V1 _ _ _ _) p N from a.wAI), ⟨sI_eq, by omega, fun e he s hs => ?_, fun e h1 he s hs => ⟨?_, ?_⟩⟩, (sI_ne (by decide)).trans c, (((((D.rAJ (by omega) (by omega)).wAI (by omega) (by omega)).wk).rAJ (by omega) (by omega)).sI (by omega) (by omega))⟩
  · dsimp only [sI, rAJ, wkJ, wAI]
    by_cases q : e = d + 1
    · subst q
      rw [rw2_in (by omega) (by omega), show (d + 1) * 125 + s - (d + 1) * 125 = s by omega]
    · rw [rw2_out (by omega), rw2_ne (by omega), rw2_ne (by omega)]
      exact b.2.2.1 e (by omega) s hs
  · dsimp only [sI, rAJ, wkJ, wAI]
    rw [rw2_ne (by omega), rw2_ne (by omega)]
    by_cases q : e = d + 1
    · subst q
      rw [rw2_in (by omega) (by omega), show (d + 1) * 125 + s - (d + 1) * 125 = s by omega]
    · rw [rw2_out (by omega)]
      exact (b.2.2.2 e h1 (by omega) s hs).1
  · dsimp only [sI, rAJ, wkJ, wAI]
    by_cases q : e = d + 1
    · subst q
      rw [if_pos ⟨rfl, by omega, by omega⟩, show (d + 1) * 125 + s - (d + 1) * 125 = s by omega]
      rfl
    · rw [if_neg (by omega)]
      exact (b.2.2.2 e h1 (by omega) s hs).2
theorem wk_af {V : zV} {p a lo n : Nat} {N f : Nat → Nat} {g : Nat → Int64} (ha : a ≠ p + 10) : rAJ (wkJ V p N f) a lo n g = wkJ (rAJ V a lo n g) p N f := by
  unfold wkJ rAJ
  dsimp only
  congr 3
  funext x j
  unfold rw2
  by_cases h1 : x = a
  · subst h1
    by_cases h2 : lo ≤ j ∧ j < lo + n
    · rw [if_pos ⟨rfl, h2⟩, if_neg (fun q => ha q.1), if_pos ⟨rfl, h2⟩]
    · have n1 : ¬ (x = x ∧ lo ≤ j ∧ j < lo + n) := fun q => h2 q.2
      have n2 : ¬ (x = p + 10 ∧ 0 ≤ j ∧ j < 0 + 5 ^ N 4) := fun q => ha q.1
      simp only [if_neg n1, if_neg n2]
  · rw [if_neg (fun q => h1 q.1), if_neg (fun q : x = a ∧ _ => h1 q.1)]
/-- costs by a rule -/
def rCs (N : Nat → Nat) (κ b m : Nat) (rf : Nat → Bool) : Nat → Nat → Nat
  | 0 => fun s => sumP N s 4
  | d + 1 => fun s => mixP N (boxP N (d + 1)) (swD N (d + 1) (rCs N κ b m rf d)) s (ruL N κ b m rf (d + 1) s)
def rC (N : Nat → Nat) (κ b m : Nat) (rf : Nat → Bool) (d s : Nat) : Nat := if κ = 4 then cst N d s else rCs N κ b m rf d s
theorem ruL_le {N : Nat → Nat} (hN : HOK N) {κ b m : Nat} {rf : Nat → Bool} {d s : Nat} (h1 : 1 ≤ d) (h6 : d ≤ 6) (hs : s < 5 ^ N 4) : ruL N κ b m rf d s ≤ s := by
  have hn := n125N hN
  unfold ruL
  split
  · obtain ⟨e, rfl⟩ : ∃ e, d = e + 1 := ⟨d - 1, by omega⟩
    have h := day62 hN (d := e + 1) (C := 1188 + 504 * e) (by omega) h6 (by omega) (f := cst N e) (cst_bd hN e)
    exact pkP_le (by omega) (fun t ht => h.1 t (by omega)) h.2
  · split
    · exact fillP_le hN hs
    · exact Nat.zero_le _
/-- the promised load -/
def prC (N : Nat → Nat) (d0 : Nat) : Nat → Nat → Nat
  | 0 => cst N (d0 - 1)
  | i + 1 => bstP N (d0 + i) (decide (i = 0)) (swD N (d0 + i) (prC N d0 i))
theorem prC_bd {N : Nat → Nat} (hN : HOK N) {d0 : Nat} (h1 : 1 ≤ d0) : ∀ i s, s < 5 ^ N 4 → prC N d0 i s ≤ sclP N (d0 + i - 1) * (1188 + 504 * (d0 + i - 1))
  | 0, s, hs => cst_bd hN (d0 - 1) s hs
  | i + 1, s, hs => by
    have h := (day_bd hN (d := d0 + i) (C := 1188 + 504 * (d0 + i - 1)) (by omega) (f := prC N d0 i) (prC_bd hN h1 i)).2.2 s (pickP N (boxP N (d0 + i)) (swD N (d0 + i) (prC N d0 i)) (decide (i = 0)) s) hs
    rw [show d0 + (i + 1) - 1 = d0 + i by omega, show 1188 + 504 * (d0 + i) = 1188 + 504 * (d0 + i - 1) + 504 by omega]
    exact h
theorem c_X1_workOut {l : Launch} {Z : zP} {G : zG} {V : zV} {p : Nat} (hP : PlanAt Z G p) {N : Nat → Nat} (hH : PlanH V p N) {K : Nat} (hC : PlanC V p N K) {z : Nat} (h6 : z ≤ 6) : CT l Z yX1_workOut cX1_workOut 4 none 3 0 0 [.ref p, .int (nI z)] G V (pVx G (PX V p N (max K (z + 1)))) := by
  refine CT.of (by decide +kernel) (Nat.le_of_ble_eq_true rfl) (fun X hX cx => ?_)
  subst hX
  show Wm Z X 4 G V 0 0 _ 0 [(0, some (.ref p)), (1, some (.int (nI z)))] []
  have h0 := hP.1
  have hh := hP.2.2.1.1
  have hN := hH.1
  have hB := hN.1
  have n4 := hB.1
  have hV := hH.2.1
  have n125 := st125 n4
  have eD := hH.2.2.1
  have eS := hH.2.2.2.1
  have eN := hH.2.2.2.2.1
  have eK := hC.1
  refine x_iload_n (pc := 0) cx (dA ddX1_workOut (i := 0) rfl) rfl ?_
  refine x_bipush (pc := 1) (v := nI 6) cx (dA ddX1_workOut (i := 1) rfl) (by decide) ?_
  refine x_mmin (pc := 3) mX1_129.1 cx (dA ddX1_workOut (i := 2) rfl) ?_
  rw [nI_min (by omega) (by omega), Nat.min_eq_left h6]
  refine x_istore_n (pc := 6) cx (dA ddX1_workOut (i := 3) rfl) (by decide) rfl ?_
  refine x_aload_n (pc := 7) cx (dA ddX1_workOut (i := 4) rfl) rfl ?_
  refine gX1_47 (pc := 8) (congrArg Value.int eK) cx (dA ddX1_workOut (i := 5) rfl) h0 ?_
  refine x_iconst (pc := 11) (v := nI 1) cx (dA ddX1_workOut (i := 6) rfl) (by decide) ?_
  refine x_iadd (pc := 12) cx (dA ddX1_workOut (i := 7) rfl) ?_
  rw [dkI_s]
  refine x_istore_n (pc := 13) cx (dA ddX1_workOut (i := 8) rfl) (by decide) rfl ?_
  have L14 : ∀ d, d ≤ 7 → ∀ V1, (K ≤ d ∧ (d ≤ z + 1 ∨ d = K)) → PW V V1 p N d → Wm Z X 4 G V1 0 0 (rQ Z X 0 0 (pVx G (PX V p N (max K (z + 1))))) 14 [(0, some (.ref p)), (1, some (.int (nI z))), (2, some (.int (nI z))), (3, some (.int (nI d)))] [] := by
    refine lpU 7 (fun d hd ih => ?_)
    intro V1 hK hw
    refine x_iload_n (pc := 14) cx (dA ddX1_workOut (i := 9) rfl) rfl ?_
    refine x_iload_n (pc := 15) cx (dA ddX1_workOut (i := 10) rfl) rfl ?_
    refine x_icmp_gt (pc := 16) (tgt := 81) cx (dA ddX1_workOut (i := 11) rfl) (by decide) (fun c16 => ?_) (fun c16 => ?_)
    · have c16 := cltT (by omega) (by omega) c16
      refine x_return (pc := 81) cx (dA ddX1_workOut (i := 46) rfl) (by first | exact Nat.le_of_ble_eq_true rfl | omega) (by first | exact Nat.le_of_ble_eq_true rfl | omega) ?_
      exact ⟨rfl, rfl, d, by omega, hw⟩
    · have c16 := cltF (by omega) (by omega) c16
      have hH1 := hw.1
      have hC1 := hw.2.1
      refine x_iload_n (pc := 19) cx (dA ddX1_workOut (i := 12) rfl) rfl ?_
      refine x_if_ne (pc := 20) (tgt := 30) cx (dA ddX1_workOut (i := 13) rfl) (by decide) (fun c20 => ?_) (fun c20 => ?_)
      · have d0 : d ≠ 0 := fun e => c20 (by rw [e]; rfl)
        obtain ⟨e, rfl⟩ : ∃ e, d = e + 1 := ⟨d - 1, by omega⟩
        refine x_aload_n (pc := 30) cx (dA ddX1_workOut (i := 17) rfl) rfl ?_
        refine x_iload_n (pc := 31) cx (dA ddX1_workOut (i := 18) rfl) rfl ?_
        refine x_iconst (pc := 32) (v := nI 1) cx (dA ddX1_workOut (i := 19) rfl) (by decide) ?_
        refine x_isub (pc := 33) cx (dA ddX1_workOut (i := 20) rfl) ?_
        rw [pk_sub (by omega), show e + 1 - 1 = e by omega]
        refine x_V1 (pc := 34) mX1_137 h0 (c_X1_takeCosts hP hH1 (d := e) (g := cst N e) (by omega) (fun s hs => hC1.2.2.1 e (by omega) s hs)) cx (dA ddX1_workOut (i := 21) rfl) (kV ?_)
        refine x_aload_n (pc := 37) cx (dA ddX1_workOut (i := 22) rfl) rfl ?_
        refine x_iload_n (pc := 38) cx (dA ddX1_workOut (i := 23) rfl) rfl ?_
        refine x_V1 (pc := 39) mX1_140 h0 (c_X1_goBackToLoad (V := V1) hP hH1 (d := e + 1) (by omega) (by omega)) cx (dA ddX1_workOut (i := 24) rfl) (kV ?_)
        rw [show swD N (e + 1) (cst N e) = aft N (e + 1) from rfl]
        refine x_aload_n (pc := 42) cx (dA ddX1_workOut (i := 25) rfl) rfl ?_
        refine x_aload_n (pc := 43) cx (dA ddX1_workOut (i := 26) rfl) rfl ?_
        refine gX1_38 (pc := 44) (rfA hP.2.2.2.2.2.2.2.2.2.1.1) cx (dA ddX1_workOut (i := 27) rfl) h0 ?_
        refine x_iload_n (pc := 47) cx (dA ddX1_workOut (i := 28) rfl) rfl ?_
        refine x_V2 (pc := 48) mX1_143 h0 (c_X1_keepWork (V := V1) hP hH1 (d := e + 1) (a := p + 9) (f := aft N (e + 1)) (by omega) hP.2.2.2.2.2.2.2.2.2.1.2 (by omega)) cx (dA ddX1_workOut (i := 29) rfl) (kV ?_)
        rw [wk_af (by omega)]
        refine x_aload_n (pc := 51) cx (dA ddX1_workOut (i := 30) rfl) rfl ?_
        refine x_iload_n (pc := 52) cx (dA ddX1_workOut (i := 31) rfl) rfl ?_
        refine x_aload_n (pc := 53) cx (dA ddX1_workOut (i := 32) rfl) rfl ?_
        refine x_iload_n (pc := 54) cx (dA ddX1_workOut (i := 33) rfl) rfl ?_
        refine x_V1 (pc := 55) mX1_123 h0 (c_X1_boxCost (V := wkJ (rAJ V1 (p + 9) ((e + 1) * 125) (5 ^ N 4) (fun t => lN (aft N (e + 1) t))) p N (aft N (e + 1))) (d := e + 1) hP hH1 (by omega) (by omega)) cx (dA ddX1_workOut (i := 34) rfl) (kJ ?_)
        have b62 := day62 hN (d := e + 1) (C := 1188 + 504 * e) (by omega) (by omega) (by omega) (f := cst N e) (cst_bd hN e)
        refine x_V2 (pc := 58) mX1_147 h0 (c_X1_goBackBest (V := rAJ V1 (p + 9) ((e + 1) * 125) (5 ^ N 4) (fun t => lN (aft N (e + 1) t))) hP hH1 (by omega) b62.1 b62.2) cx (dA ddX1_workOut (i := 35) rfl) (kV ?_)
        refine x_aload_n (pc := 61) cx (dA ddX1_workOut (i := 36) rfl) rfl ?_
        refine x_aload_n (pc := 62) cx (dA ddX1_workOut (i := 37) rfl) rfl ?_
        refine gX1_34 (pc := 63) (rfA hP.2.2.2.2.2.2.2.2.1.1) cx (dA ddX1_workOut (i := 38) rfl) h0 ?_
        refine x_iload_n (pc := 66) cx (dA ddX1_workOut (i := 39) rfl) rfl ?_
        refine x_V2 (pc := 67) mX1_143 h0 (c_X1_keepWork (V := wAI (rAJ V1 (p + 9) ((e + 1) * 125) (5 ^ N 4) (fun t => lN (aft N (e + 1) t))) (p + 7) ((e + 1) * 125) ((e + 1) * 125 + 5 ^ N 4) (fun j => nI (pickP N (boxP N (e + 1)) (aft N (e + 1)) false (j - (e + 1) * 125)))) hP hH1.wAI (d := e + 1) (a := p + 8) (f := cst N (e + 1)) (by omega) hP.2.2.2.2.2.2.2.2.1.2 (by omega)) cx (dA ddX1_workOut (i := 40) rfl) (kV ?_)
        refine x_aload_n (pc := 70) cx (dA ddX1_workOut (i := 41) rfl) rfl ?_
        refine x_iload_n (pc := 71) cx (dA ddX1_workOut (i := 42) rfl) rfl ?_
        refine pX1_47 (pc := 72)  cx (dA ddX1_workOut (i := 43) rfl) h0 ?_
        refine x_iinc (pc := 75) cx (dA ddX1_workOut (i := 44) rfl) rfl (iinc1 _) (by decide) rfl ?_
        refine x_goto (pc := 78) (tgt := 14) cx (dA ddX1_workOut (i := 45) rfl) (by decide) ?_
        exact x_enter (ih (by omega) _ (by omega) (PW_s (by omega) hw)) ⟨.inr rfl, .inr rfl, .inr rfl, .inr rfl, trivial⟩
      · have d0 : d = 0 := nI_inj (b := 0) (by omega) (by decide) c20
        subst d0
        refine x_aload_n (pc := 23) cx (dA ddX1_workOut (i := 14) rfl) rfl ?_
        refine x_V0 (pc := 24) mX1_134 h0 (c_X1_startFromEnd hP hH1) cx (dA ddX1_workOut (i := 15) rfl) (kV ?_)
        refine x_goto (pc := 27) (tgt := 61) cx (dA ddX1_workOut (i := 16) rfl) (by decide) ?_
        refine x_aload_n (pc := 61) cx (dA ddX1_workOut (i := 36) rfl) rfl ?_
        refine x_aload_n (pc := 62) cx (dA ddX1_workOut (i := 37) rfl) rfl ?_
        refine gX1_34 (pc := 63) (rfA hP.2.2.2.2.2.2.2.2.1.1) cx (dA ddX1_workOut (i := 38) rfl) h0 ?_
        refine x_iload_n (pc := 66) cx (dA ddX1_workOut (i := 39) rfl) rfl ?_
        refine x_V2 (pc := 67) mX1_143 h0 (c_X1_keepWork (V := V1) hP hH1 (d := 0) (a := p + 8) (f := fun t => sumP N t 4) (by omega) hP.2.2.2.2.2.2.2.2.1.2 (by omega)) cx (dA ddX1_workOut (i := 40) rfl) (kV ?_)
        refine x_aload_n (pc := 70) cx (dA ddX1_workOut (i := 41) rfl) rfl ?_
        refine x_iload_n (pc := 71) cx (dA ddX1_workOut (i := 42) rfl) rfl ?_
        refine pX1_47 (pc := 72)  cx (dA ddX1_workOut (i := 43) rfl) h0 ?_
        refine x_iinc (pc := 75) cx (dA ddX1_workOut (i := 44) rfl) rfl (iinc1 _) (by decide) rfl ?_
        refine x_goto (pc := 78) (tgt := 14) cx (dA ddX1_workOut (i := 45) rfl) (by decide) ?_
        exact x_enter (ih (by omega) _ (by omega) (PW_0 hw)) ⟨.inr rfl, .inr rfl, .inr rfl, .inr rfl, trivial⟩
  exact x_enter (L14 K hC.2.1 V ⟨Nat.le_refl _, Or.inr rfl⟩ (PW.refl hH hC)) ⟨.inr rfl, .inr rfl, .inr rfl, .inr rfl, trivial⟩
