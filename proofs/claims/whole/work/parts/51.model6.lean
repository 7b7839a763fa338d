/-- least costs and loads with a load that must be with mu days left -/
def mcM (N : Nat → Nat) (mu : Nat) : Nat → Nat → Nat
  | 0 => fun s => sumP N s 4
  | d + 1 => bstP N (d + 1) (decide (d + 1 = mu)) (swD N (d + 1) (mcM N mu d))
def maM (N : Nat → Nat) (mu d : Nat) : Nat → Nat := swD N d (mcM N mu (d - 1))
def mlM (N : Nat → Nat) (mu d s : Nat) : Nat := if d = 0 then 0 else pickP N (boxP N d) (maM N mu d) (decide (d = mu)) s
theorem mcM_bd {N : Nat → Nat} (hN : HOK N) {mu : Nat} : ∀ d s, s < 5 ^ N 4 → mcM N mu d s ≤ sclP N d * (1188 + 504 * d)
  | 0, s, _ => leav_le hN
  | d + 1, s, hs => by
    have h := (day_bd hN (d := d + 1) (C := 1188 + 504 * d) (by omega) (f := mcM N mu d) (mcM_bd hN d)).2.2 s (pickP N (boxP N (d + 1)) (swD N (d + 1) (mcM N mu d)) (decide (d + 1 = mu)) s) hs
    rw [show 1188 + 504 * (d + 1) = 1188 + 504 * d + 504 by omega]
    exact h
theorem MH.same39 {V V' : zV} {y h : Nat} {N : Nat → Nat} (hR : MH V y h N) (hh : h < 8) (hs : SameB V V' (y + 39) (y + 86)) : MH V' y h N := fun j hj => ((hs _ (by omega)).2.2.1 j).trans (hR j hj)
theorem WaysV.same {V V' : zV} {y : Nat} {N : Nat → Nat} (h4 : N 4 ≤ 3) (hW : WaysV V y N) (hs : ∀ x, y + 63 ≤ x → x < y + 85 → same4 V V' x) : WaysV V' y N := by
  have p2 := two_le h4
  obtain ⟨a, b, c, d, e⟩ := hW
  exact ⟨fun s h => ((hs _ (by omega) (by omega)).2.2.1 s).trans (a s h), fun s h => ((hs _ (by omega) (by omega)).2.2.1 s).trans (b s h), fun s h => ((hs _ (by omega) (by omega)).2.2.1 s).trans (c s h), fun k h => ((hs _ (by omega) (by omega)).2.2.2 k).trans (d k h), fun k h s hs2 => ⟨((hs _ (by omega) (by omega)).2.2.1 s).trans (e k h s hs2).1, ((hs _ (by omega) (by omega)).2.2.1 s).trans (e k h s hs2).2⟩⟩
/-- days below D are found -/
def fbI (V V1 : zV) (y : Nat) (N : Nat → Nat) (mu D : Nat) : Prop := SameB V V1 (y + 39) (y + 86) ∧ WaysV V1 y N ∧ ∀ d, d < D → ∀ s, s < 5 ^ N 4 → V1.2.2.2 (y + 39 + 1 + d) s = lN (mcM N mu d s) ∧ V1.2.2.1 (y + 47 + 1 + d) s = nI (mlM N mu d s)
/-- .. and s states of the day D -/
def fbJ (V V1 : zV) (y : Nat) (N : Nat → Nat) (mu D s : Nat) : Prop := fbI V V1 y N mu D ∧ ∀ t, t < s → V1.2.2.2 (y + 39 + 1 + D) t = lN (mcM N mu D t) ∧ V1.2.2.1 (y + 47 + 1 + D) t = nI (mlM N mu D t)
theorem fb_same {V1 : zV} {y D s x : Nat} {v : Int64} {w : Int32} (h1 : x ≠ y + 39 + 1 + D) (h2 : x ≠ y + 47 + 1 + D) : same4 V1 (sAI (sAJ V1 (y + 39 + 1 + D) s v) (y + 47 + 1 + D) s w) x := ((same4.refl V1 x).sAJ h1).sAI h2
theorem fbJ_s {V V1 : zV} {y mu D s : Nat} {N : Nat → Nat} (h4 : N 4 ≤ 3) (hD : D < 7) (h : fbJ V V1 y N mu D s) : fbJ V (sAI (sAJ V1 (y + 39 + 1 + D) s (lN (mcM N mu D s))) (y + 47 + 1 + D) s (nI (mlM N mu D s))) y N mu D (s + 1) := by
  obtain ⟨⟨a, b, c⟩, d⟩ := h
  refine ⟨⟨(a.sAJ (by omega) (by omega)).sAI (by omega) (by omega), b.same h4 (fun x h1 h2 => fb_same (by omega) (by omega)), fun e he t ht => ?_⟩, fun t ht => ?_⟩
  · have q1 := (fb_same (V1 := V1) (y := y) (D := D) (s := s) (x := y + 39 + 1 + e) (v := lN (mcM N mu D s)) (w := nI (mlM N mu D s)) (by omega) (by omega)).2.2.2 t
    have q2 := (fb_same (V1 := V1) (y := y) (D := D) (s := s) (x := y + 47 + 1 + e) (v := lN (mcM N mu D s)) (w := nI (mlM N mu D s)) (by omega) (by omega)).2.2.1 t
    exact ⟨q1.trans (c e he t ht).1, q2.trans (c e he t ht).2⟩
  · by_cases q : t = s
    · subst q
      exact ⟨sAJ_eq, sAI_eq⟩
    · exact ⟨(sAJ_nj q).trans (d t (by omega)).1, (sAI_nj q).trans (d t (by omega)).2⟩
theorem fbI_s {V V1 : zV} {y mu D : Nat} {N : Nat → Nat} (h : fbJ V V1 y N mu D (5 ^ N 4)) : fbI V V1 y N mu (D + 1) := by
  obtain ⟨⟨a, b, c⟩, d⟩ := h
  refine ⟨a, b, fun e he t ht => ?_⟩
  by_cases q : e = D
  · subst q; exact d t ht
  · exact c e (by omega) t ht
def wtJ (V : zV) (y s : Nat) (f : Nat → Nat) : zV := rAJ V (y + 85) 0 s (fun t => lN (f t))
theorem wt_same {V1 : zV} {y s x : Nat} {f : Nat → Nat} (h : x ≠ y + 85) : same4 V1 (wtJ V1 y s f) x := (same4.refl V1 x).rAJ h
theorem fbI_w {V V1 : zV} {y mu D s : Nat} {N f : Nat → Nat} (h4 : N 4 ≤ 3) (hD : D ≤ 7) (h : fbI V V1 y N mu D) : fbI V (wtJ V1 y s f) y N mu D := by
  obtain ⟨a, b, c⟩ := h
  exact ⟨a.rAJ (by omega) (by omega), b.same h4 (fun x h1 h2 => wt_same (by omega)), fun e he t ht => ⟨((wt_same (by omega)).2.2.2 t).trans (c e he t ht).1, ((wt_same (by omega)).2.2.1 t).trans (c e he t ht).2⟩⟩

