theorem MRule.same39 {V V' : zV} {y r κ b m : Nat} {f : Nat → Bool} (h : MRule V y r κ b m f) (hr : r < 10) (hs : SameB V V' (y + 39) (y + 86)) : MRule V' y r κ b m f := by
  obtain ⟨a, b1, c, d, e, g, k⟩ := h
  exact ⟨((hs _ (by omega)).2.2.1 r).trans a, b1, ((hs _ (by omega)).2.2.1 r).trans c, d, e, g, fun q i hi => ((hs _ (by omega)).2.2.1 i).trans (k q i hi)⟩
/-- best costs and loads, and costs by a rule, are found -/
def frI (V V' : zV) (y : Nat) (N : Nat → Nat) (g : Nat → Nat → Nat) : Prop := SameB V V' (y + 39) (y + 86) ∧ WaysV V' y N ∧ (∀ d, d ≤ N 0 → ∀ s, s < 5 ^ N 4 → V'.2.2.2 (y + 39 + 1 + d) s = lN (cst N d s)) ∧ (∀ d, 1 ≤ d → d ≤ N 0 → ∀ s, s < 5 ^ N 4 → V'.2.2.1 (y + 47 + 1 + d) s = nI (ldP N d s)) ∧ ∀ d, d ≤ N 0 → ∀ s, s < 5 ^ N 4 → V'.2.2.2 (y + 55 + 1 + d) s = lN (g d s)
theorem frI_of {V V2 V3 : zV} {y : Nat} {N : Nat → Nat} {g : Nat → Nat → Nat} (h6 : N 0 ≤ 6) (hF : fbI V V2 y N 0 (N 0 + 1)) (hG : gbI V2 V3 y N g (N 0 + 1)) : frI V V3 y N g := by
  obtain ⟨a, b, c⟩ := hF
  obtain ⟨a2, b2, c2⟩ := hG
  refine ⟨fun x hx => ?_, b2, fun d hd s hs => ?_, fun d h1 hd s hs => ?_, fun d hd s hs => c2 d (by omega) s hs⟩
  · have q1 := a x hx
    have q2 := a2 x (by omega)
    exact ⟨fun i => (q2.1 i).trans (q1.1 i), fun i => (q2.2.1 i).trans (q1.2.1 i), fun i => (q2.2.2.1 i).trans (q1.2.2.1 i), fun i => (q2.2.2.2 i).trans (q1.2.2.2 i)⟩
  · rw [(a2 _ (by omega)).2.2.2 s, (c d (by omega) s hs).1, mcM_cst]
  · rw [(a2 _ (by omega)).2.2.1 s, (c d (by omega) s hs).2, mlM_ld h1]
theorem c_X8_findByRule {l : Launch} {Z : zP} {G : zG} {V : zV} {y : Nat} (hM : ModelAt Z G y) {h : Nat} (hh : h < 8) {N : Nat → Nat} (hR : MH V y h N) (hB : HouseB N) (hN : HOK N) (hmu : V.1 439 y = -1) {r κ b m : Nat} {rf : Nat → Bool} (hr : r < 10) (hR5 : MRule V y r κ b m rf) : CT l Z yX8_findByRule cX8_findByRule 3 none 5 0 0 [.ref y, .int (nI h), .int (nI r)] G V (pVx G (fun V' => frI V V' y N (rCs N κ b m rf))) := by
  refine CT.of (by decide +kernel) (Nat.le_of_ble_eq_true rfl) (fun X hX cx => ?_)
  subst hX
  show Wm Z X 3 G V 0 0 _ 0 [(0, some (.ref y)), (1, some (.int (nI h))), (2, some (.int (nI r)))] []
  have h0 := hM.1
  have b4 := hB.1
  have h06 := hN.2.1
  have hmu0 : ∀ d, 1 ≤ d → d ≤ 6 → (nI d = V.1 439 y ↔ d = 0) := fun d h1 h6 => ⟨fun e => by rw [hmu] at e; have e2 := congrArg Int32.toInt e; rw [nI_toInt (by omega)] at e2; have e3 : (-1 : Int32).toInt = -1 := rfl; omega, fun e => by omega⟩
  refine x_aload_n (pc := 0) cx (dA ddX8_findByRule (i := 0) rfl) rfl ?_
  refine x_iload_n (pc := 1) cx (dA ddX8_findByRule (i := 1) rfl) rfl ?_
  refine x_V1 (pc := 2) mX8_264 h0 (c_X8_findBest hM hh hR hB hN (mu := 0) hmu0) cx (dA ddX8_findByRule (i := 2) rfl) (kVx fun V2 hF => ?_)
  refine x_aload_n (pc := 5) cx (dA ddX8_findByRule (i := 3) rfl) rfl ?_
  refine x_iload_n (pc := 6) cx (dA ddX8_findByRule (i := 4) rfl) rfl ?_
  refine x_iload_n (pc := 7) cx (dA ddX8_findByRule (i := 5) rfl) rfl ?_
  refine x_V2 (pc := 8) mX8_278 h0 (c_X8_goesByRule hM hh (hR.same39 hh hF.1) hB hN hF.2.1 hr (hR5.same39 hr hF.1) (fun k4 d h1 hd s hs => ((hF.2.2 d (by omega) s hs).2).trans (by rw [mlM_ld h1]))) cx (dA ddX8_findByRule (i := 6) rfl) (kVx fun V3 hG => ?_)
  refine x_return (pc := 11) cx (dA ddX8_findByRule (i := 7) rfl) (by first | exact Nat.le_of_ble_eq_true rfl | omega) (by first | exact Nat.le_of_ble_eq_true rfl | omega) ?_
  exact ⟨rfl, rfl, frI_of h06.2 hF hG⟩
