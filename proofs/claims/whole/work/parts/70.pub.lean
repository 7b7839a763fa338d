/-! THE REFERENCE KNOWS S: at y; what it keeps at zk -/
def WdM (V : zV) (y : Nat) (W : WD) : Prop := V.1 411 y = nI W.1 ∧ W.1 ≤ 6 ∧ (∀ i, i < W.1 → MH V y i (W.2.1 i) ∧ HOK (W.2.1 i)) ∧ V.1 413 y = W.2.2.1 ∧ (W.2.2.2 = none → V.1 414 y = nI 0) ∧ ∀ ws, W.2.2.2 = some ws → V.1 414 y = nI 1 ∧ MH V y 7 ws.1 ∧ HOK ws.1 ∧ MRule V y 8 ws.2.1.1 ws.2.1.2.1 ws.2.1.2.2.1 ws.2.1.2.2.2 ∧
  (V.1 415 y = nI ws.2.2.1 ∧ V.1 416 y = nI ws.2.2.2.1 ∧ V.1 417 y = nI ws.2.2.2.2.1 ∧ V.1 418 y = nI ws.2.2.2.2.2.1 ∧ V.1 419 y = nI ws.2.2.2.2.2.2.1 ∧ V.1 420 y = nI ws.2.2.2.2.2.2.2) ∧ ws.2.2.1 ≤ ws.1 0 ∧ ws.2.2.2.1 < 5 ^ ws.1 4
def ShM (V : zV) (y s : Nat) (h : SH) : Prop := (h = none → V.2.2.1 (y + 1) s = nI 0) ∧ (∀ q, h = some (.inl q) → V.2.2.1 (y + 1) s = nI 1 ∧ V.2.2.1 (y + 2) s = nI q.1 ∧ q.1 < 5 ∧ V.2.2.1 (y + 3) s = nI q.2.1 ∧ q.2.1 ≤ 125 ∧ ∀ j, j < q.2.1 → V.2.2.2 (y + 4 + 1 + s) j = q.2.2 j) ∧
  ∀ q, h = some (.inr q) → V.2.2.1 (y + 1) s = nI 2 ∧ MRule V y s q.1 q.2.1 q.2.2.1 q.2.2.2 ∧ (q.1 = 5 → V.2.2.1 (y + 38) s = nI q.2.2.1 ∧ q.2.2.1 ≤ 125)
def RM (Z : zP) (G : zG) (V : zV) (y : Nat) (zk : Option Nat) (S : SX) : Prop := ModelAt Z G y ∧ y + 94 ≤ G.1 ∧ WdM V y S.1 ∧ (∀ s, s < 8 → ShM V y s (S.2.2.2.1 s)) ∧ MTape V y S.2.2.1.1 S.2.2.1.2 ∧ (∀ i, i < 5 → V.2.2.1 (y + 28) (i + 2) = S.2.2.2.2 i) ∧ V.1 439 y = -1 ∧ (zk = none → G.2.2.1 421 y = none ∧ S.2.1 = none) ∧ ∀ z, zk = some z → G.2.2.1 421 y = some z ∧ ModelAt Z G z ∧ z + 94 ≤ G.1 ∧ (z + 94 ≤ y ∨ y + 94 ≤ z) ∧ ∃ W, S.2.1 = some W ∧ WdM V z W
theorem MRule.st {V V' : zV} {y r κ b m : Nat} {f : Nat → Bool} (h : MRule V y r κ b m f) (h1 : V'.2.2.1 (y + 14) r = V.2.2.1 (y + 14) r) (h2 : V'.2.2.1 (y + 15) r = V.2.2.1 (y + 15) r) (h3 : ∀ j, V'.2.2.1 (y + 16 + 1 + r) j = V.2.2.1 (y + 16 + 1 + r) j) : MRule V' y r κ b m f := by
  obtain ⟨a, b1, c, d, e, g, k⟩ := h
  exact ⟨h1.trans a, b1, h2.trans c, d, e, g, fun q i hi => (h3 i).trans (k q i hi)⟩
theorem WdM.st {V V' : zV} {y : Nat} {W : WD} (h : WdM V y W) (hf : ∀ f, f < 423 → V'.1 f y = V.1 f y) (hr : ∀ i, i < 8 → ∀ j, V'.2.2.1 (y + 29 + 1 + i) j = V.2.2.1 (y + 29 + 1 + i) j) (h8 : V'.2.2.1 (y + 14) 8 = V.2.2.1 (y + 14) 8 ∧ V'.2.2.1 (y + 15) 8 = V.2.2.1 (y + 15) 8) (ht : ∀ j, V'.2.2.1 (y + 16 + 1 + 8) j = V.2.2.1 (y + 16 + 1 + 8) j) : WdM V' y W := by
  obtain ⟨a, b, c, d, e, f⟩ := h
  refine ⟨(hf _ (by decide)).trans a, b, fun i hi => ⟨fun j hj => (hr i (by omega) j).trans ((c i hi).1 j hj), (c i hi).2⟩, (hf _ (by decide)).trans d, fun q => (hf _ (by decide)).trans (e q), fun ws hw => ?_⟩
  obtain ⟨f1, f2, f3, f4, ⟨g1, g2, g3, g4, g5, g6⟩, f6⟩ := f ws hw
  exact ⟨(hf _ (by decide)).trans f1, fun j hj => (hr 7 (by decide) j).trans (f2 j hj), f3, f4.st h8.1 h8.2 ht, ⟨(hf _ (by decide)).trans g1, (hf _ (by decide)).trans g2, (hf _ (by decide)).trans g3, (hf _ (by decide)).trans g4, (hf _ (by decide)).trans g5, (hf _ (by decide)).trans g6⟩, f6⟩
theorem WdM.same {V V' : zV} {y : Nat} {W : WD} (h : WdM V y W) (hs : ∀ a, y ≤ a → a < y + 94 → same4 V V' a) : WdM V' y W := h.st (fun f _ => (hs y (by omega) (by omega)).1 f) (fun i hi j => (hs _ (by omega) (by omega)).2.2.1 j) ⟨(hs _ (by omega) (by omega)).2.2.1 8, (hs _ (by omega) (by omega)).2.2.1 8⟩ (fun j => (hs _ (by omega) (by omega)).2.2.1 j)
theorem ShM.st {V V' : zV} {y s : Nat} {h : SH} (hh : ShM V y s h) (h1 : V'.2.2.1 (y + 1) s = V.2.2.1 (y + 1) s) (h2 : V'.2.2.1 (y + 2) s = V.2.2.1 (y + 2) s) (h3 : V'.2.2.1 (y + 3) s = V.2.2.1 (y + 3) s) (h4 : ∀ j, V'.2.2.2 (y + 4 + 1 + s) j = V.2.2.2 (y + 4 + 1 + s) j) (h5 : V'.2.2.1 (y + 14) s = V.2.2.1 (y + 14) s) (h6 : V'.2.2.1 (y + 15) s = V.2.2.1 (y + 15) s) (h7 : ∀ j, V'.2.2.1 (y + 16 + 1 + s) j = V.2.2.1 (y + 16 + 1 + s) j) (h8 : V'.2.2.1 (y + 38) s = V.2.2.1 (y + 38) s) : ShM V' y s h := by
  obtain ⟨a, b, c⟩ := hh
  refine ⟨fun q => h1.trans (a q), fun q hq => ?_, fun q hq => ?_⟩
  · obtain ⟨b1, b2, b3, b4, b5, b6⟩ := b q hq
    exact ⟨h1.trans b1, h2.trans b2, b3, h3.trans b4, b5, fun j hj => (h4 j).trans (b6 j hj)⟩
  · obtain ⟨b1, b2, b3⟩ := c q hq
    exact ⟨h1.trans b1, b2.st h5 h6 h7, fun e => ⟨h8.trans (b3 e).1, (b3 e).2⟩⟩
/-- all but what is told of it stays -/
theorem RM.mk' {Z : zP} {G : zG} {V V' : zV} {y : Nat} {zk : Option Nat} {S S' : SX} (h : RM Z G V y zk S) (hz : ∀ a, a < y ∨ y + 94 ≤ a → same4 V V' a) (hw : WdM V' y S'.1) (hs : ∀ s, s < 8 → ShM V' y s (S'.2.2.2.1 s)) (ht : MTape V' y S'.2.2.1.1 S'.2.2.1.2) (hr : ∀ i, i < 5 → V'.2.2.1 (y + 28) (i + 2) = S'.2.2.2.2 i) (hm : V'.1 439 y = -1) (hk : S'.2.1 = S.2.1) : RM Z G V' y zk S' := by
  obtain ⟨a, b, c, d, e, f, g, i, j⟩ := h
  refine ⟨a, b, hw, hs, ht, hr, hm, fun q => ⟨(i q).1, hk.trans (i q).2⟩, fun z hz' => ?_⟩
  obtain ⟨j1, j2, j3, j4, W, j5, j6⟩ := j z hz'
  exact ⟨j1, j2, j3, j4, W, hk.trans j5, j6.same fun a h1 h2 => hz a (by omega)⟩
theorem RM.mf {Z : zP} {G : zG} {V V' : zV} {y : Nat} {zk : Option Nat} {S : SX} (h : RM Z G V y zk S) (hF : MF V V' y) : RM Z G V' y zk S := by
  have s : ∀ x, x < y + 39 → x ≠ y → x ≠ y + 14 → x ≠ y + 15 → same4 V V' x := fun x h1 h2 h3 h4 => hF.1 x h2 h3 h4 (Or.inl h1)
  refine h.mk' (fun a ha => hF.1 a (by omega) (by omega) (by omega) (by omega)) (h.2.2.1.st (fun f hf => hF.2.1 f (by omega)) (fun i hi j => (s _ (by omega) (by omega) (by omega) (by omega)).2.2.1 j) ⟨(hF.2.2 8 (by decide)).1, (hF.2.2 8 (by decide)).2⟩ (fun j => (s _ (by omega) (by omega) (by omega) (by omega)).2.2.1 j)) (fun q hq => (h.2.2.2.1 q hq).st ((s _ (by omega) (by omega) (by omega) (by omega)).2.2.1 q) ((s _ (by omega) (by omega) (by omega) (by omega)).2.2.1 q) ((s _ (by omega) (by omega) (by omega) (by omega)).2.2.1 q) (fun j => (s _ (by omega) (by omega) (by omega) (by omega)).2.2.2 j) (hF.2.2 q (by omega)).1 (hF.2.2 q (by omega)).2 (fun j => (s _ (by omega) (by omega) (by omega) (by omega)).2.2.1 j) ((s _ (by omega) (by omega) (by omega) (by omega)).2.2.1 q)) ?_ (fun i hi => ((s _ (by omega) (by omega) (by omega) (by omega)).2.2.1 _).trans (h.2.2.2.2.2.1 i hi)) ((hF.2.1 439 (by omega)).trans h.2.2.2.2.2.2.1) rfl
  obtain ⟨t1, t2, t3, t4⟩ := h.2.2.2.2.1
  exact ⟨(hF.2.1 409 (by omega)).trans t1, fun j hj => ((s _ (by omega) (by omega) (by omega) (by omega)).2.2.1 j).trans (t2 j hj), t3, t4⟩
def rfV (V : zV) (y i : Nat) : zV := sAI V (y + 28) (i + 2) (V.2.2.1 (y + 28) (i + 2) + nI 1)
theorem rfV_s {V : zV} {y i a : Nat} (h : a ≠ y + 28) : same4 V (rfV V y i) a := (same4.refl V a).sAI h
theorem RM.ref {Z : zP} {G : zG} {V : zV} {y i : Nat} {zk : Option Nat} {S : SX} (h : RM Z G V y zk S) (hi : i < 5) : RM Z G (rfV V y i) y zk (refX S i) := by
  refine h.mk' (fun a ha => rfV_s (by omega)) (h.2.2.1.st (fun _ _ => rfl) (fun k hk j => sAI_ne (by omega)) ⟨sAI_ne (by omega), sAI_ne (by omega)⟩ (fun j => sAI_ne (by omega))) (fun q hq => (h.2.2.2.1 q hq).st (sAI_ne (by omega)) (sAI_ne (by omega)) (sAI_ne (by omega)) (fun j => rfl) (sAI_ne (by omega)) (sAI_ne (by omega)) (fun j => sAI_ne (by omega)) (sAI_ne (by omega))) ?_ (fun k hk => ?_) h.2.2.2.2.2.2.1 rfl
  · obtain ⟨t1, t2, t3, t4⟩ := h.2.2.2.2.1
    exact ⟨t1, fun j hj => (sAI_ne (by omega)).trans (t2 j hj), t3, t4⟩
  · have e := h.2.2.2.2.2.1
    show (sAI V (y + 28) (i + 2) _).2.2.1 (y + 28) (k + 2) = (if k = i then S.2.2.2.2 i + nI 1 else S.2.2.2.2 k)
    by_cases q : k = i
    · subst q
      rw [sAI_eq, if_pos rfl, e k hk]
    · rw [sAI_nj (by omega), if_neg q, e k hk]
def pMI (Z : zP) (G : zG) (V : zV) (y : Nat) (zk : Option Nat) (A : Int32 × SX) : Option Value → zG → zV → Prop := fun r G' V' => r = some (.int A.1) ∧ G' = G ∧ RM Z G V' y zk A.2 ∧ ∀ a, a < y ∨ y + 94 ≤ a → same4 V V' a
def pMJ (Z : zP) (G : zG) (V : zV) (y : Nat) (zk : Option Nat) (A : Int64 × SX) : Option Value → zG → zV → Prop := fun r G' V' => r = some (.long A.1) ∧ G' = G ∧ RM Z G V' y zk A.2 ∧ ∀ a, a < y ∨ y + 94 ≤ a → same4 V V' a
section PM
variable {Z : zP} {G : zG} {V V' : zV} {y i : Nat} {zk : Option Nat} {S : SX}
theorem MF.out (hF : MF V V' y) : ∀ a, a < y ∨ y + 94 ≤ a → same4 V V' a := fun a ha => hF.1 a (by omega) (by omega) (by omega) (by omega)
theorem pMI.q {A : Int32 × SX} {v : Int32} (h : RM Z G V y zk S) (hF : MF V V' y) (hA : A = (v, S)) : pMI Z G V y zk A (some (.int v)) G V' := by subst hA; exact ⟨rfl, rfl, h.mf hF, hF.out⟩
theorem pMJ.q {A : Int64 × SX} {v : Int64} (h : RM Z G V y zk S) (hF : MF V V' y) (hA : A = (v, S)) : pMJ Z G V y zk A (some (.long v)) G V' := by subst hA; exact ⟨rfl, rfl, h.mf hF, hF.out⟩
theorem pMI.r {A : Int32 × SX} {v : Int32} (h : RM Z G V y zk S) (hi : i < 5) (hA : A = (v, refX S i)) : pMI Z G V y zk A (some (.int v)) G (rfV V y i) := by subst hA; exact ⟨rfl, rfl, h.ref hi, fun a ha => rfV_s (by omega)⟩
theorem pMJ.r {A : Int64 × SX} {v : Int64} (h : RM Z G V y zk S) (hi : i < 5) (hA : A = (v, refX S i)) : pMJ Z G V y zk A (some (.long v)) G (rfV V y i) := by subst hA; exact ⟨rfl, rfl, h.ref hi, fun a ha => rfV_s (by omega)⟩
end PM
def pE (P : Int32 → zV → Prop) (G1 : zG) : Option Value → zG → zV → Prop := fun r G' V' => ∃ x, r = some (.int x) ∧ G' = G1 ∧ P x V'
theorem kE {Z : zP} {X : xP} {nL : Nat} {k n : Nat} {Q : State → Prop} {pc : Nat} {lw : List (Nat × Option Value)} {G1 : zG} {P : Int32 → zV → Prop} {rest : List Value} (h : ∀ x V', P x V' → Wm Z X nL G1 V' k n Q pc lw (.int x :: rest)) : ∀ (r : Option Value) (G' : zG) (V' : zV), pE P G1 r G' V' → Wm Z X nL G' V' k n Q pc lw (r.toList ++ rest) := by
  rintro r G' V' ⟨x, rfl, rfl, h2⟩
  exact h x V' h2
theorem c_X8_isLeft_a {l : Launch} {Z : zP} {G : zG} {V : zV} {y : Nat} {zk : Option Nat} {S : SX} (hRM : RM Z G V y zk S) {h x : Int32} : CT l Z yX8_isLeft cX8_isLeft 3 (some .boolean) 2 0 0 [.ref y, .int h, .int x] G V (pI (b2i (okc S h ∧ okl (hX S h) x)) G V) := by
  have hM := hRM.1
  have hc := hRM.2.2.1.1
  have c6 := hRM.2.2.1.2.1
  by_cases ch : okc S h
  · obtain ⟨i, hi, rfl, ti⟩ := i32_in ch
    obtain ⟨hR, hN⟩ := hRM.2.2.1.2.2.1 i hi
    have e := c_X8_isLeft (l := l) hM hc c6 (show i < 8 by omega) hR hN.1 hi (x := x)
    have e2 : hX S (nI i) = S.1.2.1 i := by rw [show hX S (nI i) = S.1.2.1 (tn (nI i)) from rfl, ti]
    rw [e2, b2i_congr (show (okc S (nI i) ∧ okl (S.1.2.1 i) x) ↔ okl (S.1.2.1 i) x from ⟨fun q => q.2, fun q => ⟨ch, q⟩⟩)]
    exact e
  · rw [b2i_f (fun q => ch q.1)]
    exact c_X8_isLeft_n hM hc c6 ch
theorem c_X8_isState_a {l : Launch} {Z : zP} {G : zG} {V : zV} {y : Nat} {zk : Option Nat} {S : SX} (hRM : RM Z G V y zk S) {h x : Int32} : CT l Z yX8_isState cX8_isState 3 (some .boolean) 2 0 0 [.ref y, .int h, .int x] G V (pI (b2i (okc S h ∧ okt (hX S h) x)) G V) := by
  have hM := hRM.1
  have hc := hRM.2.2.1.1
  have c6 := hRM.2.2.1.2.1
  by_cases ch : okc S h
  · obtain ⟨i, hi, rfl, ti⟩ := i32_in ch
    obtain ⟨hR, hN⟩ := hRM.2.2.1.2.2.1 i hi
    have e := c_X8_isState (l := l) hM hc c6 (show i < 8 by omega) hR hN.1 hi (x := x)
    have e2 : hX S (nI i) = S.1.2.1 i := by rw [show hX S (nI i) = S.1.2.1 (tn (nI i)) from rfl, ti]
    rw [e2, b2i_congr (show (okc S (nI i) ∧ okt (S.1.2.1 i) x) ↔ okt (S.1.2.1 i) x from ⟨fun q => q.2, fun q => ⟨ch, q⟩⟩)]
    exact e
  · rw [b2i_f (fun q => ch q.1)]
    exact c_X8_isState_n hM hc c6 ch
theorem c_X8_noRule {l : Launch} {Z : zP} {G : zG} {V : zV} {y : Nat} {zk : Option Nat} {S : SX} (hRM : RM Z G V y zk S) {r : Nat} (hr : r < 8) : CT l Z yX8_noRule cX8_noRule 2 (some .int) 1 0 0 [.ref y, .int (nI r)] G V (pE (fun x V' => (x = 0 ∧ V' = V ∧ ∃ q, S.2.2.2.1 r = some (.inr q)) ∨ (x = -4 ∧ S.2.2.2.1 r = none ∧ V' = rfV V y 2) ∨ (x = -3 ∧ (∃ q, S.2.2.2.1 r = some (.inl q)) ∧ V' = rfV V y 1)) G) := by
  refine CT.of (by decide +kernel) (Nat.le_of_ble_eq_true rfl) (fun X hX cx => ?_)
  subst hX
  show Wm Z X 2 G V 0 0 _ 0 [(0, some (.ref y)), (1, some (.int (nI r)))] []
  have hM := hRM.1
  have h0 := hM.1
  have hc := hRM.2.2.1.1
  have c6 := hRM.2.2.1.2.1
  have hmu := hRM.2.2.2.2.2.2.1
  obtain ⟨s0, s1, s2⟩ := hRM.2.2.2.1 r hr
  have hsh : (V.2.2.1 (y + 1) r = nI 0 ∧ S.2.2.2.1 r = none) ∨ (V.2.2.1 (y + 1) r = nI 1 ∧ ∃ q, S.2.2.2.1 r = some (.inl q)) ∨ (V.2.2.1 (y + 1) r = nI 2 ∧ ∃ q, S.2.2.2.1 r = some (.inr q)) := by
    match e : S.2.2.2.1 r with
    | none => exact Or.inl ⟨s0 e, rfl⟩
    | some (.inl q) => exact Or.inr (Or.inl ⟨(s1 q e).1, q, rfl⟩)
    | some (.inr q) => exact Or.inr (Or.inr ⟨(s2 q e).1, q, rfl⟩)
  refine x_aload_n (pc := 0) cx (dA ddX8_noRule (i := 0) rfl) rfl ?_
  refine gX8_7 (pc := 1) (rfA hM.2.1.1) cx (dA ddX8_noRule (i := 1) rfl) h0 ?_
  refine x_iload_n (pc := 4) cx (dA ddX8_noRule (i := 2) rfl) rfl ?_
  refine x_iaload (pc := 5) cx (dA ddX8_noRule (i := 3) rfl) hM.2.1.2 hr (by decide) ?_
  refine x_iconst (pc := 6) (v := nI 1) cx (dA ddX8_noRule (i := 4) rfl) (by decide) ?_
  refine x_icmp_ne (pc := 7) (tgt := 17) cx (dA ddX8_noRule (i := 5) rfl) (by decide) (fun c7 => ?_) (fun c7 => ?_)
  · refine x_aload_n (pc := 17) cx (dA ddX8_noRule (i := 10) rfl) rfl ?_
    refine gX8_7 (pc := 18) (rfA hM.2.1.1) cx (dA ddX8_noRule (i := 11) rfl) h0 ?_
    refine x_iload_n (pc := 21) cx (dA ddX8_noRule (i := 12) rfl) rfl ?_
    refine x_iaload (pc := 22) cx (dA ddX8_noRule (i := 13) rfl) hM.2.1.2 hr (by decide) ?_
    refine x_if_ne (pc := 23) (tgt := 35) cx (dA ddX8_noRule (i := 14) rfl) (by decide) (fun c23 => ?_) (fun c23 => ?_)
    · refine x_iconst (pc := 35) (v := nI 0) cx (dA ddX8_noRule (i := 19) rfl) (by decide) ?_
      refine x_ireturn (pc := 36) cx (dA ddX8_noRule (i := 20) rfl) (by first | exact Nat.le_of_ble_eq_true rfl | omega) (by first | exact Nat.le_of_ble_eq_true rfl | omega) ?_
      refine ⟨_, rfl, rfl, Or.inl ⟨rfl, rfl, ?_⟩⟩
      rcases hsh with ⟨h, h2⟩ | ⟨h, h2⟩ | ⟨h, h2⟩
      · exact absurd h c23
      · exact absurd h c7
      · exact h2
    · refine x_aload_n (pc := 26) cx (dA ddX8_noRule (i := 15) rfl) rfl ?_
      refine x_bipush (pc := 27) (v := -4) cx (dA ddX8_noRule (i := 16) rfl) (by decide) ?_
      refine x_V1 (pc := 29) mX8_119 h0 (c_X8_refuse hM (i := 2) (by decide) rfl) cx (dA ddX8_noRule (i := 17) rfl) (kI ?_)
      refine x_goto (pc := 32) (tgt := 36) cx (dA ddX8_noRule (i := 18) rfl) (by decide) ?_
      refine x_ireturn (pc := 36) cx (dA ddX8_noRule (i := 20) rfl) (by first | exact Nat.le_of_ble_eq_true rfl | omega) (by first | exact Nat.le_of_ble_eq_true rfl | omega) ?_
      refine ⟨_, rfl, rfl, Or.inr (Or.inl ⟨rfl, ?_, rfl⟩)⟩
      rcases hsh with ⟨h, h2⟩ | ⟨h, h2⟩ | ⟨h, h2⟩
      · exact h2
      · rw [h] at c23; exact absurd c23 (by decide)
      · rw [h] at c23; exact absurd c23 (by decide)
  · refine x_aload_n (pc := 10) cx (dA ddX8_noRule (i := 6) rfl) rfl ?_
    refine x_bipush (pc := 11) (v := -3) cx (dA ddX8_noRule (i := 7) rfl) (by decide) ?_
    refine x_V1 (pc := 13) mX8_119 h0 (c_X8_refuse hM (i := 1) (by decide) rfl) cx (dA ddX8_noRule (i := 8) rfl) (kI ?_)
    refine x_ireturn (pc := 16) cx (dA ddX8_noRule (i := 9) rfl) (by first | exact Nat.le_of_ble_eq_true rfl | omega) (by first | exact Nat.le_of_ble_eq_true rfl | omega) ?_
    refine ⟨_, rfl, rfl, Or.inr (Or.inr ⟨rfl, ?_, rfl⟩)⟩
    rcases hsh with ⟨h, h2⟩ | ⟨h, h2⟩ | ⟨h, h2⟩
    · rw [h] at c7; exact absurd c7 (by decide)
    · exact h2
    · rw [h] at c7; exact absurd c7 (by decide)
theorem c_X8_of {l : Launch} {Z : zP} {G : zG} {V : zV} {y : Nat} {zk : Option Nat} {S : SX} (hRM : RM Z G V y zk S) {t k : Int32} : CT l Z yX8_of cX8_of 3 (some .int) 2 0 0 [.ref y, .int t, .int k] G V (pMI Z G V y zk (fOf S t k)) := by
  refine CT.of (by decide +kernel) (Nat.le_of_ble_eq_true rfl) (fun X hX cx => ?_)
  subst hX
  show Wm Z X 3 G V 0 0 _ 0 [(0, some (.ref y)), (1, some (.int t)), (2, some (.int k))] []
  have hM := hRM.1
  have h0 := hM.1
  have hc := hRM.2.2.1.1
  have c6 := hRM.2.2.1.2.1
  have hmu := hRM.2.2.2.2.2.2.1
  refine x_iload_n (pc := 0) cx (dA ddX8_of (i := 0) rfl) rfl ?_
  refine x_i2l (pc := 1) cx (dA ddX8_of (i := 1) rfl) ?_
  refine x_lconst (pc := 2) (v := lN 0) cx (dA ddX8_of (i := 2) rfl) rfl ?_
  refine x_ldc2 (pc := 3) cx klX8_224 (dA ddX8_of (i := 3) rfl) ?_
  refine x_S3 (pc := 6) mX8_94 c_X8_in cx (dA ddX8_of (i := 4) rfl) (kI ?_)
  rw [l0_toInt, tl_toInt, show (lN 124).toInt = 124 from rfl]
  refine x_if_eq (pc := 9) (tgt := 32) cx (dA ddX8_of (i := 5) rfl) (by decide) (fun c9 => ?_) (fun c9 => ?_)
  · have c9 := b2i_eq c9
    refine x_aload_n (pc := 32) cx (dA ddX8_of (i := 16) rfl) rfl ?_
    refine x_bipush (pc := 33) (v := -2) cx (dA ddX8_of (i := 17) rfl) (by decide) ?_
    refine x_V1 (pc := 35) mX8_119 h0 (c_X8_refuse hM (i := 0) (by decide) rfl) cx (dA ddX8_of (i := 18) rfl) (kI ?_)
    refine x_ireturn (pc := 38) cx (dA ddX8_of (i := 19) rfl) (by first | exact Nat.le_of_ble_eq_true rfl | omega) (by first | exact Nat.le_of_ble_eq_true rfl | omega) ?_
    first | exact pMI.r hRM (by decide) (if_neg (fun q => c9 q.1))
  · have c9 := b2i_ne c9
    refine x_iload_n (pc := 12) cx (dA ddX8_of (i := 6) rfl) rfl ?_
    refine x_i2l (pc := 13) cx (dA ddX8_of (i := 7) rfl) ?_
    refine x_lconst (pc := 14) (v := lN 0) cx (dA ddX8_of (i := 8) rfl) rfl ?_
    refine x_ldc2 (pc := 15) cx klX8_216 (dA ddX8_of (i := 9) rfl) ?_
    refine x_S3 (pc := 18) mX8_94 c_X8_in cx (dA ddX8_of (i := 10) rfl) (kI ?_)
    rw [l0_toInt, tl_toInt, show (lN 2).toInt = 2 from rfl]
    refine x_if_eq (pc := 21) (tgt := 32) cx (dA ddX8_of (i := 11) rfl) (by decide) (fun c21 => ?_) (fun c21 => ?_)
    · have c21 := b2i_eq c21
      refine x_aload_n (pc := 32) cx (dA ddX8_of (i := 16) rfl) rfl ?_
      refine x_bipush (pc := 33) (v := -2) cx (dA ddX8_of (i := 17) rfl) (by decide) ?_
      refine x_V1 (pc := 35) mX8_119 h0 (c_X8_refuse hM (i := 0) (by decide) rfl) cx (dA ddX8_of (i := 18) rfl) (kI ?_)
      refine x_ireturn (pc := 38) cx (dA ddX8_of (i := 19) rfl) (by first | exact Nat.le_of_ble_eq_true rfl | omega) (by first | exact Nat.le_of_ble_eq_true rfl | omega) ?_
      first | exact pMI.r hRM (by decide) (if_neg (fun q => c21 q.2))
    · have c21 := b2i_ne c21
      have C : (0 ≤ t.toInt ∧ t.toInt ≤ 124) ∧ 0 ≤ k.toInt ∧ k.toInt ≤ 2 := ⟨c9, c21⟩
      obtain ⟨a, ha, rfl, ta⟩ := i32_in (x := t) (n := 125) (by omega)
      obtain ⟨b, hb, rfl, tb⟩ := i32_in (x := k) (n := 3) (by omega)
      refine x_iload_n (pc := 24) cx (dA ddX8_of (i := 12) rfl) rfl ?_
      refine x_iload_n (pc := 25) cx (dA ddX8_of (i := 13) rfl) rfl ?_
      refine x_S2 (pc := 26) mX8_226 (c_X8_ofState ha hb) cx (dA ddX8_of (i := 14) rfl) (kI ?_)
      refine x_goto (pc := 29) (tgt := 38) cx (dA ddX8_of (i := 15) rfl) (by decide) ?_
      refine x_ireturn (pc := 38) cx (dA ddX8_of (i := 19) rfl) (by first | exact Nat.le_of_ble_eq_true rfl | omega) (by first | exact Nat.le_of_ble_eq_true rfl | omega) ?_
      exact pMI.q hRM (MF.refl V y) (by unfold fOf; rw [if_pos C, ta, tb])
theorem c_X8_space {l : Launch} {Z : zP} {G : zG} {V : zV} {y : Nat} {zk : Option Nat} {S : SX} (hRM : RM Z G V y zk S) {h t : Int32} : CT l Z yX8_space cX8_space 3 (some .int) 5 0 0 [.ref y, .int h, .int t] G V (pMI Z G V y zk (fSpace S h t)) := by
  refine CT.of (by decide +kernel) (Nat.le_of_ble_eq_true rfl) (fun X hX cx => ?_)
  subst hX
  show Wm Z X 3 G V 0 0 _ 0 [(0, some (.ref y)), (1, some (.int h)), (2, some (.int t))] []
  have hM := hRM.1
  have h0 := hM.1
  have hc := hRM.2.2.1.1
  have c6 := hRM.2.2.1.2.1
  have hmu := hRM.2.2.2.2.2.2.1
  refine x_aload_n (pc := 0) cx (dA ddX8_space (i := 0) rfl) rfl ?_
  refine x_iload_n (pc := 1) cx (dA ddX8_space (i := 1) rfl) rfl ?_
  refine x_iload_n (pc := 2) cx (dA ddX8_space (i := 2) rfl) rfl ?_
  refine x_V2 (pc := 3) mX8_233 h0 (c_X8_isState_a hRM) cx (dA ddX8_space (i := 3) rfl) (kI ?_)
  refine x_if_eq (pc := 6) (tgt := 19) cx (dA ddX8_space (i := 4) rfl) (by decide) (fun c6 => ?_) (fun c6 => ?_)
  · have c6 := b2i_eq c6
    refine x_aload_n (pc := 19) cx (dA ddX8_space (i := 11) rfl) rfl ?_
    refine x_bipush (pc := 20) (v := -2) cx (dA ddX8_space (i := 12) rfl) (by decide) ?_
    refine x_V1 (pc := 22) mX8_119 h0 (c_X8_refuse hM (i := 0) (by decide) rfl) cx (dA ddX8_space (i := 13) rfl) (kI ?_)
    refine x_ireturn (pc := 25) cx (dA ddX8_space (i := 14) rfl) (by first | exact Nat.le_of_ble_eq_true rfl | omega) (by first | exact Nat.le_of_ble_eq_true rfl | omega) ?_
    first | exact pMI.r hRM (by decide) (if_neg (fun q => c6 q))
  · have c6 := b2i_ne c6
    obtain ⟨ch, ct⟩ := c6
    obtain ⟨i, hi, rfl, ti⟩ := i32_in ch
    obtain ⟨hR, hN⟩ := hRM.2.2.1.2.2.1 i hi
    have hB := hN.1
    have b4 := hB.1
    have n125 := st125 b4
    have h06 := hN.2.1
    have hh : i < 8 := by omega
    have ct2 : okt (S.1.2.1 i) t := by rw [← ti]; exact ct
    obtain ⟨t, ht, rfl, tt⟩ := i32_in ct2
    refine x_aload_n (pc := 9) cx (dA ddX8_space (i := 5) rfl) rfl ?_
    refine x_iload_n (pc := 10) cx (dA ddX8_space (i := 6) rfl) rfl ?_
    refine x_iload_n (pc := 11) cx (dA ddX8_space (i := 7) rfl) rfl ?_
    refine x_iconst (pc := 12) (v := nI 0) cx (dA ddX8_space (i := 8) rfl) (by decide) ?_
    refine x_V3 (pc := 13) mX8_236 h0 (c_X8_sum hM hh hR hB (s := t) (w := 0) (by omega) (by decide)) cx (dA ddX8_space (i := 9) rfl) (kI ?_)
    refine x_goto (pc := 16) (tgt := 25) cx (dA ddX8_space (i := 10) rfl) (by decide) ?_
    refine x_ireturn (pc := 25) cx (dA ddX8_space (i := 14) rfl) (by first | exact Nat.le_of_ble_eq_true rfl | omega) (by first | exact Nat.le_of_ble_eq_true rfl | omega) ?_
    exact pMI.q hRM (MF.refl V y) (by unfold fSpace; rw [if_pos ⟨ch, ct⟩]; simp only [hX, ti, tt])
theorem c_X8_fill {l : Launch} {Z : zP} {G : zG} {V : zV} {y : Nat} {zk : Option Nat} {S : SX} (hRM : RM Z G V y zk S) {h t : Int32} : CT l Z yX8_fill cX8_fill 3 (some .int) 5 0 0 [.ref y, .int h, .int t] G V (pMI Z G V y zk (fFill S h t)) := by
  refine CT.of (by decide +kernel) (Nat.le_of_ble_eq_true rfl) (fun X hX cx => ?_)
  subst hX
  show Wm Z X 3 G V 0 0 _ 0 [(0, some (.ref y)), (1, some (.int h)), (2, some (.int t))] []
  have hM := hRM.1
  have h0 := hM.1
  have hc := hRM.2.2.1.1
  have c6 := hRM.2.2.1.2.1
  have hmu := hRM.2.2.2.2.2.2.1
  refine x_aload_n (pc := 0) cx (dA ddX8_fill (i := 0) rfl) rfl ?_
  refine x_iload_n (pc := 1) cx (dA ddX8_fill (i := 1) rfl) rfl ?_
  refine x_iload_n (pc := 2) cx (dA ddX8_fill (i := 2) rfl) rfl ?_
  refine x_V2 (pc := 3) mX8_233 h0 (c_X8_isState_a hRM) cx (dA ddX8_fill (i := 3) rfl) (kI ?_)
  refine x_if_eq (pc := 6) (tgt := 18) cx (dA ddX8_fill (i := 4) rfl) (by decide) (fun c6 => ?_) (fun c6 => ?_)
  · have c6 := b2i_eq c6
    refine x_aload_n (pc := 18) cx (dA ddX8_fill (i := 10) rfl) rfl ?_
    refine x_bipush (pc := 19) (v := -2) cx (dA ddX8_fill (i := 11) rfl) (by decide) ?_
    refine x_V1 (pc := 21) mX8_119 h0 (c_X8_refuse hM (i := 0) (by decide) rfl) cx (dA ddX8_fill (i := 12) rfl) (kI ?_)
    refine x_ireturn (pc := 24) cx (dA ddX8_fill (i := 13) rfl) (by first | exact Nat.le_of_ble_eq_true rfl | omega) (by first | exact Nat.le_of_ble_eq_true rfl | omega) ?_
    first | exact pMI.r hRM (by decide) (if_neg (fun q => c6 q))
  · have c6 := b2i_ne c6
    obtain ⟨ch, ct⟩ := c6
    obtain ⟨i, hi, rfl, ti⟩ := i32_in ch
    obtain ⟨hR, hN⟩ := hRM.2.2.1.2.2.1 i hi
    have hB := hN.1
    have b4 := hB.1
    have n125 := st125 b4
    have h06 := hN.2.1
    have hh : i < 8 := by omega
    have ct2 : okt (S.1.2.1 i) t := by rw [← ti]; exact ct
    obtain ⟨t, ht, rfl, tt⟩ := i32_in ct2
    refine x_aload_n (pc := 9) cx (dA ddX8_fill (i := 5) rfl) rfl ?_
    refine x_iload_n (pc := 10) cx (dA ddX8_fill (i := 6) rfl) rfl ?_
    refine x_iload_n (pc := 11) cx (dA ddX8_fill (i := 7) rfl) rfl ?_
    refine x_V2 (pc := 12) mX8_246 h0 (c_X8_fillOf hM hh hR hB hN (by omega)) cx (dA ddX8_fill (i := 8) rfl) (kI ?_)
    refine x_goto (pc := 15) (tgt := 24) cx (dA ddX8_fill (i := 9) rfl) (by decide) ?_
    refine x_ireturn (pc := 24) cx (dA ddX8_fill (i := 13) rfl) (by first | exact Nat.le_of_ble_eq_true rfl | omega) (by first | exact Nat.le_of_ble_eq_true rfl | omega) ?_
    exact pMI.q hRM (MF.refl V y) (by unfold fFill; rw [if_pos ⟨ch, ct⟩]; simp only [hX, ti, tt])
theorem c_X8_scale {l : Launch} {Z : zP} {G : zG} {V : zV} {y : Nat} {zk : Option Nat} {S : SX} (hRM : RM Z G V y zk S) {h d : Int32} : CT l Z yX8_scale cX8_scale 3 (some .long) 3 0 0 [.ref y, .int h, .int d] G V (pMJ Z G V y zk (fScale S h d)) := by
  refine CT.of (by decide +kernel) (Nat.le_of_ble_eq_true rfl) (fun X hX cx => ?_)
  subst hX
  show Wm Z X 3 G V 0 0 _ 0 [(0, some (.ref y)), (1, some (.int h)), (2, some (.int d))] []
  have hM := hRM.1
  have h0 := hM.1
  have hc := hRM.2.2.1.1
  have c6 := hRM.2.2.1.2.1
  have hmu := hRM.2.2.2.2.2.2.1
  refine x_aload_n (pc := 0) cx (dA ddX8_scale (i := 0) rfl) rfl ?_
  refine x_iload_n (pc := 1) cx (dA ddX8_scale (i := 1) rfl) rfl ?_
  refine x_iload_n (pc := 2) cx (dA ddX8_scale (i := 2) rfl) rfl ?_
  refine x_V2 (pc := 3) mX8_239 h0 (c_X8_isLeft_a hRM) cx (dA ddX8_scale (i := 3) rfl) (kI ?_)
  refine x_if_eq (pc := 6) (tgt := 18) cx (dA ddX8_scale (i := 4) rfl) (by decide) (fun c6 => ?_) (fun c6 => ?_)
  · have c6 := b2i_eq c6
    refine x_aload_n (pc := 18) cx (dA ddX8_scale (i := 10) rfl) rfl ?_
    refine x_bipush (pc := 19) (v := -2) cx (dA ddX8_scale (i := 11) rfl) (by decide) ?_
    refine x_V1 (pc := 21) mX8_119 h0 (c_X8_refuse hM (i := 0) (by decide) rfl) cx (dA ddX8_scale (i := 12) rfl) (kI ?_)
    refine x_i2l (pc := 24) cx (dA ddX8_scale (i := 13) rfl) ?_
    refine x_lreturn (pc := 25) cx (dA ddX8_scale (i := 14) rfl) (by first | exact Nat.le_of_ble_eq_true rfl | omega) (by first | exact Nat.le_of_ble_eq_true rfl | omega) ?_
    first | exact pMJ.r hRM (by decide) (if_neg (fun q => c6 q))
  · have c6 := b2i_ne c6
    obtain ⟨ch, cl⟩ := c6
    obtain ⟨i, hi, rfl, ti⟩ := i32_in ch
    obtain ⟨hR, hN⟩ := hRM.2.2.1.2.2.1 i hi
    have hB := hN.1
    have b4 := hB.1
    have n125 := st125 b4
    have h06 := hN.2.1
    have hh : i < 8 := by omega
    have cl2 : okl (S.1.2.1 i) d := by rw [← ti]; exact cl
    obtain ⟨d, hd, rfl, td⟩ := i32_in (x := d) (n := S.1.2.1 i 0 + 1) ⟨cl2.1, by have := cl2.2; omega⟩
    refine x_aload_n (pc := 9) cx (dA ddX8_scale (i := 5) rfl) rfl ?_
    refine x_iload_n (pc := 10) cx (dA ddX8_scale (i := 6) rfl) rfl ?_
    refine x_iload_n (pc := 11) cx (dA ddX8_scale (i := 7) rfl) rfl ?_
    refine x_V2 (pc := 12) mX8_242 h0 (c_X8_scaleOf hM hh hR hB (d := d) (by omega)) cx (dA ddX8_scale (i := 8) rfl) (kJ ?_)
    refine x_goto (pc := 15) (tgt := 25) cx (dA ddX8_scale (i := 9) rfl) (by decide) ?_
    refine x_lreturn (pc := 25) cx (dA ddX8_scale (i := 14) rfl) (by first | exact Nat.le_of_ble_eq_true rfl | omega) (by first | exact Nat.le_of_ble_eq_true rfl | omega) ?_
    exact pMJ.q hRM (MF.refl V y) (by unfold fScale; rw [if_pos ⟨ch, cl⟩]; simp only [hX, ti, td])
theorem c_X8_cost {l : Launch} {Z : zP} {G : zG} {V : zV} {y : Nat} {zk : Option Nat} {S : SX} (hRM : RM Z G V y zk S) {h d t : Int32} : CT l Z yX8_cost cX8_cost 4 (some .long) 5 0 0 [.ref y, .int h, .int d, .int t] G V (pMJ Z G V y zk (fCost S h d t)) := by
  refine CT.of (by decide +kernel) (Nat.le_of_ble_eq_true rfl) (fun X hX cx => ?_)
  subst hX
  show Wm Z X 4 G V 0 0 _ 0 [(0, some (.ref y)), (1, some (.int h)), (2, some (.int d)), (3, some (.int t))] []
  have hM := hRM.1
  have h0 := hM.1
  have hc := hRM.2.2.1.1
  have c6 := hRM.2.2.1.2.1
  have hmu := hRM.2.2.2.2.2.2.1
  refine x_aload_n (pc := 0) cx (dA ddX8_cost (i := 0) rfl) rfl ?_
  refine x_iload_n (pc := 1) cx (dA ddX8_cost (i := 1) rfl) rfl ?_
  refine x_iload_n (pc := 2) cx (dA ddX8_cost (i := 2) rfl) rfl ?_
  refine x_V2 (pc := 3) mX8_239 h0 (c_X8_isLeft_a hRM) cx (dA ddX8_cost (i := 3) rfl) (kI ?_)
  refine x_if_eq (pc := 6) (tgt := 18) cx (dA ddX8_cost (i := 4) rfl) (by decide) (fun c6 => ?_) (fun c6 => ?_)
  · have c6 := b2i_eq c6
    refine x_aload_n (pc := 18) cx (dA ddX8_cost (i := 10) rfl) rfl ?_
    refine x_bipush (pc := 19) (v := -2) cx (dA ddX8_cost (i := 11) rfl) (by decide) ?_
    refine x_V1 (pc := 21) mX8_119 h0 (c_X8_refuse hM (i := 0) (by decide) rfl) cx (dA ddX8_cost (i := 12) rfl) (kI ?_)
    refine x_i2l (pc := 24) cx (dA ddX8_cost (i := 13) rfl) ?_
    refine x_lreturn (pc := 25) cx (dA ddX8_cost (i := 14) rfl) (by first | exact Nat.le_of_ble_eq_true rfl | omega) (by first | exact Nat.le_of_ble_eq_true rfl | omega) ?_
    first | exact pMJ.r hRM (by decide) (if_neg (fun q => c6 ⟨q.1, q.2.1⟩))
  · have c6 := b2i_ne c6
    obtain ⟨ch, cl⟩ := c6
    obtain ⟨i, hi, rfl, ti⟩ := i32_in ch
    obtain ⟨hR, hN⟩ := hRM.2.2.1.2.2.1 i hi
    have hB := hN.1
    have b4 := hB.1
    have n125 := st125 b4
    have h06 := hN.2.1
    have hh : i < 8 := by omega
    have cl2 : okl (S.1.2.1 i) d := by rw [← ti]; exact cl
    obtain ⟨d, hd, rfl, td⟩ := i32_in (x := d) (n := S.1.2.1 i 0 + 1) ⟨cl2.1, by have := cl2.2; omega⟩
    refine x_aload_n (pc := 9) cx (dA ddX8_cost (i := 5) rfl) rfl ?_
    refine x_iload_n (pc := 10) cx (dA ddX8_cost (i := 6) rfl) rfl ?_
    refine x_iload_n (pc := 11) cx (dA ddX8_cost (i := 7) rfl) rfl ?_
    refine x_V2 (pc := 12) mX8_233 h0 (c_X8_isState_a hRM) cx (dA ddX8_cost (i := 8) rfl) (kI ?_)
    refine x_if_ne (pc := 15) (tgt := 26) cx (dA ddX8_cost (i := 9) rfl) (by decide) (fun c15 => ?_) (fun c15 => ?_)
    · have c15 := b2i_ne c15
      obtain ⟨ch, ct⟩ := c15
      have ct2 : okt (S.1.2.1 i) t := by rw [← ti]; exact ct
      obtain ⟨t, ht, rfl, tt⟩ := i32_in ct2
      refine x_aload_n (pc := 26) cx (dA ddX8_cost (i := 15) rfl) rfl ?_
      refine x_iload_n (pc := 27) cx (dA ddX8_cost (i := 16) rfl) rfl ?_
      refine x_V1 (pc := 28) mX8_264 h0 (c_X8_findBest hM hh hR hB hN (mu := 0) (hmu_0 hmu)) cx (dA ddX8_cost (i := 17) rfl) (kVx fun V2 hF => ?_)
      refine x_aload_n (pc := 31) cx (dA ddX8_cost (i := 18) rfl) rfl ?_
      refine gX8_55 (pc := 32) (rfA hM.2.2.2.2.2.2.2.2.2.2.2.2.2.1.1) cx (dA ddX8_cost (i := 19) rfl) h0 ?_
      refine x_iload_n (pc := 35) cx (dA ddX8_cost (i := 20) rfl) rfl ?_
      refine x_aaload (pc := 36) cx (dA ddX8_cost (i := 21) rfl) hM.2.2.2.2.2.2.2.2.2.2.2.2.2.1.2.1 (by decide) (by decide) (by omega) (by decide) ?_
      rw [arA (hM.2.2.2.2.2.2.2.2.2.2.2.2.2.1.2.2 d (by omega)).1]
      refine x_iload_n (pc := 37) cx (dA ddX8_cost (i := 22) rfl) rfl ?_
      refine x_laload (pc := 38) cx (dA ddX8_cost (i := 23) rfl) (hM.2.2.2.2.2.2.2.2.2.2.2.2.2.1.2.2 d (by omega)).2 (by omega) (by decide) ?_
      rw [(hF.2.2 d (by omega) t ht).1, mcM_cst]
      refine x_lreturn (pc := 39) cx (dA ddX8_cost (i := 24) rfl) (by first | exact Nat.le_of_ble_eq_true rfl | omega) (by first | exact Nat.le_of_ble_eq_true rfl | omega) ?_
      exact pMJ.q hRM (MF.of hF.1 (by omega) (by omega)) (by unfold fCost; rw [if_pos ⟨ch, cl, ct⟩]; simp only [hX, ti, td, tt])
    · have c15 := b2i_eq c15
      refine x_aload_n (pc := 18) cx (dA ddX8_cost (i := 10) rfl) rfl ?_
      refine x_bipush (pc := 19) (v := -2) cx (dA ddX8_cost (i := 11) rfl) (by decide) ?_
      refine x_V1 (pc := 21) mX8_119 h0 (c_X8_refuse hM (i := 0) (by decide) rfl) cx (dA ddX8_cost (i := 12) rfl) (kI ?_)
      refine x_i2l (pc := 24) cx (dA ddX8_cost (i := 13) rfl) ?_
      refine x_lreturn (pc := 25) cx (dA ddX8_cost (i := 14) rfl) (by first | exact Nat.le_of_ble_eq_true rfl | omega) (by first | exact Nat.le_of_ble_eq_true rfl | omega) ?_
      first | exact pMJ.r hRM (by decide) (if_neg (fun q => c15 ⟨q.1, q.2.2⟩))
theorem c_X8_best {l : Launch} {Z : zP} {G : zG} {V : zV} {y : Nat} {zk : Option Nat} {S : SX} (hRM : RM Z G V y zk S) {h d t : Int32} : CT l Z yX8_best cX8_best 4 (some .int) 5 0 0 [.ref y, .int h, .int d, .int t] G V (pMI Z G V y zk (fBest S h d t)) := by
  refine CT.of (by decide +kernel) (Nat.le_of_ble_eq_true rfl) (fun X hX cx => ?_)
  subst hX
  show Wm Z X 4 G V 0 0 _ 0 [(0, some (.ref y)), (1, some (.int h)), (2, some (.int d)), (3, some (.int t))] []
  have hM := hRM.1
  have h0 := hM.1
  have hc := hRM.2.2.1.1
  have c6 := hRM.2.2.1.2.1
  have hmu := hRM.2.2.2.2.2.2.1
  refine x_aload_n (pc := 0) cx (dA ddX8_best (i := 0) rfl) rfl ?_
  refine x_iload_n (pc := 1) cx (dA ddX8_best (i := 1) rfl) rfl ?_
  refine x_iload_n (pc := 2) cx (dA ddX8_best (i := 2) rfl) rfl ?_
  refine x_V2 (pc := 3) mX8_239 h0 (c_X8_isLeft_a hRM) cx (dA ddX8_best (i := 3) rfl) (kI ?_)
  refine x_if_eq (pc := 6) (tgt := 22) cx (dA ddX8_best (i := 4) rfl) (by decide) (fun c6 => ?_) (fun c6 => ?_)
  · have c6 := b2i_eq c6
    refine x_aload_n (pc := 22) cx (dA ddX8_best (i := 12) rfl) rfl ?_
    refine x_bipush (pc := 23) (v := -2) cx (dA ddX8_best (i := 13) rfl) (by decide) ?_
    refine x_V1 (pc := 25) mX8_119 h0 (c_X8_refuse hM (i := 0) (by decide) rfl) cx (dA ddX8_best (i := 14) rfl) (kI ?_)
    refine x_ireturn (pc := 28) cx (dA ddX8_best (i := 15) rfl) (by first | exact Nat.le_of_ble_eq_true rfl | omega) (by first | exact Nat.le_of_ble_eq_true rfl | omega) ?_
    first | exact pMI.r hRM (by decide) (if_neg (fun q => c6 ⟨q.1, ⟨by have := q.2.1.1; omega, q.2.1.2⟩⟩))
  · have c6 := b2i_ne c6
    obtain ⟨ch, cl⟩ := c6
    obtain ⟨i, hi, rfl, ti⟩ := i32_in ch
    obtain ⟨hR, hN⟩ := hRM.2.2.1.2.2.1 i hi
    have hB := hN.1
    have b4 := hB.1
    have n125 := st125 b4
    have h06 := hN.2.1
    have hh : i < 8 := by omega
    have cl2 : okl (S.1.2.1 i) d := by rw [← ti]; exact cl
    obtain ⟨d, hd, rfl, td⟩ := i32_in (x := d) (n := S.1.2.1 i 0 + 1) ⟨cl2.1, by have := cl2.2; omega⟩
    refine x_iload_n (pc := 9) cx (dA ddX8_best (i := 5) rfl) rfl ?_
    refine x_if_eq (pc := 10) (tgt := 22) cx (dA ddX8_best (i := 6) rfl) (by decide) (fun c10 => ?_) (fun c10 => ?_)
    · have z0 : d = 0 := nI_inj (b := 0) (by omega) (by decide) c10
      refine x_aload_n (pc := 22) cx (dA ddX8_best (i := 12) rfl) rfl ?_
      refine x_bipush (pc := 23) (v := -2) cx (dA ddX8_best (i := 13) rfl) (by decide) ?_
      refine x_V1 (pc := 25) mX8_119 h0 (c_X8_refuse hM (i := 0) (by decide) rfl) cx (dA ddX8_best (i := 14) rfl) (kI ?_)
      refine x_ireturn (pc := 28) cx (dA ddX8_best (i := 15) rfl) (by first | exact Nat.le_of_ble_eq_true rfl | omega) (by first | exact Nat.le_of_ble_eq_true rfl | omega) ?_
      first | exact pMI.r hRM (by decide) (if_neg (fun q => by have := q.2.1.1; rw [z0, nI_toInt (by decide)] at this; omega))
    · have d0 : d ≠ 0 := fun e => c10 (by rw [e]; rfl)
      have cl1 : okl1 (hX S (nI i)) (nI d) := ⟨by rw [nI_toInt (by omega)]; omega, cl.2⟩
      refine x_aload_n (pc := 13) cx (dA ddX8_best (i := 7) rfl) rfl ?_
      refine x_iload_n (pc := 14) cx (dA ddX8_best (i := 8) rfl) rfl ?_
      refine x_iload_n (pc := 15) cx (dA ddX8_best (i := 9) rfl) rfl ?_
      refine x_V2 (pc := 16) mX8_233 h0 (c_X8_isState_a hRM) cx (dA ddX8_best (i := 10) rfl) (kI ?_)
      refine x_if_ne (pc := 19) (tgt := 29) cx (dA ddX8_best (i := 11) rfl) (by decide) (fun c19 => ?_) (fun c19 => ?_)
      · have c19 := b2i_ne c19
        obtain ⟨ch, ct⟩ := c19
        have ct2 : okt (S.1.2.1 i) t := by rw [← ti]; exact ct
        obtain ⟨t, ht, rfl, tt⟩ := i32_in ct2
        refine x_aload_n (pc := 29) cx (dA ddX8_best (i := 16) rfl) rfl ?_
        refine x_iload_n (pc := 30) cx (dA ddX8_best (i := 17) rfl) rfl ?_
        refine x_V1 (pc := 31) mX8_264 h0 (c_X8_findBest hM hh hR hB hN (mu := 0) (hmu_0 hmu)) cx (dA ddX8_best (i := 18) rfl) (kVx fun V2 hF => ?_)
        refine x_aload_n (pc := 34) cx (dA ddX8_best (i := 19) rfl) rfl ?_
        refine gX8_58 (pc := 35) (rfA hM.2.2.2.2.2.2.2.2.2.2.2.2.2.2.1.1) cx (dA ddX8_best (i := 20) rfl) h0 ?_
        refine x_iload_n (pc := 38) cx (dA ddX8_best (i := 21) rfl) rfl ?_
        refine x_aaload (pc := 39) cx (dA ddX8_best (i := 22) rfl) hM.2.2.2.2.2.2.2.2.2.2.2.2.2.2.1.2.1 (by decide) (by decide) (by omega) (by decide) ?_
        rw [arA (hM.2.2.2.2.2.2.2.2.2.2.2.2.2.2.1.2.2 d (by omega)).1]
        refine x_iload_n (pc := 40) cx (dA ddX8_best (i := 23) rfl) rfl ?_
        refine x_iaload (pc := 41) cx (dA ddX8_best (i := 24) rfl) (hM.2.2.2.2.2.2.2.2.2.2.2.2.2.2.1.2.2 d (by omega)).2 (by omega) (by decide) ?_
        rw [(hF.2.2 d (by omega) t ht).2, mlM_ld (by omega)]
        refine x_ireturn (pc := 42) cx (dA ddX8_best (i := 25) rfl) (by first | exact Nat.le_of_ble_eq_true rfl | omega) (by first | exact Nat.le_of_ble_eq_true rfl | omega) ?_
        exact pMI.q hRM (MF.of hF.1 (by omega) (by omega)) (by unfold fBest; rw [if_pos ⟨ch, cl1, ct⟩]; simp only [hX, ti, td, tt])
      · have c19 := b2i_eq c19
        refine x_aload_n (pc := 22) cx (dA ddX8_best (i := 12) rfl) rfl ?_
        refine x_bipush (pc := 23) (v := -2) cx (dA ddX8_best (i := 13) rfl) (by decide) ?_
        refine x_V1 (pc := 25) mX8_119 h0 (c_X8_refuse hM (i := 0) (by decide) rfl) cx (dA ddX8_best (i := 14) rfl) (kI ?_)
        refine x_ireturn (pc := 28) cx (dA ddX8_best (i := 15) rfl) (by first | exact Nat.le_of_ble_eq_true rfl | omega) (by first | exact Nat.le_of_ble_eq_true rfl | omega) ?_
        first | exact pMI.r hRM (by decide) (if_neg (fun q => c19 ⟨q.1, q.2.2⟩))
