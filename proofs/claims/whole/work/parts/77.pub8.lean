theorem wd_w {V V' : zV} {y : Nat} {W : WD} (h : WdM V y W) {d : Int32} {w : WS} (hf : ∀ f, f < 413 → V'.1 f y = V.1 f y) (hr : ∀ i, i < 6 → ∀ j, V'.2.2.1 (y + 29 + 1 + i) j = V.2.2.1 (y + 29 + 1 + i) j) (h13 : V'.1 413 y = d) (h14 : V'.1 414 y = nI 1) (h7 : MH V' y 7 w.1) (hN : HOK w.1) (h8 : MRule V' y 8 w.2.1.1 w.2.1.2.1 w.2.1.2.2.1 w.2.1.2.2.2) (g : V'.1 415 y = nI w.2.2.1 ∧ V'.1 416 y = nI w.2.2.2.1 ∧ V'.1 417 y = nI w.2.2.2.2.1 ∧ V'.1 418 y = nI w.2.2.2.2.2.1 ∧ V'.1 419 y = nI w.2.2.2.2.2.2.1 ∧ V'.1 420 y = nI w.2.2.2.2.2.2.2) (hl : w.2.2.1 ≤ w.1 0) (hs : w.2.2.2.1 < 5 ^ w.1 4) : WdM V' y (W.1, W.2.1, d, some w) := by
  obtain ⟨a, b, c, -, -, -⟩ := h
  refine ⟨(hf _ (by decide)).trans a, b, fun i hi => ⟨fun j hj => (hr i (Nat.lt_of_lt_of_le hi b) j).trans ((c i hi).1 j hj), (c i hi).2⟩, h13, fun e => (by cases e), fun ws hw => ?_⟩
  cases hw
  exact ⟨h14, h7, hN, h8, g, hl, hs⟩
theorem WdM.cp {V V' : zV} {y z : Nat} {W : WD} (h : WdM V z W) (hf : ∀ f, (f = 411 ∨ 413 ≤ f ∧ f ≤ 420) → V'.1 f y = V.1 f z) (hr : ∀ i, i < 8 → ∀ j, j < 20 → V'.2.2.1 (y + 29 + 1 + i) j = V.2.2.1 (z + 29 + 1 + i) j) (h8 : V'.2.2.1 (y + 14) 8 = V.2.2.1 (z + 14) 8 ∧ V'.2.2.1 (y + 15) 8 = V.2.2.1 (z + 15) 8) (ht : ∀ j, j < 125 → V'.2.2.1 (y + 16 + 1 + 8) j = V.2.2.1 (z + 16 + 1 + 8) j) : WdM V' y W := by
  obtain ⟨a, b, c, d, e, f⟩ := h
  refine ⟨(hf _ (by omega)).trans a, b, fun i hi => ⟨fun j hj => (hr i (by omega) j (by have := (c i hi).2.1.1; omega)).trans ((c i hi).1 j hj), (c i hi).2⟩, (hf _ (by omega)).trans d, fun q => (hf _ (by omega)).trans (e q), fun ws hw => ?_⟩
  obtain ⟨f1, f2, f3, ⟨m1, m2, m3, m4, m5, m6, m7⟩, ⟨g1, g2, g3, g4, g5, g6⟩, f6⟩ := f ws hw
  exact ⟨(hf _ (by omega)).trans f1, fun j hj => (hr 7 (by decide) j (by have := f3.1.1; omega)).trans (f2 j hj), f3, ⟨h8.1.trans m1, m2, h8.2.trans m3, m4, m5, m6, fun q i hi => (ht i hi).trans (m7 q i hi)⟩, ⟨(hf _ (by omega)).trans g1, (hf _ (by omega)).trans g2, (hf _ (by omega)).trans g3, (hf _ (by omega)).trans g4, (hf _ (by omega)).trans g5, (hf _ (by omega)).trans g6⟩, f6⟩
/-- a world is taken from another -/
def tfX (V V' : zV) (y z : Nat) : Prop := (∀ W, WdM V z W → WdM V' y W) ∧ (∀ a, a ≠ y → a ≠ y + 14 → a ≠ y + 15 → a ≠ y + 16 + 1 + 8 → (a < y + 30 ∨ y + 38 ≤ a) → same4 V V' a) ∧ (∀ j, j ≠ 8 → V'.2.2.1 (y + 14) j = V.2.2.1 (y + 14) j ∧ V'.2.2.1 (y + 15) j = V.2.2.1 (y + 15) j) ∧ ∀ f, (f < 411 ∨ 420 < f) → V'.1 f y = V.1 f y
theorem tf_X {V V1 : zV} {y z : Nat} (hd : z + 94 ≤ y ∨ y + 94 ≤ z) (h : tfR (sI V 411 y (V.1 411 z)) V1 y z 8) : tfX V (sI (sI (sI (sI (sI (sI (sI (sI (rAI (sAI (sAI V1 (y + 14) 8 (V1.2.2.1 (z + 14) 8)) (y + 15) 8 (V1.2.2.1 (z + 15) 8)) (y + 16 + 1 + 8) 0 125 (fun j => V1.2.2.1 (z + 16 + 1 + 8) j)) 413 y (V1.1 413 z)) 414 y (V1.1 414 z)) 415 y (V1.1 415 z)) 416 y (V1.1 416 z)) 417 y (V1.1 417 z)) 418 y (V1.1 418 z)) 419 y (V1.1 419 z)) 420 y (V1.1 420 z)) y z := by
  have e : ∀ x, x < y + 30 ∨ y + 30 + 8 ≤ x → same4 (sI V 411 y (V.1 411 z)) V1 x := h.1
  have ez : ∀ x, z ≤ x → x < z + 94 → same4 V V1 x := fun x h1 h2 => ((same4.refl V x).sI (by omega)).trans (e x (by omega))
  have ef : ∀ f, f ≠ 411 → V1.1 f y = V.1 f y := fun f hf => ((e y (by omega)).1 f).trans (sI_ne hf)
  refine ⟨fun W hW => hW.cp (fun f hf => ?_) (fun i hi j hj => ?_) ⟨?_, ?_⟩ (fun j hj => ?_), fun a a1 a2 a3 a4 a5 => ?_, fun j hj => ⟨?_, ?_⟩, fun f hf => ?_⟩
  · rcases (show f = 411 ∨ f = 413 ∨ f = 414 ∨ f = 415 ∨ f = 416 ∨ f = 417 ∨ f = 418 ∨ f = 419 ∨ f = 420 by omega) with q | q | q | q | q | q | q | q | q <;> subst q
    · exact (sI_ne (by omega)).trans ((sI_ne (by omega)).trans ((sI_ne (by omega)).trans ((sI_ne (by omega)).trans ((sI_ne (by omega)).trans ((sI_ne (by omega)).trans ((sI_ne (by omega)).trans ((sI_ne (by omega)).trans (((e y (by omega)).1 411).trans sI_eq))))))))
    · exact (sI_ne (by omega)).trans ((sI_ne (by omega)).trans ((sI_ne (by omega)).trans ((sI_ne (by omega)).trans ((sI_ne (by omega)).trans ((sI_ne (by omega)).trans ((sI_ne (by omega)).trans (sI_eq.trans ((ez z (by omega) (by omega)).1 413))))))))
    · exact (sI_ne (by omega)).trans ((sI_ne (by omega)).trans ((sI_ne (by omega)).trans ((sI_ne (by omega)).trans ((sI_ne (by omega)).trans ((sI_ne (by omega)).trans (sI_eq.trans ((ez z (by omega) (by omega)).1 414)))))))
    · exact (sI_ne (by omega)).trans ((sI_ne (by omega)).trans ((sI_ne (by omega)).trans ((sI_ne (by omega)).trans ((sI_ne (by omega)).trans (sI_eq.trans ((ez z (by omega) (by omega)).1 415))))))
    · exact (sI_ne (by omega)).trans ((sI_ne (by omega)).trans ((sI_ne (by omega)).trans ((sI_ne (by omega)).trans (sI_eq.trans ((ez z (by omega) (by omega)).1 416)))))
    · exact (sI_ne (by omega)).trans ((sI_ne (by omega)).trans ((sI_ne (by omega)).trans (sI_eq.trans ((ez z (by omega) (by omega)).1 417))))
    · exact (sI_ne (by omega)).trans ((sI_ne (by omega)).trans (sI_eq.trans ((ez z (by omega) (by omega)).1 418)))
    · exact (sI_ne (by omega)).trans (sI_eq.trans ((ez z (by omega) (by omega)).1 419))
    · exact sI_eq.trans ((ez z (by omega) (by omega)).1 420)
  · exact (rAI_ne (by omega) j).trans ((sAI_ne (by omega)).trans ((sAI_ne (by omega)).trans (h.2 i hi j hj)))
  · exact (rAI_ne (by omega) _).trans ((sAI_ne (by omega)).trans (sAI_eq.trans ((ez _ (by omega) (by omega)).2.2.1 8)))
  · exact (rAI_ne (by omega) _).trans (sAI_eq.trans ((ez _ (by omega) (by omega)).2.2.1 8))
  · exact (rAI_at hj).trans ((ez _ (by omega) (by omega)).2.2.1 j)
  · have s1 : same4 V V1 a := ((same4.refl V a).sI a1).trans (e a (by omega))
    exact (((((((((((s1.sAI a2).sAI a3).rAI a4).sI a1).sI a1).sI a1).sI a1).sI a1).sI a1).sI a1).sI a1)
  · exact (rAI_ne (by omega) j).trans ((sAI_ne (by omega)).trans ((sAI_nj hj).trans ((e _ (by omega)).2.2.1 j)))
  · exact (rAI_ne (by omega) j).trans ((sAI_nj hj).trans ((sAI_ne (by omega)).trans ((e _ (by omega)).2.2.1 j)))
  · exact (sI_ne (by omega)).trans ((sI_ne (by omega)).trans ((sI_ne (by omega)).trans ((sI_ne (by omega)).trans ((sI_ne (by omega)).trans ((sI_ne (by omega)).trans ((sI_ne (by omega)).trans ((sI_ne (by omega)).trans (ef f (by omega)))))))))
theorem tfX.out {V V' : zV} {y z : Nat} (h : tfX V V' y z) : ∀ a, a < y ∨ y + 94 ≤ a → same4 V V' a := fun a ha => h.2.1 a (by omega) (by omega) (by omega) (by omega) (by omega)
theorem RM.bk {Z : zP} {G : zG} {V V' : zV} {y z : Nat} {zk : Option Nat} {S : SX} {W : WD} (h : RM Z G V y zk S) (hX : tfX V V' y z) (hW : WdM V z W) : RM Z G V' y zk (putW S W) := by
  have s := hX.2.1
  refine h.mk' hX.out (hX.1 W hW) (fun q hq => (h.2.2.2.1 q hq).st ((s _ (by omega) (by omega) (by omega) (by omega) (by omega)).2.2.1 q) ((s _ (by omega) (by omega) (by omega) (by omega) (by omega)).2.2.1 q) ((s _ (by omega) (by omega) (by omega) (by omega) (by omega)).2.2.1 q) (fun j => (s _ (by omega) (by omega) (by omega) (by omega) (by omega)).2.2.2 j) (hX.2.2.1 q (by omega)).1 (hX.2.2.1 q (by omega)).2 (fun j => (s _ (by omega) (by omega) (by omega) (by omega) (by omega)).2.2.1 j) ((s _ (by omega) (by omega) (by omega) (by omega) (by omega)).2.2.1 q)) ?_ (fun i hi => ((s _ (by omega) (by omega) (by omega) (by omega) (by omega)).2.2.1 _).trans (h.2.2.2.2.2.1 i hi)) ((hX.2.2.2 439 (by omega)).trans h.2.2.2.2.2.2.1) rfl
  obtain ⟨t1, t2, t3, t4⟩ := h.2.2.2.2.1
  exact ⟨(hX.2.2.2 409 (by omega)).trans t1, fun j hj => ((s _ (by omega) (by omega) (by omega) (by omega) (by omega)).2.2.1 j).trans (t2 j hj), t3, t4⟩
theorem ModelAt.geo {Z : zP} {G G' : zG} {y : Nat} (h : ModelAt Z G y) (ht : G.1 ≤ G'.1) (hs : ∀ a, y ≤ a → a < y + 94 → G'.2.1 a = G.2.1 a ∧ (∀ f, f ≠ 421 → G'.2.2.1 f a = G.2.2.1 f a) ∧ ∀ i, G'.2.2.2 a i = G.2.2.2 a i) : ModelAt Z G' y := by
  have hk : ∀ {a c}, y ≤ a → a < y + 94 → isK Z G a c → isK Z G' a c := fun h1 h2 q => ⟨q.1, Nat.lt_of_lt_of_le q.2.1 ht, by rw [(hs _ h1 h2).1]; exact q.2.2⟩
  have ha : ∀ {a t n}, y ≤ a → a < y + 94 → isA Z G a t n → isA Z G' a t n := fun h1 h2 q => ⟨q.1, Nat.lt_of_lt_of_le q.2.1 ht, by rw [(hs _ h1 h2).1]; exact q.2.2⟩
  have h1 : ∀ {f o t n}, f ≠ 421 → o < 94 → A1 Z G y f o t n → A1 Z G' y f o t n := fun hf ho q => ⟨((hs y (by omega) (by omega)).2.1 _ hf).trans q.1, ha (by omega) (by omega) q.2⟩
  have h2 : ∀ {f o t r n}, f ≠ 421 → o + 1 + r ≤ 94 → A2 Z G y f o t r n → A2 Z G' y f o t r n := fun hf ho q => ⟨((hs y (by omega) (by omega)).2.1 _ hf).trans q.1, ha (by omega) (by omega) q.2.1, fun i hi => ⟨((hs _ (by omega) (by omega)).2.2 i).trans (q.2.2 i hi).1, ha (by omega) (by omega) (q.2.2 i hi).2⟩⟩
  obtain ⟨k, q⟩ := h
  refine ⟨hk (by omega) (by omega) k, ?_⟩
  obtain ⟨b0, b1, b2, b3, b4, b5, b6, b7, b8, b9, b10, b11, b12, b13, b14, b15, b16, b17, b18, b19, b20, b21, b22⟩ := q
  exact ⟨h1 (by decide) (by decide) b0, h1 (by decide) (by decide) b1, h1 (by decide) (by decide) b2, h2 (by decide) (by decide) b3, h1 (by decide) (by decide) b4, h1 (by decide) (by decide) b5, h1 (by decide) (by decide) b6, h2 (by decide) (by decide) b7, h1 (by decide) (by decide) b8, h1 (by decide) (by decide) b9, h2 (by decide) (by decide) b10, h1 (by decide) (by decide) b11, h2 (by decide) (by decide) b12, h2 (by decide) (by decide) b13, h2 (by decide) (by decide) b14, h1 (by decide) (by decide) b15, h2 (by decide) (by decide) b16, h2 (by decide) (by decide) b17, h1 (by decide) (by decide) b18, h1 (by decide) (by decide) b19, h1 (by decide) (by decide) b20, h1 (by decide) (by decide) b21, h2 (by decide) (by decide) b22⟩
/-- what a call of the reference leaves: it, what it keeps; nothing else is touched -/
def pMX (Z : zP) (G : zG) (V : zV) (y : Nat) (zk : Option Nat) (A : Int32 × SX) : Option Value → zG → zV → Prop := fun r G' V' => r = some (.int A.1) ∧ ∃ zk', RM Z G' V' y zk' A.2 ∧ G.1 ≤ G'.1 ∧ (∀ z, zk' = some z → zk = some z ∨ z = G.1) ∧ ∀ a, a < G.1 → (a < y ∨ y + 94 ≤ a) → (∀ z, zk = some z → a < z ∨ z + 94 ≤ a) → sameG G G' a ∧ same4 V V' a
theorem RM.im {Z : zP} {G G' : zG} {V V' : zV} {y z : Nat} {zk : Option Nat} {S : SX} (h : RM Z G V y zk S) (ht : G.1 ≤ G'.1) (hs : ∀ a, a < G.1 → (∀ z, zk = some z → a < z ∨ z + 94 ≤ a) → G'.2.1 a = G.2.1 a ∧ (∀ f, f ≠ 421 → G'.2.2.1 f a = G.2.2.1 f a) ∧ (∀ i, G'.2.2.2 a i = G.2.2.2 a i) ∧ same4 V V' a) (hk : G'.2.2.1 421 y = some z) (hz : ModelAt Z G' z) (z94 : z + 94 ≤ G'.1) (hd : z + 94 ≤ y ∨ y + 94 ≤ z) (hW : WdM V' z S.1) : RM Z G' V' y (some z) (S.1, some S.1, S.2.2) := by
  have hb : ∀ a, y ≤ a → a < y + 94 → ∀ z, zk = some z → a < z ∨ z + 94 ≤ a := fun a h1 h2 z hz => by
    have := (h.2.2.2.2.2.2.2.2 z hz).2.2.2.1
    omega
  have yt := h.2.1
  have q := fun a h1 h2 => hs a (by omega) (hb a h1 h2)
  have s : ∀ a, y ≤ a → a < y + 94 → same4 V V' a := fun a h1 h2 => (q a h1 h2).2.2.2
  refine ⟨h.1.geo ht (fun a h1 h2 => ⟨(q a h1 h2).1, (q a h1 h2).2.1, (q a h1 h2).2.2.1⟩), by omega, h.2.2.1.same s, fun w hw => (h.2.2.2.1 w hw).st ((s _ (by omega) (by omega)).2.2.1 w) ((s _ (by omega) (by omega)).2.2.1 w) ((s _ (by omega) (by omega)).2.2.1 w) (fun j => (s _ (by omega) (by omega)).2.2.2 j) ((s _ (by omega) (by omega)).2.2.1 w) ((s _ (by omega) (by omega)).2.2.1 w) (fun j => (s _ (by omega) (by omega)).2.2.1 j) ((s _ (by omega) (by omega)).2.2.1 w), ?_, fun i hi => ((s _ (by omega) (by omega)).2.2.1 _).trans (h.2.2.2.2.2.1 i hi), ((s y (by omega) (by omega)).1 439).trans h.2.2.2.2.2.2.1, fun e => (by cases e), fun x hx => ?_⟩
  · obtain ⟨t1, t2, t3, t4⟩ := h.2.2.2.2.1
    exact ⟨((s y (by omega) (by omega)).1 409).trans t1, fun j hj => ((s _ (by omega) (by omega)).2.2.1 j).trans (t2 j hj), t3, t4⟩
  · cases hx
    exact ⟨hk, hz, z94, hd, S.1, rfl, hW⟩
theorem C_X8_back_n {l : Launch} {Z : zP} {G : zG} {V : zV} {y : Nat} {zk : Option Nat} {S : SX} (hRM : RM Z G V y zk S) (hz : zk = none) : CT l Z yX8_back cX8_back 1 (some .int) 1 0 0 [.ref y] G V (pMI Z G V y zk (fBack S)) := by
  refine CT.of (by decide +kernel) (Nat.le_of_ble_eq_true rfl) (fun X hX cx => ?_)
  subst hX
  show Wm Z X 1 G V 0 0 _ 0 [(0, some (.ref y))] []
  have hM := hRM.1
  have h0 := hM.1
  have hc := hRM.2.2.1.1
  have c6 := hRM.2.2.1.2.1
  have hmu := hRM.2.2.2.2.2.2.1
  have hk := hRM.2.2.2.2.2.2.2.1 hz
  refine x_aload_n (pc := 0) cx (dA ddX8_back (i := 0) rfl) rfl ?_
  refine gX8_372 (pc := 1) ((by show va_rf (G.2.2.1 421 y) = .null; rw [hk.1]; rfl)) cx (dA ddX8_back (i := 1) rfl) h0 ?_
  refine x_ifnonnull_n (pc := 4) cx (dA ddX8_back (i := 2) rfl) ?_
  refine x_aload_n (pc := 7) cx (dA ddX8_back (i := 3) rfl) rfl ?_
  refine x_bipush (pc := 8) (v := -5) cx (dA ddX8_back (i := 4) rfl) (by decide) ?_
  refine x_V1 (pc := 10) mX8_119 h0 (c_X8_refuse hM (i := 3) (by decide) rfl) cx (dA ddX8_back (i := 5) rfl) (kI ?_)
  refine x_ireturn (pc := 13) cx (dA ddX8_back (i := 6) rfl) (by first | exact Nat.le_of_ble_eq_true rfl | omega) (by first | exact Nat.le_of_ble_eq_true rfl | omega) ?_
  exact pMI.r hRM (by decide) (by unfold fBack; rw [hk.2])
theorem C_X8_back_s {l : Launch} {Z : zP} {G : zG} {V : zV} {y : Nat} {zk : Option Nat} {S : SX} (hRM : RM Z G V y zk S) {z : Nat} (hz : zk = some z) : CT l Z yX8_back cX8_back 1 (some .int) 1 0 0 [.ref y] G V (pMI Z G V y zk (fBack S)) := by
  refine CT.of (by decide +kernel) (Nat.le_of_ble_eq_true rfl) (fun X hX cx => ?_)
  subst hX
  show Wm Z X 1 G V 0 0 _ 0 [(0, some (.ref y))] []
  have hM := hRM.1
  have h0 := hM.1
  have hc := hRM.2.2.1.1
  have c6 := hRM.2.2.1.2.1
  have hmu := hRM.2.2.2.2.2.2.1
  have hk := hRM.2.2.2.2.2.2.2.2 z hz
  refine x_aload_n (pc := 0) cx (dA ddX8_back (i := 0) rfl) rfl ?_
  refine gX8_372 (pc := 1) (rfA hk.1) cx (dA ddX8_back (i := 1) rfl) h0 ?_
  refine x_ifnonnull_s (pc := 4) (tgt := 14) cx (dA ddX8_back (i := 2) rfl) (by decide) ?_
  refine x_aload_n (pc := 14) cx (dA ddX8_back (i := 7) rfl) rfl ?_
  refine x_aload_n (pc := 15) cx (dA ddX8_back (i := 8) rfl) rfl ?_
  refine gX8_372 (pc := 16) (rfA hk.1) cx (dA ddX8_back (i := 9) rfl) h0 ?_
  refine x_V1 (pc := 19) mX8_377 h0 (c_X8_takeFrom hM hk.2.1 hk.2.2.2.1) cx (dA ddX8_back (i := 10) rfl) (kVx fun V2 h2 => ?_)
  obtain ⟨V1, h1, e2⟩ := h2
  have hX := tf_X hk.2.2.2.1 h1
  rw [← e2] at hX
  obtain ⟨W, hW, hWd⟩ := hk.2.2.2.2
  refine x_iconst (pc := 22) (v := nI 1) cx (dA ddX8_back (i := 11) rfl) (by decide) ?_
  refine x_ireturn (pc := 23) cx (dA ddX8_back (i := 12) rfl) (by first | exact Nat.le_of_ble_eq_true rfl | omega) (by first | exact Nat.le_of_ble_eq_true rfl | omega) ?_
  exact pMI.m (by unfold fBack; rw [hW]; rfl) ⟨hRM.bk hX hWd, hX.out⟩
theorem C_X8_image_s {l : Launch} {Z : zP} {G : zG} {V : zV} {y : Nat} {zk : Option Nat} {S : SX} (hRM : RM Z G V y zk S) {z : Nat} (hz : zk = some z) : CT l Z yX8_image cX8_image 1 (some .int) 2 93 8835 [.ref y] G V (pMX Z G V y zk (fImage S)) := by
  refine CT.of (by decide +kernel) (Nat.le_of_ble_eq_true rfl) (fun X hX cx => ?_)
  subst hX
  show Wm Z X 1 G V 0 0 _ 0 [(0, some (.ref y))] []
  have hM := hRM.1
  have h0 := hM.1
  have hc := hRM.2.2.1.1
  have c6 := hRM.2.2.1.2.1
  have hmu := hRM.2.2.2.2.2.2.1
  have hk := hRM.2.2.2.2.2.2.2.2 z hz
  have hdis := hk.2.2.2.1
  refine x_aload_n (pc := 0) cx (dA ddX8_image (i := 0) rfl) rfl ?_
  refine gX8_372 (pc := 1) (rfA hk.1) cx (dA ddX8_image (i := 1) rfl) h0 ?_
  refine x_ifnonnull_s (pc := 4) (tgt := 18) cx (dA ddX8_image (i := 2) rfl) (by decide) ?_
  refine x_aload_n (pc := 18) cx (dA ddX8_image (i := 8) rfl) rfl ?_
  refine gX8_372 (pc := 19) (rfA hk.1) cx (dA ddX8_image (i := 9) rfl) h0 ?_
  refine x_aload_n (pc := 22) cx (dA ddX8_image (i := 10) rfl) rfl ?_
  refine x_V1 (pc := 23) mX8_377 hk.2.1.1 (c_X8_takeFrom hk.2.1 hM (by omega)) cx (dA ddX8_image (i := 11) rfl) (kVx fun V2 h2 => ?_)
  obtain ⟨V1, h1, e2⟩ := h2
  have hX := tf_X (by omega) h1
  rw [← e2] at hX
  refine x_iconst (pc := 26) (v := nI 1) cx (dA ddX8_image (i := 12) rfl) (by decide) ?_
  refine x_ireturn (pc := 27) cx (dA ddX8_image (i := 13) rfl) (by first | exact Nat.le_of_ble_eq_true rfl | omega) (by first | exact Nat.le_of_ble_eq_true rfl | omega) ?_
  refine ⟨rfl, some z, hRM.im (Nat.le_refl _) (fun a _ ha => ⟨rfl, fun _ _ => rfl, fun _ => rfl, hX.out a (ha z hz)⟩) hk.1 hk.2.1 hk.2.2.1 hdis (hX.1 _ hRM.2.2.1), Nat.le_refl _, fun w hw => Or.inl (hz.trans hw), fun a _ _ ha => ⟨sameG.refl G a, hX.out a (ha z hz)⟩⟩
theorem C_X8_image_n {l : Launch} {Z : zP} {G : zG} {V : zV} {y : Nat} {zk : Option Nat} {S : SX} (hRM : RM Z G V y zk S) (hz : zk = none) : CT l Z yX8_image cX8_image 1 (some .int) 2 94 8900 [.ref y] G V (pMX Z G V y zk (fImage S)) := by
  refine CT.of (by decide +kernel) (Nat.le_of_ble_eq_true rfl) (fun X hX cx => ?_)
  subst hX
  show Wm Z X 1 G V 0 0 _ 0 [(0, some (.ref y))] []
  have hM := hRM.1
  have h0 := hM.1
  have hc := hRM.2.2.1.1
  have c6 := hRM.2.2.1.2.1
  have hmu := hRM.2.2.2.2.2.2.1
  have hk := hRM.2.2.2.2.2.2.2.1 hz
  refine x_aload_n (pc := 0) cx (dA ddX8_image (i := 0) rfl) rfl ?_
  refine gX8_372 (pc := 1) ((by show va_rf (G.2.2.1 421 y) = .null; rw [hk.1]; rfl)) cx (dA ddX8_image (i := 1) rfl) h0 ?_
  refine Wm.top fun hZ _ => ?_
  refine x_ifnonnull_n (pc := 4) cx (dA ddX8_image (i := 2) rfl) ?_
  refine x_aload_n (pc := 7) cx (dA ddX8_image (i := 3) rfl) rfl ?_
  refine nX8_8 (pc := 8) cx (dA ddX8_image (i := 4) rfl) ?_
  refine x_dup (pc := 11) cx rfl (dA ddX8_image (i := 5) rfl) ?_
  refine x_I0 (pc := 12) mX8_376 (c_X8_init (y := G.1) (isK_new (n := 0) hZ rfl) rfl) cx (dA ddX8_image (i := 6) rfl) (kVg fun G2 V2 h2 => ?_)
  obtain ⟨t2, s2, hM2, e2⟩ := h2
  have yt := hRM.2.1
  have sy : ∀ a, a < G.1 → sameG G G2 a := fun a ha => ((sameG.refl G a).nG ha).trans (s2 a ha)
  have k2 : isK Z G2 y 8 := h0.geo (by omega) (sy y (by omega))
  have sv : ∀ a, a < G.1 → same4 V V2 a := fun a ha => by rw [e2]; exact ((same4.refl V a).sI (by omega)).sI (by omega)
  have gG : ∀ a, a < G.1 → (sR G2 421 y (some G.1)).2.1 a = G.2.1 a ∧ (∀ f, f ≠ 421 → (sR G2 421 y (some G.1)).2.2.1 f a = G.2.2.1 f a) ∧ ∀ i, (sR G2 421 y (some G.1)).2.2.2 a i = G.2.2.2 a i := fun a ha => ⟨(sy a ha).1, fun f hf => (sR_ne hf).trans ((sy a ha).2.1 f), (sy a ha).2.2⟩
  have hMy : ModelAt Z (sR G2 421 y (some G.1)) y := hM.geo (show G.1 ≤ G2.1 by omega) (fun a h1 h2 => gG a (by omega))
  have hMz : ModelAt Z (sR G2 421 y (some G.1)) G.1 := hM2.geo (Nat.le_refl _) (fun a h1 h2 => ⟨rfl, fun f hf => sR_ne hf, fun _ => rfl⟩)
  refine pX8_372 (pc := 15) (x := some G.1) cx (dA ddX8_image (i := 7) rfl) k2 ?_
  refine x_aload_n (pc := 18) cx (dA ddX8_image (i := 8) rfl) rfl ?_
  refine gX8_372 (pc := 19) (rfA sR_eq) cx (dA ddX8_image (i := 9) rfl) hMy.1 ?_
  refine x_aload_n (pc := 22) cx (dA ddX8_image (i := 10) rfl) rfl ?_
  refine x_V1 (pc := 23) mX8_377 hMz.1 (c_X8_takeFrom hMz hMy (by omega)) cx (dA ddX8_image (i := 11) rfl) (kVx fun V3 h3 => ?_)
  obtain ⟨V1, h1, e3⟩ := h3
  have hX := tf_X (by omega) h1
  rw [← e3] at hX
  refine x_iconst (pc := 26) (v := nI 1) cx (dA ddX8_image (i := 12) rfl) (by decide) ?_
  refine x_ireturn (pc := 27) cx (dA ddX8_image (i := 13) rfl) (by first | exact Nat.le_of_ble_eq_true rfl | omega) (by first | exact Nat.le_of_ble_eq_true rfl | omega) ?_
  have s3 : ∀ a, a < G.1 → same4 V V3 a := fun a ha => (sv a ha).trans (hX.out a (by omega))
  have w2 : WdM V2 y S.1 := hRM.2.2.1.same (fun a h1 h2 => sv a (by omega))
  refine ⟨rfl, some G.1, hRM.im (show G.1 ≤ G2.1 by omega) (fun a ha _ => ⟨(gG a ha).1, (gG a ha).2.1, (gG a ha).2.2, s3 a ha⟩) sR_eq hMz (show G.1 + 94 ≤ G2.1 by omega) (by omega) (hX.1 _ w2), (show G.1 ≤ G2.1 by omega), fun w hw => Or.inr (Option.some.inj hw).symm, fun a ha hy _ => ⟨(sy a ha).sR (by omega), s3 a ha⟩⟩
theorem c_X8_begin {l : Launch} {Z : zP} {G : zG} {V : zV} {y : Nat} {zk : Option Nat} {S : SX} (hRM : RM Z G V y zk S) {h r : Int32} : CT l Z yX8_begin cX8_begin 5 (some .int) 3 0 0 [.ref y, .int h, .int r] G V (pMI Z G V y zk (fBegin S h r)) := by
  refine CT.of (by decide +kernel) (Nat.le_of_ble_eq_true rfl) (fun X hX cx => ?_)
  subst hX
  show Wm Z X 5 G V 0 0 _ 0 [(0, some (.ref y)), (1, some (.int h)), (2, some (.int r))] []
  have hM := hRM.1
  have h0 := hM.1
  have hc := hRM.2.2.1.1
  have c6 := hRM.2.2.1.2.1
  have hmu := hRM.2.2.2.2.2.2.1
  refine x_aload_n (pc := 0) cx (dA ddX8_begin (i := 0) rfl) rfl ?_
  refine x_iload_n (pc := 1) cx (dA ddX8_begin (i := 1) rfl) rfl ?_
  refine x_V1 (pc := 2) mX8_106 h0 (c_X8_isHouse hM hc c6) cx (dA ddX8_begin (i := 2) rfl) (kI ?_)
  refine x_if_eq (pc := 5) (tgt := 20) cx (dA ddX8_begin (i := 3) rfl) (by decide) (fun c5 => ?_) (fun c5 => ?_)
  · have c5 : ¬ okc S h := b2i_eq c5
    refine x_aload_n (pc := 20) cx (dA ddX8_begin (i := 10) rfl) rfl ?_
    refine x_bipush (pc := 21) (v := -2) cx (dA ddX8_begin (i := 11) rfl) (by decide) ?_
    refine x_V1 (pc := 23) mX8_119 h0 (c_X8_refuse hM (i := 0) (by decide) rfl) cx (dA ddX8_begin (i := 12) rfl) (kI ?_)
    refine x_ireturn (pc := 26) cx (dA ddX8_begin (i := 13) rfl) (by first | exact Nat.le_of_ble_eq_true rfl | omega) (by first | exact Nat.le_of_ble_eq_true rfl | omega) ?_
    first | exact pMI.r hRM (by decide) (if_neg (fun q => c5 q.1))
  · have ch : okc S h := b2i_ne c5
    obtain ⟨i, hi, rfl, ti⟩ := i32_in ch
    obtain ⟨hR, hN⟩ := hRM.2.2.1.2.2.1 i hi
    have hB := hN.1
    have b4 := hB.1
    have n125 := st125 b4
    have h06 := hN.2.1
    have hh : i < 8 := by omega
    refine x_iload_n (pc := 8) cx (dA ddX8_begin (i := 4) rfl) rfl ?_
    refine x_i2l (pc := 9) cx (dA ddX8_begin (i := 5) rfl) ?_
    refine x_lconst (pc := 10) (v := lN 0) cx (dA ddX8_begin (i := 6) rfl) rfl ?_
    refine x_ldc2 (pc := 11) cx klX8_113 (dA ddX8_begin (i := 7) rfl) ?_
    refine x_S3 (pc := 14) mX8_94 c_X8_in cx (dA ddX8_begin (i := 8) rfl) (kI ?_)
    rw [l0_toInt, tl_toInt, show (lN 7).toInt = 7 from rfl]
    refine x_if_ne (pc := 17) (tgt := 27) cx (dA ddX8_begin (i := 9) rfl) (by decide) (fun c17 => ?_) (fun c17 => ?_)
    · have cr := b2i_ne c17
      obtain ⟨r, hr, rfl, tr⟩ := i32_in (x := r) (n := 8) ⟨cr.1, by have := cr.2; omega⟩
      have cr : oks (nI r) := ⟨cr.1, by have := cr.2; omega⟩
      refine x_aload_n (pc := 27) cx (dA ddX8_begin (i := 14) rfl) rfl ?_
      refine x_iload_n (pc := 28) cx (dA ddX8_begin (i := 15) rfl) rfl ?_
      refine x_V1 (pc := 29) mX8_271 h0 (c_X8_noRule hRM hr) cx (dA ddX8_begin (i := 16) rfl) (kE fun x V2 hx => ?_)
      refine x_istore_n (pc := 32) cx (dA ddX8_begin (i := 17) rfl) (by decide) rfl ?_
      refine x_iload_n (pc := 33) cx (dA ddX8_begin (i := 18) rfl) rfl ?_
      refine x_if_eq (pc := 34) (tgt := 39) cx (dA ddX8_begin (i := 19) rfl) (by decide) (fun c34 => ?_) (fun c34 => ?_)
      · obtain ⟨-, eV, q, hq⟩ := hx.resolve_right (fun h => by rcases h with ⟨e, -⟩ | ⟨e, -⟩ <;> rw [e] at c34 <;> exact absurd c34 (by decide))
        have eV := eV.symm
        subst eV
        have hR5 := ((hRM.2.2.2.1 r hr).2.2 q hq).2.1
        have hs : shX S (nI r) = some (.inr q) := (shX_at hr).trans hq
        refine x_iconst (pc := 39) (v := nI 0) cx (dA ddX8_begin (i := 22) rfl) (by decide) ?_
        refine x_istore (pc := 40) cx (dA ddX8_begin (i := 23) rfl) (by decide) rfl ?_
        have L42 : ∀ j, j ≤ 20 → Wm Z X 5 G (rAI V (y + 29 + 1 + 7) 0 j (fun j => V.2.2.1 (y + 29 + 1 + i) j)) 0 0 (rQ Z X 0 0 (pMI Z G V y zk (fBegin S (nI i) (nI r)))) 42 [(0, some (.ref y)), (1, some (.int (nI i))), (2, some (.int (nI r))), (4, some (.int (nI j)))] [] := by
          refine lpU 20 (fun j hj ih => ?_)
          refine x_iload (pc := 42) cx (dA ddX8_begin (i := 24) rfl) rfl ?_
          refine x_bipush (pc := 44) (v := nI 20) cx (dA ddX8_begin (i := 25) rfl) (by decide) ?_
          refine x_icmp_ge (pc := 46) (tgt := 74) cx (dA ddX8_begin (i := 26) rfl) (by decide) (fun c46 => ?_) (fun c46 => ?_)
          · have c46 := cleT (by omega) (by omega) c46
            have ej : j = 20 := by omega
            subst ej
            refine x_aload_n (pc := 74) cx (dA ddX8_begin (i := 41) rfl) rfl ?_
            refine gX8_28 (pc := 75) (rfA hM.2.2.2.2.2.2.1.1) cx (dA ddX8_begin (i := 42) rfl) h0 ?_
            refine x_bipush (pc := 78) (v := nI 8) cx (dA ddX8_begin (i := 43) rfl) (by decide) ?_
            refine x_aload_n (pc := 80) cx (dA ddX8_begin (i := 44) rfl) rfl ?_
            refine gX8_28 (pc := 81) (rfA hM.2.2.2.2.2.2.1.1) cx (dA ddX8_begin (i := 45) rfl) h0 ?_
            refine x_iload_n (pc := 84) cx (dA ddX8_begin (i := 46) rfl) rfl ?_
            refine x_iaload (pc := 85) cx (dA ddX8_begin (i := 47) rfl) hM.2.2.2.2.2.2.1.2 (by omega) (by decide) ?_
            rw [show (rAI V (y + 29 + 1 + 7) 0 20 (fun j => V.2.2.1 (y + 29 + 1 + i) j)).2.2.1 (y + 14) r = nI q.1 from (rAI_ne (by omega) _).trans hR5.1]
            refine x_iastore (pc := 86) cx (dA ddX8_begin (i := 48) rfl) hM.2.2.2.2.2.2.1.2 (by omega) (by decide) ?_
            refine x_aload_n (pc := 87) cx (dA ddX8_begin (i := 49) rfl) rfl ?_
            refine gX8_31 (pc := 88) (rfA hM.2.2.2.2.2.2.2.1.1) cx (dA ddX8_begin (i := 50) rfl) h0 ?_
            refine x_bipush (pc := 91) (v := nI 8) cx (dA ddX8_begin (i := 51) rfl) (by decide) ?_
            refine x_aload_n (pc := 93) cx (dA ddX8_begin (i := 52) rfl) rfl ?_
            refine gX8_31 (pc := 94) (rfA hM.2.2.2.2.2.2.2.1.1) cx (dA ddX8_begin (i := 53) rfl) h0 ?_
            refine x_iload_n (pc := 97) cx (dA ddX8_begin (i := 54) rfl) rfl ?_
            refine x_iaload (pc := 98) cx (dA ddX8_begin (i := 55) rfl) hM.2.2.2.2.2.2.2.1.2 (by omega) (by decide) ?_
            rw [show (sAI (rAI V (y + 29 + 1 + 7) 0 20 (fun j => V.2.2.1 (y + 29 + 1 + i) j)) (y + 14) 8 (nI q.1)).2.2.1 (y + 15) r = nI q.2.1 from (sAI_ne (by omega)).trans ((rAI_ne (by omega) _).trans hR5.2.2.1)]
            refine x_iastore (pc := 99) cx (dA ddX8_begin (i := 56) rfl) hM.2.2.2.2.2.2.2.1.2 (by omega) (by decide) ?_
            refine x_iconst (pc := 100) (v := nI 0) cx (dA ddX8_begin (i := 57) rfl) (by decide) ?_
            refine x_istore (pc := 101) cx (dA ddX8_begin (i := 58) rfl) (by decide) rfl ?_
            have L103 : ∀ j, j ≤ 125 → Wm Z X 5 G (rAI (sAI (sAI (rAI V (y + 29 + 1 + 7) 0 20 (fun j => V.2.2.1 (y + 29 + 1 + i) j)) (y + 14) 8 (nI q.1)) (y + 15) 8 (nI q.2.1)) (y + 16 + 1 + 8) 0 j (fun j => V.2.2.1 (y + 16 + 1 + r) j)) 0 0 (rQ Z X 0 0 (pMI Z G V y zk (fBegin S (nI i) (nI r)))) 103 [(0, some (.ref y)), (1, some (.int (nI i))), (2, some (.int (nI r))), (4, some (.int (nI j)))] [] := by
              refine lpU 125 (fun j hj ih2 => ?_)
              refine x_iload (pc := 103) cx (dA ddX8_begin (i := 59) rfl) rfl ?_
              refine x_bipush (pc := 105) (v := nI 125) cx (dA ddX8_begin (i := 60) rfl) (by decide) ?_
              refine x_icmp_ge (pc := 107) (tgt := 135) cx (dA ddX8_begin (i := 61) rfl) (by decide) (fun c107 => ?_) (fun c107 => ?_)
              · have c107 := cleT (by omega) (by omega) c107
                have ej : j = 125 := by omega
                subst ej
                refine x_aload_n (pc := 135) cx (dA ddX8_begin (i := 76) rfl) rfl ?_
                refine x_iconst (pc := 136) (v := nI 1) cx (dA ddX8_begin (i := 77) rfl) (by decide) ?_
                refine pX8_346 (pc := 137)  cx (dA ddX8_begin (i := 78) rfl) h0 ?_
                refine x_aload_n (pc := 140) cx (dA ddX8_begin (i := 79) rfl) rfl ?_
                refine x_aload_n (pc := 141) cx (dA ddX8_begin (i := 80) rfl) rfl ?_
                refine gX8_45 (pc := 142) (rfA hM.2.2.2.2.2.2.2.2.2.2.2.1.1) cx (dA ddX8_begin (i := 81) rfl) h0 ?_
                refine x_iload_n (pc := 145) cx (dA ddX8_begin (i := 82) rfl) rfl ?_
                refine x_aaload (pc := 146) cx (dA ddX8_begin (i := 83) rfl) hM.2.2.2.2.2.2.2.2.2.2.2.1.2.1 (by decide) (by decide) hh (by decide) ?_
                rw [arA (hM.2.2.2.2.2.2.2.2.2.2.2.1.2.2 i hh).1]
                refine x_iconst (pc := 147) (v := nI 0) cx (dA ddX8_begin (i := 84) rfl) (by decide) ?_
                refine x_iaload (pc := 148) cx (dA ddX8_begin (i := 85) rfl) (hM.2.2.2.2.2.2.2.2.2.2.2.1.2.2 i hh).2 (by decide) (by decide) ?_
                rw [show (sI (rAI (sAI (sAI (rAI V (y + 29 + 1 + 7) 0 20 (fun j => V.2.2.1 (y + 29 + 1 + i) j)) (y + 14) 8 (nI q.1)) (y + 15) 8 (nI q.2.1)) (y + 16 + 1 + 8) 0 125 (fun j => V.2.2.1 (y + 16 + 1 + r) j)) 414 y (nI 1)).2.2.1 (y + 29 + 1 + i) 0 = nI ((S.1.2.1 i) 0) from (rAI_ne (by omega) _).trans ((sAI_ne (by omega)).trans ((sAI_ne (by omega)).trans ((rAI_ne (by omega) _).trans (hR 0 (by omega)))))]
                refine pX8_349 (pc := 149)  cx (dA ddX8_begin (i := 86) rfl) h0 ?_
                refine x_aload_n (pc := 152) cx (dA ddX8_begin (i := 87) rfl) rfl ?_
                refine x_iconst (pc := 153) (v := nI 0) cx (dA ddX8_begin (i := 88) rfl) (by decide) ?_
                refine pX8_352 (pc := 154)  cx (dA ddX8_begin (i := 89) rfl) h0 ?_
                refine x_aload_n (pc := 157) cx (dA ddX8_begin (i := 90) rfl) rfl ?_
                refine x_iconst (pc := 158) (v := nI 0) cx (dA ddX8_begin (i := 91) rfl) (by decide) ?_
                refine pX8_355 (pc := 159)  cx (dA ddX8_begin (i := 92) rfl) h0 ?_
                refine x_aload_n (pc := 162) cx (dA ddX8_begin (i := 93) rfl) rfl ?_
                refine x_iconst (pc := 163) (v := nI 0) cx (dA ddX8_begin (i := 94) rfl) (by decide) ?_
                refine pX8_358 (pc := 164)  cx (dA ddX8_begin (i := 95) rfl) h0 ?_
                refine x_aload_n (pc := 167) cx (dA ddX8_begin (i := 96) rfl) rfl ?_
                refine x_iconst (pc := 168) (v := nI 0) cx (dA ddX8_begin (i := 97) rfl) (by decide) ?_
                refine pX8_361 (pc := 169)  cx (dA ddX8_begin (i := 98) rfl) h0 ?_
                refine x_aload_n (pc := 172) cx (dA ddX8_begin (i := 99) rfl) rfl ?_
                refine x_iconst (pc := 173) (v := nI 0) cx (dA ddX8_begin (i := 100) rfl) (by decide) ?_
                refine pX8_364 (pc := 174)  cx (dA ddX8_begin (i := 101) rfl) h0 ?_
                refine x_aload_n (pc := 177) cx (dA ddX8_begin (i := 102) rfl) rfl ?_
                refine gX8_349 (pc := 178) (congrArg Value.int (show (sI (sI (sI (sI (sI (sI (sI (rAI (sAI (sAI (rAI V (y + 29 + 1 + 7) 0 20 (fun j => V.2.2.1 (y + 29 + 1 + i) j)) (y + 14) 8 (nI q.1)) (y + 15) 8 (nI q.2.1)) (y + 16 + 1 + 8) 0 125 (fun j => V.2.2.1 (y + 16 + 1 + r) j)) 414 y (nI 1)) 415 y (nI ((S.1.2.1 i) 0))) 416 y (nI 0)) 417 y (nI 0)) 418 y (nI 0)) 419 y (nI 0)) 420 y (nI 0)).1 415 y = nI ((S.1.2.1 i) 0) from (sI_ne (by omega)).trans ((sI_ne (by omega)).trans ((sI_ne (by omega)).trans ((sI_ne (by omega)).trans ((sI_ne (by omega)).trans (sI_eq))))))) cx (dA ddX8_begin (i := 103) rfl) h0 ?_
                refine x_ireturn (pc := 181) cx (dA ddX8_begin (i := 104) rfl) (by first | exact Nat.le_of_ble_eq_true rfl | omega) (by first | exact Nat.le_of_ble_eq_true rfl | omega) ?_
                have wd : WdM (sI (sI (sI (sI (sI (sI (sI (rAI (sAI (sAI (rAI V (y + 29 + 1 + 7) 0 20 (fun j => V.2.2.1 (y + 29 + 1 + i) j)) (y + 14) 8 (nI q.1)) (y + 15) 8 (nI q.2.1)) (y + 16 + 1 + 8) 0 125 (fun j => V.2.2.1 (y + 16 + 1 + r) j)) 414 y (nI 1)) 415 y (nI ((S.1.2.1 i) 0))) 416 y (nI 0)) 417 y (nI 0)) 418 y (nI 0)) 419 y (nI 0)) 420 y (nI 0)) y (S.1.1, S.1.2.1, S.1.2.2.1, some ((S.1.2.1 i), q, ((S.1.2.1 i) 0, 0, 0, 0, 0, 0))) := wd_w (w := ((S.1.2.1 i), q, ((S.1.2.1 i) 0, 0, 0, 0, 0, 0))) hRM.2.2.1 (fun f hf => (sI_ne (by omega)).trans ((sI_ne (by omega)).trans ((sI_ne (by omega)).trans ((sI_ne (by omega)).trans ((sI_ne (by omega)).trans ((sI_ne (by omega)).trans ((sI_ne (by omega)).trans (rfl)))))))) (fun i hi j => (rAI_ne (by omega) j).trans ((sAI_ne (by omega)).trans ((sAI_ne (by omega)).trans (rAI_ne (by omega) j)))) ((sI_ne (by omega)).trans ((sI_ne (by omega)).trans ((sI_ne (by omega)).trans ((sI_ne (by omega)).trans ((sI_ne (by omega)).trans ((sI_ne (by omega)).trans ((sI_ne (by omega)).trans (hRM.2.2.1.2.2.2.1)))))))) ((sI_ne (by omega)).trans ((sI_ne (by omega)).trans ((sI_ne (by omega)).trans ((sI_ne (by omega)).trans ((sI_ne (by omega)).trans ((sI_ne (by omega)).trans (sI_eq))))))) (fun j hj => (rAI_ne (by omega) j).trans ((sAI_ne (by omega)).trans ((sAI_ne (by omega)).trans ((rAI_at (by have : j < 5 + 5 * (S.1.2.1 i) 4 := hj; omega)).trans (hR j hj))))) hN ⟨(rAI_ne (by omega) _).trans ((sAI_ne (by omega)).trans sAI_eq), hR5.2.1, (rAI_ne (by omega) _).trans sAI_eq, hR5.2.2.2.1, hR5.2.2.2.2.1, hR5.2.2.2.2.2.1, fun e j hj => (rAI_at hj).trans (hR5.2.2.2.2.2.2 e j hj)⟩ ⟨(sI_ne (by omega)).trans ((sI_ne (by omega)).trans ((sI_ne (by omega)).trans ((sI_ne (by omega)).trans ((sI_ne (by omega)).trans (sI_eq))))), (sI_ne (by omega)).trans ((sI_ne (by omega)).trans ((sI_ne (by omega)).trans ((sI_ne (by omega)).trans (sI_eq)))), (sI_ne (by omega)).trans ((sI_ne (by omega)).trans ((sI_ne (by omega)).trans (sI_eq))), (sI_ne (by omega)).trans ((sI_ne (by omega)).trans (sI_eq)), (sI_ne (by omega)).trans (sI_eq), sI_eq⟩ (Nat.le_refl _) (Nat.pow_pos (by decide))
                have sa : ∀ a, a ≠ y → a ≠ y + 29 + 1 + 7 → a ≠ y + 14 → a ≠ y + 15 → a ≠ y + 16 + 1 + 8 → same4 V (sI (sI (sI (sI (sI (sI (sI (rAI (sAI (sAI (rAI V (y + 29 + 1 + 7) 0 20 (fun j => V.2.2.1 (y + 29 + 1 + i) j)) (y + 14) 8 (nI q.1)) (y + 15) 8 (nI q.2.1)) (y + 16 + 1 + 8) 0 125 (fun j => V.2.2.1 (y + 16 + 1 + r) j)) 414 y (nI 1)) 415 y (nI ((S.1.2.1 i) 0))) 416 y (nI 0)) 417 y (nI 0)) 418 y (nI 0)) 419 y (nI 0)) 420 y (nI 0)) a := fun a a1 a2 a3 a4 a5 => ((((((((((((same4.refl V a).rAI a2).sAI a3).sAI a4).rAI a5).sI a1).sI a1).sI a1).sI a1).sI a1).sI a1).sI a1)
                have out : ∀ a, a < y ∨ y + 94 ≤ a → same4 V (sI (sI (sI (sI (sI (sI (sI (rAI (sAI (sAI (rAI V (y + 29 + 1 + 7) 0 20 (fun j => V.2.2.1 (y + 29 + 1 + i) j)) (y + 14) 8 (nI q.1)) (y + 15) 8 (nI q.2.1)) (y + 16 + 1 + 8) 0 125 (fun j => V.2.2.1 (y + 16 + 1 + r) j)) 414 y (nI 1)) 415 y (nI ((S.1.2.1 i) 0))) 416 y (nI 0)) 417 y (nI 0)) 418 y (nI 0)) 419 y (nI 0)) 420 y (nI 0)) a := fun a ha => sa a (by omega) (by omega) (by omega) (by omega) (by omega)
                refine pMI.m (S' := putW S (S.1.1, S.1.2.1, S.1.2.2.1, some ((S.1.2.1 i), q, ((S.1.2.1 i) 0, 0, 0, 0, 0, 0)))) (by unfold fBegin; rw [if_pos ⟨ch, cr⟩, hs]; simp only [hX, ti]) ⟨hRM.mk' out wd (fun w hw => (hRM.2.2.2.1 w hw).st ((sa _ (by omega) (by omega) (by omega) (by omega) (by omega)).2.2.1 w) ((sa _ (by omega) (by omega) (by omega) (by omega) (by omega)).2.2.1 w) ((sa _ (by omega) (by omega) (by omega) (by omega) (by omega)).2.2.1 w) (fun j => (sa _ (by omega) (by omega) (by omega) (by omega) (by omega)).2.2.2 j) ?_ ?_ (fun j => (sa _ (by omega) (by omega) (by omega) (by omega) (by omega)).2.2.1 j) ((sa _ (by omega) (by omega) (by omega) (by omega) (by omega)).2.2.1 w)) ?_ (fun k hk => ((sa _ (by omega) (by omega) (by omega) (by omega) (by omega)).2.2.1 _).trans (hRM.2.2.2.2.2.1 k hk)) ((sI_ne (by omega)).trans ((sI_ne (by omega)).trans ((sI_ne (by omega)).trans ((sI_ne (by omega)).trans ((sI_ne (by omega)).trans ((sI_ne (by omega)).trans ((sI_ne (by omega)).trans (hmu)))))))) rfl, out⟩
                · exact (rAI_ne (by omega) _).trans ((sAI_ne (by omega)).trans ((sAI_nj (by omega)).trans (rAI_ne (by omega) _)))
                · exact (rAI_ne (by omega) _).trans ((sAI_nj (by omega)).trans ((sAI_ne (by omega)).trans (rAI_ne (by omega) _)))
                · obtain ⟨t1, t2, t3, t4⟩ := hRM.2.2.2.2.1
                  exact ⟨(sI_ne (by omega)).trans ((sI_ne (by omega)).trans ((sI_ne (by omega)).trans ((sI_ne (by omega)).trans ((sI_ne (by omega)).trans ((sI_ne (by omega)).trans ((sI_ne (by omega)).trans (t1))))))), fun j hj => ((sa _ (by omega) (by omega) (by omega) (by omega) (by omega)).2.2.1 j).trans (t2 j hj), t3, t4⟩
              · have c107 := cleF (by omega) (by omega) c107
                refine x_aload_n (pc := 110) cx (dA ddX8_begin (i := 62) rfl) rfl ?_
                refine gX8_36 (pc := 111) (rfA hM.2.2.2.2.2.2.2.2.1.1) cx (dA ddX8_begin (i := 63) rfl) h0 ?_
                refine x_bipush (pc := 114) (v := nI 8) cx (dA ddX8_begin (i := 64) rfl) (by decide) ?_
                refine x_aaload (pc := 116) cx (dA ddX8_begin (i := 65) rfl) hM.2.2.2.2.2.2.2.2.1.2.1 (by decide) (by decide) (by decide) (by decide) ?_
                rw [arA (hM.2.2.2.2.2.2.2.2.1.2.2 8 (by decide)).1]
                refine x_iload (pc := 117) cx (dA ddX8_begin (i := 66) rfl) rfl ?_
                refine x_aload_n (pc := 119) cx (dA ddX8_begin (i := 67) rfl) rfl ?_
                refine gX8_36 (pc := 120) (rfA hM.2.2.2.2.2.2.2.2.1.1) cx (dA ddX8_begin (i := 68) rfl) h0 ?_
                refine x_iload_n (pc := 123) cx (dA ddX8_begin (i := 69) rfl) rfl ?_
                refine x_aaload (pc := 124) cx (dA ddX8_begin (i := 70) rfl) hM.2.2.2.2.2.2.2.2.1.2.1 (by decide) (by decide) (by omega) (by decide) ?_
                rw [arA (hM.2.2.2.2.2.2.2.2.1.2.2 r (by omega)).1]
                refine x_iload (pc := 125) cx (dA ddX8_begin (i := 71) rfl) rfl ?_
                refine x_iaload (pc := 127) cx (dA ddX8_begin (i := 72) rfl) (hM.2.2.2.2.2.2.2.2.1.2.2 r (by omega)).2 (by omega) (by decide) ?_
                refine x_iastore (pc := 128) cx (dA ddX8_begin (i := 73) rfl) (hM.2.2.2.2.2.2.2.2.1.2.2 8 (by decide)).2 (by omega) (by decide) ?_
                rw [show sAI (rAI (sAI (sAI (rAI V (y + 29 + 1 + 7) 0 20 (fun j => V.2.2.1 (y + 29 + 1 + i) j)) (y + 14) 8 (nI q.1)) (y + 15) 8 (nI q.2.1)) (y + 16 + 1 + 8) 0 j (fun j => V.2.2.1 (y + 16 + 1 + r) j)) (y + 16 + 1 + 8) j ((rAI (sAI (sAI (rAI V (y + 29 + 1 + 7) 0 20 (fun j => V.2.2.1 (y + 29 + 1 + i) j)) (y + 14) 8 (nI q.1)) (y + 15) 8 (nI q.2.1)) (y + 16 + 1 + 8) 0 j (fun j => V.2.2.1 (y + 16 + 1 + r) j)).2.2.1 (y + 16 + 1 + r) j) = (rAI (sAI (sAI (rAI V (y + 29 + 1 + 7) 0 20 (fun j => V.2.2.1 (y + 29 + 1 + i) j)) (y + 14) 8 (nI q.1)) (y + 15) 8 (nI q.2.1)) (y + 16 + 1 + 8) 0 (j + 1) (fun j => V.2.2.1 (y + 16 + 1 + r) j)) from rAI_s0 _ _ _ _ ((rAI_ne (by omega) j).trans ((sAI_ne (by omega)).trans ((sAI_ne (by omega)).trans (rAI_ne (by omega) j))))]
                refine x_iinc (pc := 129) cx (dA ddX8_begin (i := 74) rfl) rfl (iinc1 _) (by decide) rfl ?_
                refine x_goto (pc := 132) (tgt := 103) cx (dA ddX8_begin (i := 75) rfl) (by decide) ?_
                exact x_enter (ih2 (by omega)) ⟨.inr rfl, .inr rfl, .inr rfl, .inr rfl, trivial⟩
            have L := L103 0 (Nat.zero_le _)
            rw [show (rAI (sAI (sAI (rAI V (y + 29 + 1 + 7) 0 20 (fun j => V.2.2.1 (y + 29 + 1 + i) j)) (y + 14) 8 (nI q.1)) (y + 15) 8 (nI q.2.1)) (y + 16 + 1 + 8) 0 0 (fun j => V.2.2.1 (y + 16 + 1 + r) j)) = (sAI (sAI (rAI V (y + 29 + 1 + 7) 0 20 (fun j => V.2.2.1 (y + 29 + 1 + i) j)) (y + 14) 8 (nI q.1)) (y + 15) 8 (nI q.2.1)) from rAI_0 _ _ _ _] at L
            exact x_enter L ⟨.inr rfl, .inr rfl, .inr rfl, .inr rfl, trivial⟩
          · have c46 := cleF (by omega) (by omega) c46
            refine x_aload_n (pc := 49) cx (dA ddX8_begin (i := 27) rfl) rfl ?_
            refine gX8_45 (pc := 50) (rfA hM.2.2.2.2.2.2.2.2.2.2.2.1.1) cx (dA ddX8_begin (i := 28) rfl) h0 ?_
            refine x_bipush (pc := 53) (v := nI 7) cx (dA ddX8_begin (i := 29) rfl) (by decide) ?_
            refine x_aaload (pc := 55) cx (dA ddX8_begin (i := 30) rfl) hM.2.2.2.2.2.2.2.2.2.2.2.1.2.1 (by decide) (by decide) (by decide) (by decide) ?_
            rw [arA (hM.2.2.2.2.2.2.2.2.2.2.2.1.2.2 7 (by decide)).1]
            refine x_iload (pc := 56) cx (dA ddX8_begin (i := 31) rfl) rfl ?_
            refine x_aload_n (pc := 58) cx (dA ddX8_begin (i := 32) rfl) rfl ?_
            refine gX8_45 (pc := 59) (rfA hM.2.2.2.2.2.2.2.2.2.2.2.1.1) cx (dA ddX8_begin (i := 33) rfl) h0 ?_
            refine x_iload_n (pc := 62) cx (dA ddX8_begin (i := 34) rfl) rfl ?_
            refine x_aaload (pc := 63) cx (dA ddX8_begin (i := 35) rfl) hM.2.2.2.2.2.2.2.2.2.2.2.1.2.1 (by decide) (by decide) hh (by decide) ?_
            rw [arA (hM.2.2.2.2.2.2.2.2.2.2.2.1.2.2 i hh).1]
            refine x_iload (pc := 64) cx (dA ddX8_begin (i := 36) rfl) rfl ?_
            refine x_iaload (pc := 66) cx (dA ddX8_begin (i := 37) rfl) (hM.2.2.2.2.2.2.2.2.2.2.2.1.2.2 i hh).2 (by omega) (by decide) ?_
            refine x_iastore (pc := 67) cx (dA ddX8_begin (i := 38) rfl) (hM.2.2.2.2.2.2.2.2.2.2.2.1.2.2 7 (by decide)).2 (by omega) (by decide) ?_
            rw [show sAI (rAI V (y + 29 + 1 + 7) 0 j (fun j => V.2.2.1 (y + 29 + 1 + i) j)) (y + 29 + 1 + 7) j ((rAI V (y + 29 + 1 + 7) 0 j (fun j => V.2.2.1 (y + 29 + 1 + i) j)).2.2.1 (y + 29 + 1 + i) j) = (rAI V (y + 29 + 1 + 7) 0 (j + 1) (fun j => V.2.2.1 (y + 29 + 1 + i) j)) from rAI_s0 _ _ _ _ (rAI_ne (by omega) j)]
            refine x_iinc (pc := 68) cx (dA ddX8_begin (i := 39) rfl) rfl (iinc1 _) (by decide) rfl ?_
            refine x_goto (pc := 71) (tgt := 42) cx (dA ddX8_begin (i := 40) rfl) (by decide) ?_
            exact x_enter (ih (by omega)) ⟨.inr rfl, .inr rfl, .inr rfl, .inr rfl, trivial⟩
        have L := L42 0 (Nat.zero_le _)
        rw [show (rAI V (y + 29 + 1 + 7) 0 0 (fun j => V.2.2.1 (y + 29 + 1 + i) j)) = V from rAI_0 _ _ _ _] at L
        exact x_enter L ⟨.inr rfl, .inr rfl, .inr rfl, .inr rfl, trivial⟩
      · refine x_iload_n (pc := 37) cx (dA ddX8_begin (i := 20) rfl) rfl ?_
        refine x_ireturn (pc := 38) cx (dA ddX8_begin (i := 21) rfl) (by first | exact Nat.le_of_ble_eq_true rfl | omega) (by first | exact Nat.le_of_ble_eq_true rfl | omega) ?_
        rcases hx with ⟨e, -⟩ | ⟨rfl, e, rfl⟩ | ⟨rfl, ⟨q, e⟩, rfl⟩
        · exact absurd e c34
        · exact pMI.r hRM (by decide) (by unfold fBegin; rw [if_pos ⟨ch, cr⟩, (shX_at hr).trans e])
        · exact pMI.r hRM (by decide) (by unfold fBegin; rw [if_pos ⟨ch, cr⟩, (shX_at hr).trans e])
    · have c17 := b2i_eq c17
      refine x_aload_n (pc := 20) cx (dA ddX8_begin (i := 10) rfl) rfl ?_
      refine x_bipush (pc := 21) (v := -2) cx (dA ddX8_begin (i := 11) rfl) (by decide) ?_
      refine x_V1 (pc := 23) mX8_119 h0 (c_X8_refuse hM (i := 0) (by decide) rfl) cx (dA ddX8_begin (i := 12) rfl) (kI ?_)
      refine x_ireturn (pc := 26) cx (dA ddX8_begin (i := 13) rfl) (by first | exact Nat.le_of_ble_eq_true rfl | omega) (by first | exact Nat.le_of_ble_eq_true rfl | omega) ?_
      first | exact pMI.r hRM (by decide) (if_neg (fun q => by have z := q.2; exact c17 ⟨z.1, by have := z.2; omega⟩))
