section PN
variable {Z : zP} {G : zG} {V V' : zV} {y i : Nat} {zk : Option Nat} {S S' : SX}
theorem pMI.m {A : Int32 × SX} {v : Int32} (hA : A = (v, S')) (h : RM Z G V' y zk S' ∧ ∀ a, a < y ∨ y + 94 ≤ a → same4 V V' a) : pMI Z G V y zk A (some (.int v)) G V' := by subst hA; exact ⟨rfl, rfl, h⟩
/-- fields below 423 that a change leaves -/
theorem WdM.f {V V' : zV} {y : Nat} {W : WD} (h : WdM V y W) (hf : ∀ f, f < 423 → f ≠ 409 → V'.1 f y = V.1 f y) (hr : ∀ i, i < 8 → ∀ j, V'.2.2.1 (y + 29 + 1 + i) j = V.2.2.1 (y + 29 + 1 + i) j) (h8 : V'.2.2.1 (y + 14) 8 = V.2.2.1 (y + 14) 8 ∧ V'.2.2.1 (y + 15) 8 = V.2.2.1 (y + 15) 8) (ht : ∀ j, V'.2.2.1 (y + 16 + 1 + 8) j = V.2.2.1 (y + 16 + 1 + 8) j) : WdM V' y W := by
  obtain ⟨a, b, c, d, e, f⟩ := h
  refine ⟨(hf _ (by decide) (by decide)).trans a, b, fun i hi => ⟨fun j hj => (hr i (by omega) j).trans ((c i hi).1 j hj), (c i hi).2⟩, (hf _ (by decide) (by decide)).trans d, fun q => (hf _ (by decide) (by decide)).trans (e q), fun ws hw => ?_⟩
  obtain ⟨f1, f2, f3, f4, ⟨g1, g2, g3, g4, g5, g6⟩, f6⟩ := f ws hw
  exact ⟨(hf _ (by decide) (by decide)).trans f1, fun j hj => (hr 7 (by decide) j).trans (f2 j hj), f3, f4.st h8.1 h8.2 ht, ⟨(hf _ (by decide) (by decide)).trans g1, (hf _ (by decide) (by decide)).trans g2, (hf _ (by decide) (by decide)).trans g3, (hf _ (by decide) (by decide)).trans g4, (hf _ (by decide) (by decide)).trans g5, (hf _ (by decide) (by decide)).trans g6⟩, f6⟩
theorem RM.tape (h : RM Z G V y zk S) {t : (Nat → Nat) × Nat} (hV : ∀ a, a ≠ y → a ≠ y + 27 → same4 V V' a) (hf : ∀ f, f ≠ 409 → V'.1 f y = V.1 f y) (ht : MTape V' y t.1 t.2) : RM Z G V' y zk (putT S t) ∧ ∀ a, a < y ∨ y + 94 ≤ a → same4 V V' a := by
  have out : ∀ a, a < y ∨ y + 94 ≤ a → same4 V V' a := fun a ha => hV a (by omega) (by omega)
  refine ⟨h.mk' out (h.2.2.1.f (fun f _ hn => hf f hn) (fun k hk j => (hV _ (by omega) (by omega)).2.2.1 j) ⟨(hV _ (by omega) (by omega)).2.2.1 8, (hV _ (by omega) (by omega)).2.2.1 8⟩ (fun j => (hV _ (by omega) (by omega)).2.2.1 j)) (fun q hq => (h.2.2.2.1 q hq).st ((hV _ (by omega) (by omega)).2.2.1 q) ((hV _ (by omega) (by omega)).2.2.1 q) ((hV _ (by omega) (by omega)).2.2.1 q) (fun j => (hV _ (by omega) (by omega)).2.2.2 j) ((hV _ (by omega) (by omega)).2.2.1 q) ((hV _ (by omega) (by omega)).2.2.1 q) (fun j => (hV _ (by omega) (by omega)).2.2.1 j) ((hV _ (by omega) (by omega)).2.2.1 q)) ht (fun k hk => ((hV _ (by omega) (by omega)).2.2.1 _).trans (h.2.2.2.2.2.1 k hk)) ((hf 439 (by decide)).trans h.2.2.2.2.2.2.1) rfl, out⟩
theorem RM.seed (h : RM Z G V y zk S) {v : Int32} : RM Z G (sI V 413 y v) y zk (putW S (S.1.1, S.1.2.1, v, S.1.2.2.2)) ∧ ∀ a, a < y ∨ y + 94 ≤ a → same4 V (sI V 413 y v) a := by
  have out : ∀ a, a < y ∨ y + 94 ≤ a → same4 V (sI V 413 y v) a := fun a ha => (same4.refl V a).sI (by omega)
  refine ⟨h.mk' out ?_ (fun q hq => (h.2.2.2.1 q hq).st rfl rfl rfl (fun _ => rfl) rfl rfl (fun _ => rfl) rfl) ⟨(sI_ne (by decide)).trans h.2.2.2.2.1.1, h.2.2.2.2.1.2⟩ h.2.2.2.2.2.1 ((sI_ne (by decide)).trans h.2.2.2.2.2.2.1) rfl, out⟩
  obtain ⟨a, b, c, d, e, f⟩ := h.2.2.1
  exact ⟨(sI_ne (by decide)).trans a, b, c, sI_eq, fun q => (sI_ne (by decide)).trans (e q), fun ws hw => by
    obtain ⟨f1, f2, f3, f4, ⟨g1, g2, g3, g4, g5, g6⟩, f6⟩ := f ws hw
    exact ⟨(sI_ne (by decide)).trans f1, f2, f3, f4, ⟨(sI_ne (by decide)).trans g1, (sI_ne (by decide)).trans g2, (sI_ne (by decide)).trans g3, (sI_ne (by decide)).trans g4, (sI_ne (by decide)).trans g5, (sI_ne (by decide)).trans g6⟩, f6⟩⟩
/-- a shelf is filled anew -/
theorem RM.put (h : RM Z G V y zk S) {s : Nat} (hs : s < 8) {sh : SH} (hV : ∀ a, a ≠ y + 1 → a ≠ y + 2 → a ≠ y + 3 → a ≠ y + 13 → a ≠ y + 14 → a ≠ y + 15 → a ≠ y + 38 → a ≠ y + 4 + 1 + s → a ≠ y + 16 + 1 + s → same4 V V' a) (hI : ∀ a, (a = y + 1 ∨ a = y + 2 ∨ a = y + 3 ∨ a = y + 14 ∨ a = y + 15 ∨ a = y + 38) → ∀ j, j ≠ s → V'.2.2.1 a j = V.2.2.1 a j) (hn : ShM V' y s sh) : RM Z G V' y zk (putS S s sh) ∧ ∀ a, a < y ∨ y + 94 ≤ a → same4 V V' a := by
  have out : ∀ a, a < y ∨ y + 94 ≤ a → same4 V V' a := fun a ha => hV a (by omega) (by omega) (by omega) (by omega) (by omega) (by omega) (by omega) (by omega) (by omega)
  have st : ∀ a, y ≤ a → a < y + 94 → a ≠ y + 1 → a ≠ y + 2 → a ≠ y + 3 → a ≠ y + 13 → a ≠ y + 14 → a ≠ y + 15 → a ≠ y + 38 → a ≠ y + 4 + 1 + s → a ≠ y + 16 + 1 + s → same4 V V' a := fun a _ _ a1 a2 a3 a4 a5 a6 a7 a8 a9 => hV a a1 a2 a3 a4 a5 a6 a7 a8 a9
  refine ⟨h.mk' out (h.2.2.1.st (fun f _ => (st y (by omega) (by omega) (by omega) (by omega) (by omega) (by omega) (by omega) (by omega) (by omega) (by omega) (by omega)).1 f) (fun k hk j => (st _ (by omega) (by omega) (by omega) (by omega) (by omega) (by omega) (by omega) (by omega) (by omega) (by omega) (by omega)).2.2.1 j) ⟨hI _ (by omega) 8 (by omega), hI _ (by omega) 8 (by omega)⟩ (fun j => (st _ (by omega) (by omega) (by omega) (by omega) (by omega) (by omega) (by omega) (by omega) (by omega) (by omega) (by omega)).2.2.1 j)) (fun q hq => ?_) ?_ (fun k hk => ((st (y + 28) (by omega) (by omega) (by omega) (by omega) (by omega) (by omega) (by omega) (by omega) (by omega) (by omega) (by omega)).2.2.1 _).trans (h.2.2.2.2.2.1 k hk)) (((st y (by omega) (by omega) (by omega) (by omega) (by omega) (by omega) (by omega) (by omega) (by omega) (by omega) (by omega)).1 439).trans h.2.2.2.2.2.2.1) rfl, out⟩
  · show ShM V' y q (if q = s then sh else S.2.2.2.1 q)
    by_cases e : q = s
    · subst e; rw [if_pos rfl]; exact hn
    · rw [if_neg e]
      exact (h.2.2.2.1 q hq).st (hI _ (by omega) q e) (hI _ (by omega) q e) (hI _ (by omega) q e) (fun j => (st _ (by omega) (by omega) (by omega) (by omega) (by omega) (by omega) (by omega) (by omega) (by omega) (by omega) (by omega)).2.2.2 j) (hI _ (by omega) q e) (hI _ (by omega) q e) (fun j => (st _ (by omega) (by omega) (by omega) (by omega) (by omega) (by omega) (by omega) (by omega) (by omega) (by omega) (by omega)).2.2.1 j) (hI _ (by omega) q e)
  · obtain ⟨t1, t2, t3, t4⟩ := h.2.2.2.2.1
    exact ⟨((st y (by omega) (by omega) (by omega) (by omega) (by omega) (by omega) (by omega) (by omega) (by omega) (by omega) (by omega)).1 409).trans t1, fun j hj => ((st (y + 27) (by omega) (by omega) (by omega) (by omega) (by omega) (by omega) (by omega) (by omega) (by omega) (by omega) (by omega)).2.2.1 j).trans (t2 j hj), t3, t4⟩
/-- a house is altered -/
theorem RM.alt (h : RM Z G V y zk S) {i : Nat} (hi : i < S.1.1) {N : Nat → Nat} (hV : ∀ a, a ≠ y + 29 + 1 + i → same4 V V' a) (hM : MH V' y i N) (hN : HOK N) : RM Z G V' y zk (putW S (altW S.1 i N)) ∧ ∀ a, a < y ∨ y + 94 ≤ a → same4 V V' a := by
  have c6 := h.2.2.1.2.1
  have out : ∀ a, a < y ∨ y + 94 ≤ a → same4 V V' a := fun a ha => hV a (by omega)
  refine ⟨h.mk' out ?_ (fun q hq => (h.2.2.2.1 q hq).st ((hV _ (by omega)).2.2.1 q) ((hV _ (by omega)).2.2.1 q) ((hV _ (by omega)).2.2.1 q) (fun j => (hV _ (by omega)).2.2.2 j) ((hV _ (by omega)).2.2.1 q) ((hV _ (by omega)).2.2.1 q) (fun j => (hV _ (by omega)).2.2.1 j) ((hV _ (by omega)).2.2.1 q)) ?_ (fun k hk => ((hV _ (by omega)).2.2.1 _).trans (h.2.2.2.2.2.1 k hk)) (((hV y (by omega)).1 439).trans h.2.2.2.2.2.2.1) rfl, out⟩
  · obtain ⟨a, b, c, d, e, f⟩ := h.2.2.1
    have fy := (hV y (by omega)).1
    refine ⟨(fy _).trans a, b, fun k hk => ?_, (fy _).trans d, fun q => (fy _).trans (e q), fun ws hw => ?_⟩
    · show MH V' y k (if k = i then N else S.1.2.1 k) ∧ HOK (if k = i then N else S.1.2.1 k)
      by_cases q : k = i
      · subst q; rw [if_pos rfl]; exact ⟨hM, hN⟩
      · rw [if_neg q]; exact ⟨fun j hj => ((hV _ (by omega)).2.2.1 j).trans ((c k hk).1 j hj), (c k hk).2⟩
    · obtain ⟨f1, f2, f3, f4, ⟨g1, g2, g3, g4, g5, g6⟩, f6⟩ := f ws hw
      exact ⟨(fy _).trans f1, fun j hj => ((hV _ (by omega)).2.2.1 j).trans (f2 j hj), f3, f4.st ((hV _ (by omega)).2.2.1 8) ((hV _ (by omega)).2.2.1 8) (fun j => (hV _ (by omega)).2.2.1 j), ⟨(fy _).trans g1, (fy _).trans g2, (fy _).trans g3, (fy _).trans g4, (fy _).trans g5, (fy _).trans g6⟩, f6⟩
  · obtain ⟨t1, t2, t3, t4⟩ := h.2.2.2.2.1
    exact ⟨((hV y (by omega)).1 409).trans t1, fun j hj => ((hV _ (by omega)).2.2.1 j).trans (t2 j hj), t3, t4⟩
theorem MH.put {V : zV} {y i j v : Nat} {N : Nat → Nat} (h : MH V y i N) (h4 : j ≠ 4) : MH (sAI V (y + 29 + 1 + i) j (nI v)) y i (numP N j v) := by
  intro q hq
  rw [numP_ne (fun e => h4 e.symm)] at hq
  by_cases e : q = j
  · subst e; rw [sAI_eq, numP_eq]
  · rw [sAI_nj e, numP_ne e]; exact h q hq
end PN
theorem c_X8_says {l : Launch} {Z : zP} {G : zG} {V : zV} {y : Nat} {zk : Option Nat} {S : SX} (hRM : RM Z G V y zk S) {r w : Int32} : CT l Z yX8_says cX8_says 4 (some .int) 4 0 0 [.ref y, .int r, .int w] G V (pMI Z G V y zk (fSays S r w)) := by
  refine CT.of (by decide +kernel) (Nat.le_of_ble_eq_true rfl) (fun X hX cx => ?_)
  subst hX
  show Wm Z X 4 G V 0 0 _ 0 [(0, some (.ref y)), (1, some (.int r)), (2, some (.int w))] []
  have hM := hRM.1
  have h0 := hM.1
  have hc := hRM.2.2.1.1
  have c6 := hRM.2.2.1.2.1
  have hmu := hRM.2.2.2.2.2.2.1
  refine x_iload_n (pc := 0) cx (dA ddX8_says (i := 0) rfl) rfl ?_
  refine x_i2l (pc := 1) cx (dA ddX8_says (i := 1) rfl) ?_
  refine x_lconst (pc := 2) (v := lN 0) cx (dA ddX8_says (i := 2) rfl) rfl ?_
  refine x_ldc2 (pc := 3) cx klX8_113 (dA ddX8_says (i := 3) rfl) ?_
  refine x_S3 (pc := 6) mX8_94 c_X8_in cx (dA ddX8_says (i := 4) rfl) (kI ?_)
  rw [l0_toInt, tl_toInt, show (lN 7).toInt = 7 from rfl]
  refine x_if_eq (pc := 9) (tgt := 24) cx (dA ddX8_says (i := 5) rfl) (by decide) (fun c9 => ?_) (fun c9 => ?_)
  · have c9 := b2i_eq c9
    refine x_aload_n (pc := 24) cx (dA ddX8_says (i := 12) rfl) rfl ?_
    refine x_bipush (pc := 25) (v := -2) cx (dA ddX8_says (i := 13) rfl) (by decide) ?_
    refine x_V1 (pc := 27) mX8_119 h0 (c_X8_refuse hM (i := 0) (by decide) rfl) cx (dA ddX8_says (i := 14) rfl) (kI ?_)
    refine x_ireturn (pc := 30) cx (dA ddX8_says (i := 15) rfl) (by first | exact Nat.le_of_ble_eq_true rfl | omega) (by first | exact Nat.le_of_ble_eq_true rfl | omega) ?_
    first | exact pMI.r hRM (by decide) (if_neg (fun q => by have z := q.1; exact c9 ⟨z.1, by have := z.2; omega⟩))
  · have cr := b2i_ne c9
    obtain ⟨r, hr, rfl, tr⟩ := i32_in (x := r) (n := 8) ⟨cr.1, by have := cr.2; omega⟩
    have cr : oks (nI r) := ⟨cr.1, by have := cr.2; omega⟩
    have hsm := hRM.2.2.2.1 r hr
    refine x_iload_n (pc := 12) cx (dA ddX8_says (i := 6) rfl) rfl ?_
    refine x_i2l (pc := 13) cx (dA ddX8_says (i := 7) rfl) ?_
    refine x_lconst (pc := 14) (v := lN 0) cx (dA ddX8_says (i := 8) rfl) rfl ?_
    refine x_ldc2 (pc := 15) cx klX8_130 (dA ddX8_says (i := 9) rfl) ?_
    refine x_S3 (pc := 18) mX8_94 c_X8_in cx (dA ddX8_says (i := 10) rfl) (kI ?_)
    rw [l0_toInt, tl_toInt, show (lN 5).toInt = 5 from rfl]
    refine x_if_ne (pc := 21) (tgt := 31) cx (dA ddX8_says (i := 11) rfl) (by decide) (fun c21 => ?_) (fun c21 => ?_)
    · have cw := b2i_ne c21
      obtain ⟨w, hw, rfl, tw⟩ := i32_in (x := w) (n := 6) ⟨cw.1, by have := cw.2; omega⟩
      refine x_aload_n (pc := 31) cx (dA ddX8_says (i := 16) rfl) rfl ?_
      refine gX8_7 (pc := 32) (rfA hM.2.1.1) cx (dA ddX8_says (i := 17) rfl) h0 ?_
      refine x_iload_n (pc := 35) cx (dA ddX8_says (i := 18) rfl) rfl ?_
      refine x_iaload (pc := 36) cx (dA ddX8_says (i := 19) rfl) hM.2.1.2 (by omega) (by decide) ?_
      refine x_iconst (pc := 37) (v := nI 2) cx (dA ddX8_says (i := 20) rfl) (by decide) ?_
      refine x_icmp_ne (pc := 38) (tgt := 74) cx (dA ddX8_says (i := 21) rfl) (by decide) (fun c38 => ?_) (fun c38 => ?_)
      · refine x_iconst (pc := 74) (v := nI 0) cx (dA ddX8_says (i := 41) rfl) (by decide) ?_
        refine x_istore_n (pc := 75) cx (dA ddX8_says (i := 42) rfl) (by decide) rfl ?_
        refine x_aload_n (pc := 76) cx (dA ddX8_says (i := 43) rfl) rfl ?_
        refine gX8_7 (pc := 77) (rfA hM.2.1.1) cx (dA ddX8_says (i := 44) rfl) h0 ?_
        refine x_iload_n (pc := 80) cx (dA ddX8_says (i := 45) rfl) rfl ?_
        refine x_iaload (pc := 81) cx (dA ddX8_says (i := 46) rfl) hM.2.1.2 (by omega) (by decide) ?_
        refine x_iconst (pc := 82) (v := nI 1) cx (dA ddX8_says (i := 47) rfl) (by decide) ?_
        refine x_icmp_eq (pc := 83) (tgt := 100) cx (dA ddX8_says (i := 48) rfl) (by decide) (fun c83 => ?_) (fun c83 => ?_)
        · obtain ⟨q, hq⟩ := hsm.i1 c83
          refine x_aload_n (pc := 100) cx (dA ddX8_says (i := 57) rfl) rfl ?_
          refine x_bipush (pc := 101) (v := -3) cx (dA ddX8_says (i := 58) rfl) (by decide) ?_
          refine x_V1 (pc := 103) mX8_119 h0 (c_X8_refuse hM (i := 1) (by decide) rfl) cx (dA ddX8_says (i := 59) rfl) (kI ?_)
          refine x_ireturn (pc := 106) cx (dA ddX8_says (i := 60) rfl) (by first | exact Nat.le_of_ble_eq_true rfl | omega) (by first | exact Nat.le_of_ble_eq_true rfl | omega) ?_
          exact pMI.r hRM (by decide) (by unfold fSays; rw [if_pos ⟨cr, cw⟩, shX_at hr, hq])
        · refine x_aload_n (pc := 86) cx (dA ddX8_says (i := 49) rfl) rfl ?_
          refine gX8_7 (pc := 87) (rfA hM.2.1.1) cx (dA ddX8_says (i := 50) rfl) h0 ?_
          refine x_iload_n (pc := 90) cx (dA ddX8_says (i := 51) rfl) rfl ?_
          refine x_iaload (pc := 91) cx (dA ddX8_says (i := 52) rfl) hM.2.1.2 (by omega) (by decide) ?_
          refine x_iconst (pc := 92) (v := nI 2) cx (dA ddX8_says (i := 53) rfl) (by decide) ?_
          refine x_icmp_ne (pc := 93) (tgt := 107) cx (dA ddX8_says (i := 54) rfl) (by decide) (fun c93 => ?_) (fun c93 => absurd c93 c38)
          refine x_aload_n (pc := 107) cx (dA ddX8_says (i := 61) rfl) rfl ?_
          refine gX8_7 (pc := 108) (rfA hM.2.1.1) cx (dA ddX8_says (i := 62) rfl) h0 ?_
          refine x_iload_n (pc := 111) cx (dA ddX8_says (i := 63) rfl) rfl ?_
          refine x_iaload (pc := 112) cx (dA ddX8_says (i := 64) rfl) hM.2.1.2 (by omega) (by decide) ?_
          refine x_if_ne (pc := 113) (tgt := 123) cx (dA ddX8_says (i := 65) rfl) (by decide) (fun c113 => ?_) (fun c113 => ?_)
          · obtain ⟨q, hq⟩ := hsm.n20 c38 c113
            exact absurd (hsm.2.1 q hq).1 c83
          · have hq := hsm.i0 c113
            refine x_aload_n (pc := 116) cx (dA ddX8_says (i := 66) rfl) rfl ?_
            refine x_bipush (pc := 117) (v := -4) cx (dA ddX8_says (i := 67) rfl) (by decide) ?_
            refine x_V1 (pc := 119) mX8_119 h0 (c_X8_refuse hM (i := 2) (by decide) rfl) cx (dA ddX8_says (i := 68) rfl) (kI ?_)
            refine x_ireturn (pc := 122) cx (dA ddX8_says (i := 69) rfl) (by first | exact Nat.le_of_ble_eq_true rfl | omega) (by first | exact Nat.le_of_ble_eq_true rfl | omega) ?_
            exact pMI.r hRM (by decide) (by unfold fSays; rw [if_pos ⟨cr, cw⟩, shX_at hr, hq])
      · obtain ⟨q, hq⟩ := hsm.i2 c38
        obtain ⟨-, q1, q2⟩ := hsm.2.2 q hq
        have κ1 := q1.2.1
        refine x_iload_n (pc := 41) cx (dA ddX8_says (i := 22) rfl) rfl ?_
        refine x_if_eq (pc := 42) (tgt := 70) cx (dA ddX8_says (i := 23) rfl) (by decide) (fun c42 => ?_) (fun c42 => ?_)
        · have w0 : w = 0 := nI_inj (b := 0) (by omega) (by decide) c42
          refine x_iconst (pc := 70) (v := nI 1) cx (dA ddX8_says (i := 39) rfl) (by decide) ?_
          refine x_goto (pc := 71) (tgt := 75) cx (dA ddX8_says (i := 40) rfl) (by decide) ?_
          refine x_istore_n (pc := 75) cx (dA ddX8_says (i := 42) rfl) (by decide) rfl ?_
          refine x_aload_n (pc := 76) cx (dA ddX8_says (i := 43) rfl) rfl ?_
          refine gX8_7 (pc := 77) (rfA hM.2.1.1) cx (dA ddX8_says (i := 44) rfl) h0 ?_
          refine x_iload_n (pc := 80) cx (dA ddX8_says (i := 45) rfl) rfl ?_
          refine x_iaload (pc := 81) cx (dA ddX8_says (i := 46) rfl) hM.2.1.2 (by omega) (by decide) ?_
          refine x_iconst (pc := 82) (v := nI 1) cx (dA ddX8_says (i := 47) rfl) (by decide) ?_
          refine x_icmp_eq (pc := 83) (tgt := 100) cx (dA ddX8_says (i := 48) rfl) (by decide) (fun c83 => absurd c83 (fun e => by rw [(hsm.2.2 q hq).1] at e; exact absurd e (by decide))) (fun c83 => ?_)
          refine x_aload_n (pc := 86) cx (dA ddX8_says (i := 49) rfl) rfl ?_
          refine gX8_7 (pc := 87) (rfA hM.2.1.1) cx (dA ddX8_says (i := 50) rfl) h0 ?_
          refine x_iload_n (pc := 90) cx (dA ddX8_says (i := 51) rfl) rfl ?_
          refine x_iaload (pc := 91) cx (dA ddX8_says (i := 52) rfl) hM.2.1.2 (by omega) (by decide) ?_
          refine x_iconst (pc := 92) (v := nI 2) cx (dA ddX8_says (i := 53) rfl) (by decide) ?_
          refine x_icmp_ne (pc := 93) (tgt := 107) cx (dA ddX8_says (i := 54) rfl) (by decide) (fun c93 => absurd (hsm.2.2 q hq).1 c93) (fun c93 => ?_)
          refine x_iload_n (pc := 96) cx (dA ddX8_says (i := 55) rfl) rfl ?_
          refine x_if_ne (pc := 97) (tgt := 107) cx (dA ddX8_says (i := 56) rfl) (by decide) (fun c97 => ?_) (fun c97 => absurd c97 (show ¬ nI 1 = 0 by decide))
          refine x_aload_n (pc := 107) cx (dA ddX8_says (i := 61) rfl) rfl ?_
          refine gX8_7 (pc := 108) (rfA hM.2.1.1) cx (dA ddX8_says (i := 62) rfl) h0 ?_
          refine x_iload_n (pc := 111) cx (dA ddX8_says (i := 63) rfl) rfl ?_
          refine x_iaload (pc := 112) cx (dA ddX8_says (i := 64) rfl) hM.2.1.2 (by omega) (by decide) ?_
          refine x_if_ne (pc := 113) (tgt := 123) cx (dA ddX8_says (i := 65) rfl) (by decide) (fun c113 => ?_) (fun c113 => absurd c113 (fun e => by rw [(hsm.2.2 q hq).1] at e; exact absurd e (by decide)))
          refine x_iload_n (pc := 123) cx (dA ddX8_says (i := 70) rfl) rfl ?_
          by_cases c124_0 : nI w = 0
          · refine x_tabIn (pc := 124) (v := 0) (tgt := 160) cx (dA ddX8_says (i := 71) rfl) (by rw [c124_0]; decide) (by decide) (by decide) rfl (by decide) ?_
            have ew : w = 0 := nI_inj (by omega) (by omega) c124_0
            subst ew
            refine x_iconst (pc := 160) (v := nI 0) cx (dA ddX8_says (i := 72) rfl) (by decide) ?_
            refine x_ireturn (pc := 161) cx (dA ddX8_says (i := 73) rfl) (by first | exact Nat.le_of_ble_eq_true rfl | omega) (by first | exact Nat.le_of_ble_eq_true rfl | omega) ?_
            exact pMI.q hRM (MF.refl V y) (by unfold fSays; rw [if_pos ⟨cr, cw⟩, shX_at hr, hq]; exact (if_pos (by rw [tw]; omega)).trans (by rw [tw]; rfl))
          by_cases c124_1 : nI w = 1
          · refine x_tabIn (pc := 124) (v := 1) (tgt := 162) cx (dA ddX8_says (i := 71) rfl) (by rw [c124_1]; decide) (by decide) (by decide) rfl (by decide) ?_
            have ew : w = 1 := nI_inj (by omega) (by omega) c124_1
            subst ew
            refine x_aload_n (pc := 162) cx (dA ddX8_says (i := 74) rfl) rfl ?_
            refine gX8_28 (pc := 163) (rfA hM.2.2.2.2.2.2.1.1) cx (dA ddX8_says (i := 75) rfl) h0 ?_
            refine x_iload_n (pc := 166) cx (dA ddX8_says (i := 76) rfl) rfl ?_
            refine x_iaload (pc := 167) cx (dA ddX8_says (i := 77) rfl) hM.2.2.2.2.2.2.1.2 (by omega) (by decide) ?_
            rw [q1.1]
            refine x_iconst (pc := 168) (v := nI 3) cx (dA ddX8_says (i := 78) rfl) (by decide) ?_
            refine x_icmp_ne (pc := 169) (tgt := 184) cx (dA ddX8_says (i := 79) rfl) (by decide) (fun c169 => ?_) (fun c169 => ?_)
            · have c169 := ceqF (by omega) (by omega) c169
              refine x_aload_n (pc := 184) cx (dA ddX8_says (i := 87) rfl) rfl ?_
              refine gX8_31 (pc := 185) (rfA hM.2.2.2.2.2.2.2.1.1) cx (dA ddX8_says (i := 88) rfl) h0 ?_
              refine x_iload_n (pc := 188) cx (dA ddX8_says (i := 89) rfl) rfl ?_
              refine x_iaload (pc := 189) cx (dA ddX8_says (i := 90) rfl) hM.2.2.2.2.2.2.2.1.2 (by omega) (by decide) ?_
              rw [q1.2.2.1]
              refine x_ireturn (pc := 190) cx (dA ddX8_says (i := 91) rfl) (by first | exact Nat.le_of_ble_eq_true rfl | omega) (by first | exact Nat.le_of_ble_eq_true rfl | omega) ?_
              exact pMI.q hRM (MF.refl V y) (by unfold fSays; rw [if_pos ⟨cr, cw⟩, shX_at hr, hq]; exact (if_pos (by rw [tw]; omega)).trans (by rw [tw]; show (nI (if q.1 = 3 then q.2.1 / 10 else q.2.1), S) = _; rw [if_neg c169]))
            · have c169 := ceqT (by omega) (by omega) c169
              refine x_aload_n (pc := 172) cx (dA ddX8_says (i := 80) rfl) rfl ?_
              refine gX8_31 (pc := 173) (rfA hM.2.2.2.2.2.2.2.1.1) cx (dA ddX8_says (i := 81) rfl) h0 ?_
              refine x_iload_n (pc := 176) cx (dA ddX8_says (i := 82) rfl) rfl ?_
              refine x_iaload (pc := 177) cx (dA ddX8_says (i := 83) rfl) hM.2.2.2.2.2.2.2.1.2 (by omega) (by decide) ?_
              rw [q1.2.2.1]
              refine x_bipush (pc := 178) (v := nI 10) cx (dA ddX8_says (i := 84) rfl) (by decide) ?_
              refine x_idiv (pc := 180) cx (by decide) (dA ddX8_says (i := 85) rfl) ?_
              have bk := q1.2.2.2.2.2.1 c169
              rw [div32 (by omega) (by omega) (by omega)]
              refine x_goto (pc := 181) (tgt := 190) cx (dA ddX8_says (i := 86) rfl) (by decide) ?_
              refine x_ireturn (pc := 190) cx (dA ddX8_says (i := 91) rfl) (by first | exact Nat.le_of_ble_eq_true rfl | omega) (by first | exact Nat.le_of_ble_eq_true rfl | omega) ?_
              exact pMI.q hRM (MF.refl V y) (by unfold fSays; rw [if_pos ⟨cr, cw⟩, shX_at hr, hq]; exact (if_pos (by rw [tw]; omega)).trans (by rw [tw]; show (nI (if q.1 = 3 then q.2.1 / 10 else q.2.1), S) = _; rw [if_pos c169]))
          by_cases c124_2 : nI w = 2
          · refine x_tabIn (pc := 124) (v := 2) (tgt := 191) cx (dA ddX8_says (i := 71) rfl) (by rw [c124_2]; decide) (by decide) (by decide) rfl (by decide) ?_
            have ew : w = 2 := nI_inj (by omega) (by omega) c124_2
            subst ew
            refine x_aload_n (pc := 191) cx (dA ddX8_says (i := 92) rfl) rfl ?_
            refine gX8_31 (pc := 192) (rfA hM.2.2.2.2.2.2.2.1.1) cx (dA ddX8_says (i := 93) rfl) h0 ?_
            refine x_iload_n (pc := 195) cx (dA ddX8_says (i := 94) rfl) rfl ?_
            refine x_iaload (pc := 196) cx (dA ddX8_says (i := 95) rfl) hM.2.2.2.2.2.2.2.1.2 (by omega) (by decide) ?_
            rw [q1.2.2.1]
            refine x_ireturn (pc := 197) cx (dA ddX8_says (i := 96) rfl) (by first | exact Nat.le_of_ble_eq_true rfl | omega) (by first | exact Nat.le_of_ble_eq_true rfl | omega) ?_
            exact pMI.q hRM (MF.refl V y) (by unfold fSays; rw [if_pos ⟨cr, cw⟩, shX_at hr, hq]; exact (if_pos (by rw [tw]; omega)).trans (by rw [tw]; rfl))
          by_cases c124_3 : nI w = 3
          · refine x_tabIn (pc := 124) (v := 3) (tgt := 198) cx (dA ddX8_says (i := 71) rfl) (by rw [c124_3]; decide) (by decide) (by decide) rfl (by decide) ?_
            have ew : w = 3 := nI_inj (by omega) (by omega) c124_3
            subst ew
            refine x_aload_n (pc := 198) cx (dA ddX8_says (i := 97) rfl) rfl ?_
            refine gX8_31 (pc := 199) (rfA hM.2.2.2.2.2.2.2.1.1) cx (dA ddX8_says (i := 98) rfl) h0 ?_
            refine x_iload_n (pc := 202) cx (dA ddX8_says (i := 99) rfl) rfl ?_
            refine x_iaload (pc := 203) cx (dA ddX8_says (i := 100) rfl) hM.2.2.2.2.2.2.2.1.2 (by omega) (by decide) ?_
            rw [q1.2.2.1]
            refine x_bipush (pc := 204) (v := nI 10) cx (dA ddX8_says (i := 101) rfl) (by decide) ?_
            refine x_irem (pc := 206) cx (by decide) (dA ddX8_says (i := 102) rfl) ?_
            have bk := q1.2.2.2.2.2.1 (by omega)
            rw [rem32 (by omega) (by omega) (by omega)]
            refine x_ireturn (pc := 207) cx (dA ddX8_says (i := 103) rfl) (by first | exact Nat.le_of_ble_eq_true rfl | omega) (by first | exact Nat.le_of_ble_eq_true rfl | omega) ?_
            exact pMI.q hRM (MF.refl V y) (by unfold fSays; rw [if_pos ⟨cr, cw⟩, shX_at hr, hq]; exact (if_pos (by rw [tw]; omega)).trans (by rw [tw]; rfl))
          by_cases c124_4 : nI w = 4
          · refine x_tabIn (pc := 124) (v := 4) (tgt := 208) cx (dA ddX8_says (i := 71) rfl) (by rw [c124_4]; decide) (by decide) (by decide) rfl (by decide) ?_
            have ew : w = 4 := nI_inj (by omega) (by omega) c124_4
            subst ew
            refine x_iconst (pc := 208) (v := nI 1) cx (dA ddX8_says (i := 104) rfl) (by decide) ?_
            refine x_ireturn (pc := 209) cx (dA ddX8_says (i := 105) rfl) (by first | exact Nat.le_of_ble_eq_true rfl | omega) (by first | exact Nat.le_of_ble_eq_true rfl | omega) ?_
            exact pMI.q hRM (MF.refl V y) (by unfold fSays; rw [if_pos ⟨cr, cw⟩, shX_at hr, hq]; exact (if_pos (by rw [tw]; omega)).trans (by rw [tw]; rfl))
          refine x_tabOut (pc := 124) (tgt := 210) cx (dA ddX8_says (i := 71) rfl) (by have t0 := lv_neT (a := 0) c124_0 (by decide); have t1 := lv_neT (a := 1) c124_1 (by decide); have t2 := lv_neT (a := 2) c124_2 (by decide); have t3 := lv_neT (a := 3) c124_3 (by decide); have t4 := lv_neT (a := 4) c124_4 (by decide); omega) (by decide) ?_
          have ew : w = 5 := by
            rcases (show w = 0 ∨ w = 1 ∨ w = 2 ∨ w = 3 ∨ w = 4 ∨ w = 5 by omega) with h | h | h | h | h | h
            · exact absurd (by rw [h]; rfl) c124_0
            · exact absurd (by rw [h]; rfl) c124_1
            · exact absurd (by rw [h]; rfl) c124_2
            · exact absurd (by rw [h]; rfl) c124_3
            · exact absurd (by rw [h]; rfl) c124_4
            · exact h
          subst ew
          refine x_aload_n (pc := 210) cx (dA ddX8_says (i := 106) rfl) rfl ?_
          refine gX8_52 (pc := 211) (rfA hM.2.2.2.2.2.2.2.2.2.2.2.2.1.1) cx (dA ddX8_says (i := 107) rfl) h0 ?_
          refine x_iload_n (pc := 214) cx (dA ddX8_says (i := 108) rfl) rfl ?_
          refine x_iaload (pc := 215) cx (dA ddX8_says (i := 109) rfl) hM.2.2.2.2.2.2.2.2.2.2.2.2.1.2 (by omega) (by decide) ?_
          rw [(q2 (by omega)).1]
          refine x_ireturn (pc := 216) cx (dA ddX8_says (i := 110) rfl) (by first | exact Nat.le_of_ble_eq_true rfl | omega) (by first | exact Nat.le_of_ble_eq_true rfl | omega) ?_
          exact pMI.q hRM (MF.refl V y) (by unfold fSays; rw [if_pos ⟨cr, cw⟩, shX_at hr, hq]; exact (if_pos (by rw [tw]; omega)).trans (by rw [tw]; rfl))
        · have w0 : w ≠ 0 := fun e => c42 (by rw [e]; rfl)
          refine x_aload_n (pc := 45) cx (dA ddX8_says (i := 24) rfl) rfl ?_
          refine gX8_28 (pc := 46) (rfA hM.2.2.2.2.2.2.1.1) cx (dA ddX8_says (i := 25) rfl) h0 ?_
          refine x_iload_n (pc := 49) cx (dA ddX8_says (i := 26) rfl) rfl ?_
          refine x_iaload (pc := 50) cx (dA ddX8_says (i := 27) rfl) hM.2.2.2.2.2.2.1.2 (by omega) (by decide) ?_
          rw [q1.1]
          refine x_iload_n (pc := 51) cx (dA ddX8_says (i := 28) rfl) rfl ?_
          refine x_icmp_eq (pc := 52) (tgt := 70) cx (dA ddX8_says (i := 29) rfl) (by decide) (fun c52 => ?_) (fun c52 => ?_)
          · have c52 := ceqT (by omega) (by omega) c52
            refine x_iconst (pc := 70) (v := nI 1) cx (dA ddX8_says (i := 39) rfl) (by decide) ?_
            refine x_goto (pc := 71) (tgt := 75) cx (dA ddX8_says (i := 40) rfl) (by decide) ?_
            refine x_istore_n (pc := 75) cx (dA ddX8_says (i := 42) rfl) (by decide) rfl ?_
            refine x_aload_n (pc := 76) cx (dA ddX8_says (i := 43) rfl) rfl ?_
            refine gX8_7 (pc := 77) (rfA hM.2.1.1) cx (dA ddX8_says (i := 44) rfl) h0 ?_
            refine x_iload_n (pc := 80) cx (dA ddX8_says (i := 45) rfl) rfl ?_
            refine x_iaload (pc := 81) cx (dA ddX8_says (i := 46) rfl) hM.2.1.2 (by omega) (by decide) ?_
            refine x_iconst (pc := 82) (v := nI 1) cx (dA ddX8_says (i := 47) rfl) (by decide) ?_
            refine x_icmp_eq (pc := 83) (tgt := 100) cx (dA ddX8_says (i := 48) rfl) (by decide) (fun c83 => absurd c83 (fun e => by rw [(hsm.2.2 q hq).1] at e; exact absurd e (by decide))) (fun c83 => ?_)
            refine x_aload_n (pc := 86) cx (dA ddX8_says (i := 49) rfl) rfl ?_
            refine gX8_7 (pc := 87) (rfA hM.2.1.1) cx (dA ddX8_says (i := 50) rfl) h0 ?_
            refine x_iload_n (pc := 90) cx (dA ddX8_says (i := 51) rfl) rfl ?_
            refine x_iaload (pc := 91) cx (dA ddX8_says (i := 52) rfl) hM.2.1.2 (by omega) (by decide) ?_
            refine x_iconst (pc := 92) (v := nI 2) cx (dA ddX8_says (i := 53) rfl) (by decide) ?_
            refine x_icmp_ne (pc := 93) (tgt := 107) cx (dA ddX8_says (i := 54) rfl) (by decide) (fun c93 => absurd (hsm.2.2 q hq).1 c93) (fun c93 => ?_)
            refine x_iload_n (pc := 96) cx (dA ddX8_says (i := 55) rfl) rfl ?_
            refine x_if_ne (pc := 97) (tgt := 107) cx (dA ddX8_says (i := 56) rfl) (by decide) (fun c97 => ?_) (fun c97 => absurd c97 (show ¬ nI 1 = 0 by decide))
            refine x_aload_n (pc := 107) cx (dA ddX8_says (i := 61) rfl) rfl ?_
            refine gX8_7 (pc := 108) (rfA hM.2.1.1) cx (dA ddX8_says (i := 62) rfl) h0 ?_
            refine x_iload_n (pc := 111) cx (dA ddX8_says (i := 63) rfl) rfl ?_
            refine x_iaload (pc := 112) cx (dA ddX8_says (i := 64) rfl) hM.2.1.2 (by omega) (by decide) ?_
            refine x_if_ne (pc := 113) (tgt := 123) cx (dA ddX8_says (i := 65) rfl) (by decide) (fun c113 => ?_) (fun c113 => absurd c113 (fun e => by rw [(hsm.2.2 q hq).1] at e; exact absurd e (by decide)))
            refine x_iload_n (pc := 123) cx (dA ddX8_says (i := 70) rfl) rfl ?_
            by_cases c124_0 : nI w = 0
            · refine x_tabIn (pc := 124) (v := 0) (tgt := 160) cx (dA ddX8_says (i := 71) rfl) (by rw [c124_0]; decide) (by decide) (by decide) rfl (by decide) ?_
              have ew : w = 0 := nI_inj (by omega) (by omega) c124_0
              subst ew
              refine x_iconst (pc := 160) (v := nI 0) cx (dA ddX8_says (i := 72) rfl) (by decide) ?_
              refine x_ireturn (pc := 161) cx (dA ddX8_says (i := 73) rfl) (by first | exact Nat.le_of_ble_eq_true rfl | omega) (by first | exact Nat.le_of_ble_eq_true rfl | omega) ?_
              exact pMI.q hRM (MF.refl V y) (by unfold fSays; rw [if_pos ⟨cr, cw⟩, shX_at hr, hq]; exact (if_pos (by rw [tw]; omega)).trans (by rw [tw]; rfl))
            by_cases c124_1 : nI w = 1
            · refine x_tabIn (pc := 124) (v := 1) (tgt := 162) cx (dA ddX8_says (i := 71) rfl) (by rw [c124_1]; decide) (by decide) (by decide) rfl (by decide) ?_
              have ew : w = 1 := nI_inj (by omega) (by omega) c124_1
              subst ew
              refine x_aload_n (pc := 162) cx (dA ddX8_says (i := 74) rfl) rfl ?_
              refine gX8_28 (pc := 163) (rfA hM.2.2.2.2.2.2.1.1) cx (dA ddX8_says (i := 75) rfl) h0 ?_
              refine x_iload_n (pc := 166) cx (dA ddX8_says (i := 76) rfl) rfl ?_
              refine x_iaload (pc := 167) cx (dA ddX8_says (i := 77) rfl) hM.2.2.2.2.2.2.1.2 (by omega) (by decide) ?_
              rw [q1.1]
              refine x_iconst (pc := 168) (v := nI 3) cx (dA ddX8_says (i := 78) rfl) (by decide) ?_
              refine x_icmp_ne (pc := 169) (tgt := 184) cx (dA ddX8_says (i := 79) rfl) (by decide) (fun c169 => ?_) (fun c169 => ?_)
              · have c169 := ceqF (by omega) (by omega) c169
                refine x_aload_n (pc := 184) cx (dA ddX8_says (i := 87) rfl) rfl ?_
                refine gX8_31 (pc := 185) (rfA hM.2.2.2.2.2.2.2.1.1) cx (dA ddX8_says (i := 88) rfl) h0 ?_
                refine x_iload_n (pc := 188) cx (dA ddX8_says (i := 89) rfl) rfl ?_
                refine x_iaload (pc := 189) cx (dA ddX8_says (i := 90) rfl) hM.2.2.2.2.2.2.2.1.2 (by omega) (by decide) ?_
                rw [q1.2.2.1]
                refine x_ireturn (pc := 190) cx (dA ddX8_says (i := 91) rfl) (by first | exact Nat.le_of_ble_eq_true rfl | omega) (by first | exact Nat.le_of_ble_eq_true rfl | omega) ?_
                exact pMI.q hRM (MF.refl V y) (by unfold fSays; rw [if_pos ⟨cr, cw⟩, shX_at hr, hq]; exact (if_pos (by rw [tw]; omega)).trans (by rw [tw]; show (nI (if q.1 = 3 then q.2.1 / 10 else q.2.1), S) = _; rw [if_neg c169]))
              · have c169 := ceqT (by omega) (by omega) c169
                refine x_aload_n (pc := 172) cx (dA ddX8_says (i := 80) rfl) rfl ?_
                refine gX8_31 (pc := 173) (rfA hM.2.2.2.2.2.2.2.1.1) cx (dA ddX8_says (i := 81) rfl) h0 ?_
                refine x_iload_n (pc := 176) cx (dA ddX8_says (i := 82) rfl) rfl ?_
                refine x_iaload (pc := 177) cx (dA ddX8_says (i := 83) rfl) hM.2.2.2.2.2.2.2.1.2 (by omega) (by decide) ?_
                rw [q1.2.2.1]
                refine x_bipush (pc := 178) (v := nI 10) cx (dA ddX8_says (i := 84) rfl) (by decide) ?_
                refine x_idiv (pc := 180) cx (by decide) (dA ddX8_says (i := 85) rfl) ?_
                have bk := q1.2.2.2.2.2.1 c169
                rw [div32 (by omega) (by omega) (by omega)]
                refine x_goto (pc := 181) (tgt := 190) cx (dA ddX8_says (i := 86) rfl) (by decide) ?_
                refine x_ireturn (pc := 190) cx (dA ddX8_says (i := 91) rfl) (by first | exact Nat.le_of_ble_eq_true rfl | omega) (by first | exact Nat.le_of_ble_eq_true rfl | omega) ?_
                exact pMI.q hRM (MF.refl V y) (by unfold fSays; rw [if_pos ⟨cr, cw⟩, shX_at hr, hq]; exact (if_pos (by rw [tw]; omega)).trans (by rw [tw]; show (nI (if q.1 = 3 then q.2.1 / 10 else q.2.1), S) = _; rw [if_pos c169]))
            by_cases c124_2 : nI w = 2
            · refine x_tabIn (pc := 124) (v := 2) (tgt := 191) cx (dA ddX8_says (i := 71) rfl) (by rw [c124_2]; decide) (by decide) (by decide) rfl (by decide) ?_
              have ew : w = 2 := nI_inj (by omega) (by omega) c124_2
              subst ew
              refine x_aload_n (pc := 191) cx (dA ddX8_says (i := 92) rfl) rfl ?_
              refine gX8_31 (pc := 192) (rfA hM.2.2.2.2.2.2.2.1.1) cx (dA ddX8_says (i := 93) rfl) h0 ?_
              refine x_iload_n (pc := 195) cx (dA ddX8_says (i := 94) rfl) rfl ?_
              refine x_iaload (pc := 196) cx (dA ddX8_says (i := 95) rfl) hM.2.2.2.2.2.2.2.1.2 (by omega) (by decide) ?_
              rw [q1.2.2.1]
              refine x_ireturn (pc := 197) cx (dA ddX8_says (i := 96) rfl) (by first | exact Nat.le_of_ble_eq_true rfl | omega) (by first | exact Nat.le_of_ble_eq_true rfl | omega) ?_
              exact pMI.q hRM (MF.refl V y) (by unfold fSays; rw [if_pos ⟨cr, cw⟩, shX_at hr, hq]; exact (if_pos (by rw [tw]; omega)).trans (by rw [tw]; rfl))
            by_cases c124_3 : nI w = 3
            · refine x_tabIn (pc := 124) (v := 3) (tgt := 198) cx (dA ddX8_says (i := 71) rfl) (by rw [c124_3]; decide) (by decide) (by decide) rfl (by decide) ?_
              have ew : w = 3 := nI_inj (by omega) (by omega) c124_3
              subst ew
              refine x_aload_n (pc := 198) cx (dA ddX8_says (i := 97) rfl) rfl ?_
              refine gX8_31 (pc := 199) (rfA hM.2.2.2.2.2.2.2.1.1) cx (dA ddX8_says (i := 98) rfl) h0 ?_
              refine x_iload_n (pc := 202) cx (dA ddX8_says (i := 99) rfl) rfl ?_
              refine x_iaload (pc := 203) cx (dA ddX8_says (i := 100) rfl) hM.2.2.2.2.2.2.2.1.2 (by omega) (by decide) ?_
              rw [q1.2.2.1]
              refine x_bipush (pc := 204) (v := nI 10) cx (dA ddX8_says (i := 101) rfl) (by decide) ?_
              refine x_irem (pc := 206) cx (by decide) (dA ddX8_says (i := 102) rfl) ?_
              have bk := q1.2.2.2.2.2.1 (by omega)
              rw [rem32 (by omega) (by omega) (by omega)]
              refine x_ireturn (pc := 207) cx (dA ddX8_says (i := 103) rfl) (by first | exact Nat.le_of_ble_eq_true rfl | omega) (by first | exact Nat.le_of_ble_eq_true rfl | omega) ?_
              exact pMI.q hRM (MF.refl V y) (by unfold fSays; rw [if_pos ⟨cr, cw⟩, shX_at hr, hq]; exact (if_pos (by rw [tw]; omega)).trans (by rw [tw]; rfl))
            by_cases c124_4 : nI w = 4
            · refine x_tabIn (pc := 124) (v := 4) (tgt := 208) cx (dA ddX8_says (i := 71) rfl) (by rw [c124_4]; decide) (by decide) (by decide) rfl (by decide) ?_
              have ew : w = 4 := nI_inj (by omega) (by omega) c124_4
              subst ew
              refine x_iconst (pc := 208) (v := nI 1) cx (dA ddX8_says (i := 104) rfl) (by decide) ?_
              refine x_ireturn (pc := 209) cx (dA ddX8_says (i := 105) rfl) (by first | exact Nat.le_of_ble_eq_true rfl | omega) (by first | exact Nat.le_of_ble_eq_true rfl | omega) ?_
              exact pMI.q hRM (MF.refl V y) (by unfold fSays; rw [if_pos ⟨cr, cw⟩, shX_at hr, hq]; exact (if_pos (by rw [tw]; omega)).trans (by rw [tw]; rfl))
            refine x_tabOut (pc := 124) (tgt := 210) cx (dA ddX8_says (i := 71) rfl) (by have t0 := lv_neT (a := 0) c124_0 (by decide); have t1 := lv_neT (a := 1) c124_1 (by decide); have t2 := lv_neT (a := 2) c124_2 (by decide); have t3 := lv_neT (a := 3) c124_3 (by decide); have t4 := lv_neT (a := 4) c124_4 (by decide); omega) (by decide) ?_
            have ew : w = 5 := by
              rcases (show w = 0 ∨ w = 1 ∨ w = 2 ∨ w = 3 ∨ w = 4 ∨ w = 5 by omega) with h | h | h | h | h | h
              · exact absurd (by rw [h]; rfl) c124_0
              · exact absurd (by rw [h]; rfl) c124_1
              · exact absurd (by rw [h]; rfl) c124_2
              · exact absurd (by rw [h]; rfl) c124_3
              · exact absurd (by rw [h]; rfl) c124_4
              · exact h
            subst ew
            refine x_aload_n (pc := 210) cx (dA ddX8_says (i := 106) rfl) rfl ?_
            refine gX8_52 (pc := 211) (rfA hM.2.2.2.2.2.2.2.2.2.2.2.2.1.1) cx (dA ddX8_says (i := 107) rfl) h0 ?_
            refine x_iload_n (pc := 214) cx (dA ddX8_says (i := 108) rfl) rfl ?_
            refine x_iaload (pc := 215) cx (dA ddX8_says (i := 109) rfl) hM.2.2.2.2.2.2.2.2.2.2.2.2.1.2 (by omega) (by decide) ?_
            rw [(q2 (by omega)).1]
            refine x_ireturn (pc := 216) cx (dA ddX8_says (i := 110) rfl) (by first | exact Nat.le_of_ble_eq_true rfl | omega) (by first | exact Nat.le_of_ble_eq_true rfl | omega) ?_
            exact pMI.q hRM (MF.refl V y) (by unfold fSays; rw [if_pos ⟨cr, cw⟩, shX_at hr, hq]; exact (if_pos (by rw [tw]; omega)).trans (by rw [tw]; rfl))
          · have c52 := ceqF (by omega) (by omega) c52
            refine x_iload_n (pc := 55) cx (dA ddX8_says (i := 30) rfl) rfl ?_
            refine x_iconst (pc := 56) (v := nI 1) cx (dA ddX8_says (i := 31) rfl) (by decide) ?_
            refine x_icmp_ne (pc := 57) (tgt := 74) cx (dA ddX8_says (i := 32) rfl) (by decide) (fun c57 => ?_) (fun c57 => ?_)
            · have c57 := ceqF (by omega) (by omega) c57
              refine x_iconst (pc := 74) (v := nI 0) cx (dA ddX8_says (i := 41) rfl) (by decide) ?_
              refine x_istore_n (pc := 75) cx (dA ddX8_says (i := 42) rfl) (by decide) rfl ?_
              refine x_aload_n (pc := 76) cx (dA ddX8_says (i := 43) rfl) rfl ?_
              refine gX8_7 (pc := 77) (rfA hM.2.1.1) cx (dA ddX8_says (i := 44) rfl) h0 ?_
              refine x_iload_n (pc := 80) cx (dA ddX8_says (i := 45) rfl) rfl ?_
              refine x_iaload (pc := 81) cx (dA ddX8_says (i := 46) rfl) hM.2.1.2 (by omega) (by decide) ?_
              refine x_iconst (pc := 82) (v := nI 1) cx (dA ddX8_says (i := 47) rfl) (by decide) ?_
              refine x_icmp_eq (pc := 83) (tgt := 100) cx (dA ddX8_says (i := 48) rfl) (by decide) (fun c83 => absurd c83 (fun e => by rw [(hsm.2.2 q hq).1] at e; exact absurd e (by decide))) (fun c83 => ?_)
              refine x_aload_n (pc := 86) cx (dA ddX8_says (i := 49) rfl) rfl ?_
              refine gX8_7 (pc := 87) (rfA hM.2.1.1) cx (dA ddX8_says (i := 50) rfl) h0 ?_
              refine x_iload_n (pc := 90) cx (dA ddX8_says (i := 51) rfl) rfl ?_
              refine x_iaload (pc := 91) cx (dA ddX8_says (i := 52) rfl) hM.2.1.2 (by omega) (by decide) ?_
              refine x_iconst (pc := 92) (v := nI 2) cx (dA ddX8_says (i := 53) rfl) (by decide) ?_
              refine x_icmp_ne (pc := 93) (tgt := 107) cx (dA ddX8_says (i := 54) rfl) (by decide) (fun c93 => absurd (hsm.2.2 q hq).1 c93) (fun c93 => ?_)
              refine x_iload_n (pc := 96) cx (dA ddX8_says (i := 55) rfl) rfl ?_
              refine x_if_ne (pc := 97) (tgt := 107) cx (dA ddX8_says (i := 56) rfl) (by decide) (fun c97 => absurd rfl c97) (fun c97 => ?_)
              refine x_aload_n (pc := 100) cx (dA ddX8_says (i := 57) rfl) rfl ?_
              refine x_bipush (pc := 101) (v := -3) cx (dA ddX8_says (i := 58) rfl) (by decide) ?_
              refine x_V1 (pc := 103) mX8_119 h0 (c_X8_refuse hM (i := 1) (by decide) rfl) cx (dA ddX8_says (i := 59) rfl) (kI ?_)
              refine x_ireturn (pc := 106) cx (dA ddX8_says (i := 60) rfl) (by first | exact Nat.le_of_ble_eq_true rfl | omega) (by first | exact Nat.le_of_ble_eq_true rfl | omega) ?_
              exact pMI.r hRM (by decide) (by unfold fSays; rw [if_pos ⟨cr, cw⟩, shX_at hr, hq]; exact if_neg (by rw [tw]; omega))
            · have c57 := ceqT (by omega) (by omega) c57
              refine x_aload_n (pc := 60) cx (dA ddX8_says (i := 33) rfl) rfl ?_
              refine gX8_28 (pc := 61) (rfA hM.2.2.2.2.2.2.1.1) cx (dA ddX8_says (i := 34) rfl) h0 ?_
              refine x_iload_n (pc := 64) cx (dA ddX8_says (i := 35) rfl) rfl ?_
              refine x_iaload (pc := 65) cx (dA ddX8_says (i := 36) rfl) hM.2.2.2.2.2.2.1.2 (by omega) (by decide) ?_
              rw [q1.1]
              refine x_iconst (pc := 66) (v := nI 3) cx (dA ddX8_says (i := 37) rfl) (by decide) ?_
              refine x_icmp_ne (pc := 67) (tgt := 74) cx (dA ddX8_says (i := 38) rfl) (by decide) (fun c67 => ?_) (fun c67 => ?_)
              · have c67 := ceqF (by omega) (by omega) c67
                refine x_iconst (pc := 74) (v := nI 0) cx (dA ddX8_says (i := 41) rfl) (by decide) ?_
                refine x_istore_n (pc := 75) cx (dA ddX8_says (i := 42) rfl) (by decide) rfl ?_
                refine x_aload_n (pc := 76) cx (dA ddX8_says (i := 43) rfl) rfl ?_
                refine gX8_7 (pc := 77) (rfA hM.2.1.1) cx (dA ddX8_says (i := 44) rfl) h0 ?_
                refine x_iload_n (pc := 80) cx (dA ddX8_says (i := 45) rfl) rfl ?_
                refine x_iaload (pc := 81) cx (dA ddX8_says (i := 46) rfl) hM.2.1.2 (by omega) (by decide) ?_
                refine x_iconst (pc := 82) (v := nI 1) cx (dA ddX8_says (i := 47) rfl) (by decide) ?_
                refine x_icmp_eq (pc := 83) (tgt := 100) cx (dA ddX8_says (i := 48) rfl) (by decide) (fun c83 => absurd c83 (fun e => by rw [(hsm.2.2 q hq).1] at e; exact absurd e (by decide))) (fun c83 => ?_)
                refine x_aload_n (pc := 86) cx (dA ddX8_says (i := 49) rfl) rfl ?_
                refine gX8_7 (pc := 87) (rfA hM.2.1.1) cx (dA ddX8_says (i := 50) rfl) h0 ?_
                refine x_iload_n (pc := 90) cx (dA ddX8_says (i := 51) rfl) rfl ?_
                refine x_iaload (pc := 91) cx (dA ddX8_says (i := 52) rfl) hM.2.1.2 (by omega) (by decide) ?_
                refine x_iconst (pc := 92) (v := nI 2) cx (dA ddX8_says (i := 53) rfl) (by decide) ?_
                refine x_icmp_ne (pc := 93) (tgt := 107) cx (dA ddX8_says (i := 54) rfl) (by decide) (fun c93 => absurd (hsm.2.2 q hq).1 c93) (fun c93 => ?_)
                refine x_iload_n (pc := 96) cx (dA ddX8_says (i := 55) rfl) rfl ?_
                refine x_if_ne (pc := 97) (tgt := 107) cx (dA ddX8_says (i := 56) rfl) (by decide) (fun c97 => absurd rfl c97) (fun c97 => ?_)
                refine x_aload_n (pc := 100) cx (dA ddX8_says (i := 57) rfl) rfl ?_
                refine x_bipush (pc := 101) (v := -3) cx (dA ddX8_says (i := 58) rfl) (by decide) ?_
                refine x_V1 (pc := 103) mX8_119 h0 (c_X8_refuse hM (i := 1) (by decide) rfl) cx (dA ddX8_says (i := 59) rfl) (kI ?_)
                refine x_ireturn (pc := 106) cx (dA ddX8_says (i := 60) rfl) (by first | exact Nat.le_of_ble_eq_true rfl | omega) (by first | exact Nat.le_of_ble_eq_true rfl | omega) ?_
                exact pMI.r hRM (by decide) (by unfold fSays; rw [if_pos ⟨cr, cw⟩, shX_at hr, hq]; exact if_neg (by rw [tw]; omega))
              · have c67 := ceqT (by omega) (by omega) c67
                refine x_iconst (pc := 70) (v := nI 1) cx (dA ddX8_says (i := 39) rfl) (by decide) ?_
                refine x_goto (pc := 71) (tgt := 75) cx (dA ddX8_says (i := 40) rfl) (by decide) ?_
                refine x_istore_n (pc := 75) cx (dA ddX8_says (i := 42) rfl) (by decide) rfl ?_
                refine x_aload_n (pc := 76) cx (dA ddX8_says (i := 43) rfl) rfl ?_
                refine gX8_7 (pc := 77) (rfA hM.2.1.1) cx (dA ddX8_says (i := 44) rfl) h0 ?_
                refine x_iload_n (pc := 80) cx (dA ddX8_says (i := 45) rfl) rfl ?_
                refine x_iaload (pc := 81) cx (dA ddX8_says (i := 46) rfl) hM.2.1.2 (by omega) (by decide) ?_
                refine x_iconst (pc := 82) (v := nI 1) cx (dA ddX8_says (i := 47) rfl) (by decide) ?_
                refine x_icmp_eq (pc := 83) (tgt := 100) cx (dA ddX8_says (i := 48) rfl) (by decide) (fun c83 => absurd c83 (fun e => by rw [(hsm.2.2 q hq).1] at e; exact absurd e (by decide))) (fun c83 => ?_)
                refine x_aload_n (pc := 86) cx (dA ddX8_says (i := 49) rfl) rfl ?_
                refine gX8_7 (pc := 87) (rfA hM.2.1.1) cx (dA ddX8_says (i := 50) rfl) h0 ?_
                refine x_iload_n (pc := 90) cx (dA ddX8_says (i := 51) rfl) rfl ?_
                refine x_iaload (pc := 91) cx (dA ddX8_says (i := 52) rfl) hM.2.1.2 (by omega) (by decide) ?_
                refine x_iconst (pc := 92) (v := nI 2) cx (dA ddX8_says (i := 53) rfl) (by decide) ?_
                refine x_icmp_ne (pc := 93) (tgt := 107) cx (dA ddX8_says (i := 54) rfl) (by decide) (fun c93 => absurd (hsm.2.2 q hq).1 c93) (fun c93 => ?_)
                refine x_iload_n (pc := 96) cx (dA ddX8_says (i := 55) rfl) rfl ?_
                refine x_if_ne (pc := 97) (tgt := 107) cx (dA ddX8_says (i := 56) rfl) (by decide) (fun c97 => ?_) (fun c97 => absurd c97 (show ¬ nI 1 = 0 by decide))
                refine x_aload_n (pc := 107) cx (dA ddX8_says (i := 61) rfl) rfl ?_
                refine gX8_7 (pc := 108) (rfA hM.2.1.1) cx (dA ddX8_says (i := 62) rfl) h0 ?_
                refine x_iload_n (pc := 111) cx (dA ddX8_says (i := 63) rfl) rfl ?_
                refine x_iaload (pc := 112) cx (dA ddX8_says (i := 64) rfl) hM.2.1.2 (by omega) (by decide) ?_
                refine x_if_ne (pc := 113) (tgt := 123) cx (dA ddX8_says (i := 65) rfl) (by decide) (fun c113 => ?_) (fun c113 => absurd c113 (fun e => by rw [(hsm.2.2 q hq).1] at e; exact absurd e (by decide)))
                refine x_iload_n (pc := 123) cx (dA ddX8_says (i := 70) rfl) rfl ?_
                by_cases c124_0 : nI w = 0
                · refine x_tabIn (pc := 124) (v := 0) (tgt := 160) cx (dA ddX8_says (i := 71) rfl) (by rw [c124_0]; decide) (by decide) (by decide) rfl (by decide) ?_
                  have ew : w = 0 := nI_inj (by omega) (by omega) c124_0
                  subst ew
                  refine x_iconst (pc := 160) (v := nI 0) cx (dA ddX8_says (i := 72) rfl) (by decide) ?_
                  refine x_ireturn (pc := 161) cx (dA ddX8_says (i := 73) rfl) (by first | exact Nat.le_of_ble_eq_true rfl | omega) (by first | exact Nat.le_of_ble_eq_true rfl | omega) ?_
                  exact pMI.q hRM (MF.refl V y) (by unfold fSays; rw [if_pos ⟨cr, cw⟩, shX_at hr, hq]; exact (if_pos (by rw [tw]; omega)).trans (by rw [tw]; rfl))
                by_cases c124_1 : nI w = 1
                · refine x_tabIn (pc := 124) (v := 1) (tgt := 162) cx (dA ddX8_says (i := 71) rfl) (by rw [c124_1]; decide) (by decide) (by decide) rfl (by decide) ?_
                  have ew : w = 1 := nI_inj (by omega) (by omega) c124_1
                  subst ew
                  refine x_aload_n (pc := 162) cx (dA ddX8_says (i := 74) rfl) rfl ?_
                  refine gX8_28 (pc := 163) (rfA hM.2.2.2.2.2.2.1.1) cx (dA ddX8_says (i := 75) rfl) h0 ?_
                  refine x_iload_n (pc := 166) cx (dA ddX8_says (i := 76) rfl) rfl ?_
                  refine x_iaload (pc := 167) cx (dA ddX8_says (i := 77) rfl) hM.2.2.2.2.2.2.1.2 (by omega) (by decide) ?_
                  rw [q1.1]
                  refine x_iconst (pc := 168) (v := nI 3) cx (dA ddX8_says (i := 78) rfl) (by decide) ?_
                  refine x_icmp_ne (pc := 169) (tgt := 184) cx (dA ddX8_says (i := 79) rfl) (by decide) (fun c169 => ?_) (fun c169 => ?_)
                  · have c169 := ceqF (by omega) (by omega) c169
                    refine x_aload_n (pc := 184) cx (dA ddX8_says (i := 87) rfl) rfl ?_
                    refine gX8_31 (pc := 185) (rfA hM.2.2.2.2.2.2.2.1.1) cx (dA ddX8_says (i := 88) rfl) h0 ?_
                    refine x_iload_n (pc := 188) cx (dA ddX8_says (i := 89) rfl) rfl ?_
                    refine x_iaload (pc := 189) cx (dA ddX8_says (i := 90) rfl) hM.2.2.2.2.2.2.2.1.2 (by omega) (by decide) ?_
                    rw [q1.2.2.1]
                    refine x_ireturn (pc := 190) cx (dA ddX8_says (i := 91) rfl) (by first | exact Nat.le_of_ble_eq_true rfl | omega) (by first | exact Nat.le_of_ble_eq_true rfl | omega) ?_
                    exact pMI.q hRM (MF.refl V y) (by unfold fSays; rw [if_pos ⟨cr, cw⟩, shX_at hr, hq]; exact (if_pos (by rw [tw]; omega)).trans (by rw [tw]; show (nI (if q.1 = 3 then q.2.1 / 10 else q.2.1), S) = _; rw [if_neg c169]))
                  · have c169 := ceqT (by omega) (by omega) c169
                    refine x_aload_n (pc := 172) cx (dA ddX8_says (i := 80) rfl) rfl ?_
                    refine gX8_31 (pc := 173) (rfA hM.2.2.2.2.2.2.2.1.1) cx (dA ddX8_says (i := 81) rfl) h0 ?_
                    refine x_iload_n (pc := 176) cx (dA ddX8_says (i := 82) rfl) rfl ?_
                    refine x_iaload (pc := 177) cx (dA ddX8_says (i := 83) rfl) hM.2.2.2.2.2.2.2.1.2 (by omega) (by decide) ?_
                    rw [q1.2.2.1]
                    refine x_bipush (pc := 178) (v := nI 10) cx (dA ddX8_says (i := 84) rfl) (by decide) ?_
                    refine x_idiv (pc := 180) cx (by decide) (dA ddX8_says (i := 85) rfl) ?_
                    have bk := q1.2.2.2.2.2.1 c169
                    rw [div32 (by omega) (by omega) (by omega)]
                    refine x_goto (pc := 181) (tgt := 190) cx (dA ddX8_says (i := 86) rfl) (by decide) ?_
                    refine x_ireturn (pc := 190) cx (dA ddX8_says (i := 91) rfl) (by first | exact Nat.le_of_ble_eq_true rfl | omega) (by first | exact Nat.le_of_ble_eq_true rfl | omega) ?_
                    exact pMI.q hRM (MF.refl V y) (by unfold fSays; rw [if_pos ⟨cr, cw⟩, shX_at hr, hq]; exact (if_pos (by rw [tw]; omega)).trans (by rw [tw]; show (nI (if q.1 = 3 then q.2.1 / 10 else q.2.1), S) = _; rw [if_pos c169]))
                by_cases c124_2 : nI w = 2
                · refine x_tabIn (pc := 124) (v := 2) (tgt := 191) cx (dA ddX8_says (i := 71) rfl) (by rw [c124_2]; decide) (by decide) (by decide) rfl (by decide) ?_
                  have ew : w = 2 := nI_inj (by omega) (by omega) c124_2
                  subst ew
                  refine x_aload_n (pc := 191) cx (dA ddX8_says (i := 92) rfl) rfl ?_
                  refine gX8_31 (pc := 192) (rfA hM.2.2.2.2.2.2.2.1.1) cx (dA ddX8_says (i := 93) rfl) h0 ?_
                  refine x_iload_n (pc := 195) cx (dA ddX8_says (i := 94) rfl) rfl ?_
                  refine x_iaload (pc := 196) cx (dA ddX8_says (i := 95) rfl) hM.2.2.2.2.2.2.2.1.2 (by omega) (by decide) ?_
                  rw [q1.2.2.1]
                  refine x_ireturn (pc := 197) cx (dA ddX8_says (i := 96) rfl) (by first | exact Nat.le_of_ble_eq_true rfl | omega) (by first | exact Nat.le_of_ble_eq_true rfl | omega) ?_
                  exact pMI.q hRM (MF.refl V y) (by unfold fSays; rw [if_pos ⟨cr, cw⟩, shX_at hr, hq]; exact (if_pos (by rw [tw]; omega)).trans (by rw [tw]; rfl))
                by_cases c124_3 : nI w = 3
                · refine x_tabIn (pc := 124) (v := 3) (tgt := 198) cx (dA ddX8_says (i := 71) rfl) (by rw [c124_3]; decide) (by decide) (by decide) rfl (by decide) ?_
                  have ew : w = 3 := nI_inj (by omega) (by omega) c124_3
                  subst ew
                  refine x_aload_n (pc := 198) cx (dA ddX8_says (i := 97) rfl) rfl ?_
                  refine gX8_31 (pc := 199) (rfA hM.2.2.2.2.2.2.2.1.1) cx (dA ddX8_says (i := 98) rfl) h0 ?_
                  refine x_iload_n (pc := 202) cx (dA ddX8_says (i := 99) rfl) rfl ?_
                  refine x_iaload (pc := 203) cx (dA ddX8_says (i := 100) rfl) hM.2.2.2.2.2.2.2.1.2 (by omega) (by decide) ?_
                  rw [q1.2.2.1]
                  refine x_bipush (pc := 204) (v := nI 10) cx (dA ddX8_says (i := 101) rfl) (by decide) ?_
                  refine x_irem (pc := 206) cx (by decide) (dA ddX8_says (i := 102) rfl) ?_
                  have bk := q1.2.2.2.2.2.1 (by omega)
                  rw [rem32 (by omega) (by omega) (by omega)]
                  refine x_ireturn (pc := 207) cx (dA ddX8_says (i := 103) rfl) (by first | exact Nat.le_of_ble_eq_true rfl | omega) (by first | exact Nat.le_of_ble_eq_true rfl | omega) ?_
                  exact pMI.q hRM (MF.refl V y) (by unfold fSays; rw [if_pos ⟨cr, cw⟩, shX_at hr, hq]; exact (if_pos (by rw [tw]; omega)).trans (by rw [tw]; rfl))
                by_cases c124_4 : nI w = 4
                · refine x_tabIn (pc := 124) (v := 4) (tgt := 208) cx (dA ddX8_says (i := 71) rfl) (by rw [c124_4]; decide) (by decide) (by decide) rfl (by decide) ?_
                  have ew : w = 4 := nI_inj (by omega) (by omega) c124_4
                  subst ew
                  refine x_iconst (pc := 208) (v := nI 1) cx (dA ddX8_says (i := 104) rfl) (by decide) ?_
                  refine x_ireturn (pc := 209) cx (dA ddX8_says (i := 105) rfl) (by first | exact Nat.le_of_ble_eq_true rfl | omega) (by first | exact Nat.le_of_ble_eq_true rfl | omega) ?_
                  exact pMI.q hRM (MF.refl V y) (by unfold fSays; rw [if_pos ⟨cr, cw⟩, shX_at hr, hq]; exact (if_pos (by rw [tw]; omega)).trans (by rw [tw]; rfl))
                refine x_tabOut (pc := 124) (tgt := 210) cx (dA ddX8_says (i := 71) rfl) (by have t0 := lv_neT (a := 0) c124_0 (by decide); have t1 := lv_neT (a := 1) c124_1 (by decide); have t2 := lv_neT (a := 2) c124_2 (by decide); have t3 := lv_neT (a := 3) c124_3 (by decide); have t4 := lv_neT (a := 4) c124_4 (by decide); omega) (by decide) ?_
                have ew : w = 5 := by
                  rcases (show w = 0 ∨ w = 1 ∨ w = 2 ∨ w = 3 ∨ w = 4 ∨ w = 5 by omega) with h | h | h | h | h | h
                  · exact absurd (by rw [h]; rfl) c124_0
                  · exact absurd (by rw [h]; rfl) c124_1
                  · exact absurd (by rw [h]; rfl) c124_2
                  · exact absurd (by rw [h]; rfl) c124_3
                  · exact absurd (by rw [h]; rfl) c124_4
                  · exact h
                subst ew
                refine x_aload_n (pc := 210) cx (dA ddX8_says (i := 106) rfl) rfl ?_
                refine gX8_52 (pc := 211) (rfA hM.2.2.2.2.2.2.2.2.2.2.2.2.1.1) cx (dA ddX8_says (i := 107) rfl) h0 ?_
                refine x_iload_n (pc := 214) cx (dA ddX8_says (i := 108) rfl) rfl ?_
                refine x_iaload (pc := 215) cx (dA ddX8_says (i := 109) rfl) hM.2.2.2.2.2.2.2.2.2.2.2.2.1.2 (by omega) (by decide) ?_
                rw [(q2 (by omega)).1]
                refine x_ireturn (pc := 216) cx (dA ddX8_says (i := 110) rfl) (by first | exact Nat.le_of_ble_eq_true rfl | omega) (by first | exact Nat.le_of_ble_eq_true rfl | omega) ?_
                exact pMI.q hRM (MF.refl V y) (by unfold fSays; rw [if_pos ⟨cr, cw⟩, shX_at hr, hq]; exact (if_pos (by rw [tw]; omega)).trans (by rw [tw]; rfl))
    · have c21 := b2i_eq c21
      refine x_aload_n (pc := 24) cx (dA ddX8_says (i := 12) rfl) rfl ?_
      refine x_bipush (pc := 25) (v := -2) cx (dA ddX8_says (i := 13) rfl) (by decide) ?_
      refine x_V1 (pc := 27) mX8_119 h0 (c_X8_refuse hM (i := 0) (by decide) rfl) cx (dA ddX8_says (i := 14) rfl) (kI ?_)
      refine x_ireturn (pc := 30) cx (dA ddX8_says (i := 15) rfl) (by first | exact Nat.le_of_ble_eq_true rfl | omega) (by first | exact Nat.le_of_ble_eq_true rfl | omega) ?_
      first | exact pMI.r hRM (by decide) (if_neg (fun q => c21 q.2))
theorem c_X8_holds {l : Launch} {Z : zP} {G : zG} {V : zV} {y : Nat} {zk : Option Nat} {S : SX} (hRM : RM Z G V y zk S) {r : Int32} : CT l Z yX8_holds cX8_holds 2 (some .int) 2 0 0 [.ref y, .int r] G V (pMI Z G V y zk (fHolds S r)) := by
  refine CT.of (by decide +kernel) (Nat.le_of_ble_eq_true rfl) (fun X hX cx => ?_)
  subst hX
  show Wm Z X 2 G V 0 0 _ 0 [(0, some (.ref y)), (1, some (.int r))] []
  have hM := hRM.1
  have h0 := hM.1
  have hc := hRM.2.2.1.1
  have c6 := hRM.2.2.1.2.1
  have hmu := hRM.2.2.2.2.2.2.1
  refine x_iload_n (pc := 0) cx (dA ddX8_holds (i := 0) rfl) rfl ?_
  refine x_i2l (pc := 1) cx (dA ddX8_holds (i := 1) rfl) ?_
  refine x_lconst (pc := 2) (v := lN 0) cx (dA ddX8_holds (i := 2) rfl) rfl ?_
  refine x_ldc2 (pc := 3) cx klX8_113 (dA ddX8_holds (i := 3) rfl) ?_
  refine x_S3 (pc := 6) mX8_94 c_X8_in cx (dA ddX8_holds (i := 4) rfl) (kI ?_)
  rw [l0_toInt, tl_toInt, show (lN 7).toInt = 7 from rfl]
  refine x_if_eq (pc := 9) (tgt := 21) cx (dA ddX8_holds (i := 5) rfl) (by decide) (fun c9 => ?_) (fun c9 => ?_)
  · have c9 := b2i_eq c9
    refine x_iconst (pc := 21) (v := -1) cx (dA ddX8_holds (i := 11) rfl) (by decide) ?_
    refine x_ireturn (pc := 22) cx (dA ddX8_holds (i := 12) rfl) (by first | exact Nat.le_of_ble_eq_true rfl | omega) (by first | exact Nat.le_of_ble_eq_true rfl | omega) ?_
    exact pMI.q hRM (MF.refl V y) (if_neg (fun q => by have z := q; exact c9 ⟨z.1, by have := z.2; omega⟩))
  · have cr := b2i_ne c9
    obtain ⟨r, hr, rfl, tr⟩ := i32_in (x := r) (n := 8) ⟨cr.1, by have := cr.2; omega⟩
    have cr : oks (nI r) := ⟨cr.1, by have := cr.2; omega⟩
    have hsm := hRM.2.2.2.1 r hr
    refine x_aload_n (pc := 12) cx (dA ddX8_holds (i := 6) rfl) rfl ?_
    refine gX8_7 (pc := 13) (rfA hM.2.1.1) cx (dA ddX8_holds (i := 7) rfl) h0 ?_
    refine x_iload_n (pc := 16) cx (dA ddX8_holds (i := 8) rfl) rfl ?_
    refine x_iaload (pc := 17) cx (dA ddX8_holds (i := 9) rfl) hM.2.1.2 (by omega) (by decide) ?_
    refine x_if_ne (pc := 18) (tgt := 23) cx (dA ddX8_holds (i := 10) rfl) (by decide) (fun c18 => ?_) (fun c18 => ?_)
    · refine x_aload_n (pc := 23) cx (dA ddX8_holds (i := 13) rfl) rfl ?_
      refine gX8_7 (pc := 24) (rfA hM.2.1.1) cx (dA ddX8_holds (i := 14) rfl) h0 ?_
      refine x_iload_n (pc := 27) cx (dA ddX8_holds (i := 15) rfl) rfl ?_
      refine x_iaload (pc := 28) cx (dA ddX8_holds (i := 16) rfl) hM.2.1.2 (by omega) (by decide) ?_
      refine x_iconst (pc := 29) (v := nI 1) cx (dA ddX8_holds (i := 17) rfl) (by decide) ?_
      refine x_icmp_ne (pc := 30) (tgt := 42) cx (dA ddX8_holds (i := 18) rfl) (by decide) (fun c30 => ?_) (fun c30 => ?_)
      · obtain ⟨q, hq⟩ := hsm.n10 c30 c18
        have q1 := (hsm.2.2 q hq).2.1
        refine x_bipush (pc := 42) (v := nI 10) cx (dA ddX8_holds (i := 24) rfl) (by decide) ?_
        refine x_aload_n (pc := 44) cx (dA ddX8_holds (i := 25) rfl) rfl ?_
        refine gX8_28 (pc := 45) (rfA hM.2.2.2.2.2.2.1.1) cx (dA ddX8_holds (i := 26) rfl) h0 ?_
        refine x_iload_n (pc := 48) cx (dA ddX8_holds (i := 27) rfl) rfl ?_
        refine x_iaload (pc := 49) cx (dA ddX8_holds (i := 28) rfl) hM.2.2.2.2.2.2.1.2 (by omega) (by decide) ?_
        rw [q1.1]
        refine x_iadd (pc := 50) cx (dA ddX8_holds (i := 29) rfl) ?_
        rw [nI_add]
        refine x_ireturn (pc := 51) cx (dA ddX8_holds (i := 30) rfl) (by first | exact Nat.le_of_ble_eq_true rfl | omega) (by first | exact Nat.le_of_ble_eq_true rfl | omega) ?_
        exact pMI.q hRM (MF.refl V y) (by unfold fHolds; rw [if_pos cr, shX_at hr, hq])
      · obtain ⟨q, hq⟩ := hsm.i1 c30
        have q1 := hsm.2.1 q hq
        refine x_aload_n (pc := 33) cx (dA ddX8_holds (i := 19) rfl) rfl ?_
        refine gX8_13 (pc := 34) (rfA hM.2.2.1.1) cx (dA ddX8_holds (i := 20) rfl) h0 ?_
        refine x_iload_n (pc := 37) cx (dA ddX8_holds (i := 21) rfl) rfl ?_
        refine x_iaload (pc := 38) cx (dA ddX8_holds (i := 22) rfl) hM.2.2.1.2 (by omega) (by decide) ?_
        rw [q1.2.1]
        refine x_goto (pc := 39) (tgt := 51) cx (dA ddX8_holds (i := 23) rfl) (by decide) ?_
        refine x_ireturn (pc := 51) cx (dA ddX8_holds (i := 30) rfl) (by first | exact Nat.le_of_ble_eq_true rfl | omega) (by first | exact Nat.le_of_ble_eq_true rfl | omega) ?_
        exact pMI.q hRM (MF.refl V y) (by unfold fHolds; rw [if_pos cr, shX_at hr, hq])
    · have hq := hsm.i0 c18
      refine x_iconst (pc := 21) (v := -1) cx (dA ddX8_holds (i := 11) rfl) (by decide) ?_
      refine x_ireturn (pc := 22) cx (dA ddX8_holds (i := 12) rfl) (by first | exact Nat.le_of_ble_eq_true rfl | omega) (by first | exact Nat.le_of_ble_eq_true rfl | omega) ?_
      exact pMI.q hRM (MF.refl V y) (by unfold fHolds; rw [if_pos cr, shX_at hr, hq])
theorem c_X8_element {l : Launch} {Z : zP} {G : zG} {V : zV} {y : Nat} {zk : Option Nat} {S : SX} (hRM : RM Z G V y zk S) {r j : Int32} : CT l Z yX8_element cX8_element 3 (some .long) 2 0 0 [.ref y, .int r, .int j] G V (pMJ Z G V y zk (fElement S r j)) := by
  refine CT.of (by decide +kernel) (Nat.le_of_ble_eq_true rfl) (fun X hX cx => ?_)
  subst hX
  show Wm Z X 3 G V 0 0 _ 0 [(0, some (.ref y)), (1, some (.int r)), (2, some (.int j))] []
  have hM := hRM.1
  have h0 := hM.1
  have hc := hRM.2.2.1.1
  have c6 := hRM.2.2.1.2.1
  have hmu := hRM.2.2.2.2.2.2.1
  refine x_iload_n (pc := 0) cx (dA ddX8_element (i := 0) rfl) rfl ?_
  refine x_i2l (pc := 1) cx (dA ddX8_element (i := 1) rfl) ?_
  refine x_lconst (pc := 2) (v := lN 0) cx (dA ddX8_element (i := 2) rfl) rfl ?_
  refine x_ldc2 (pc := 3) cx klX8_113 (dA ddX8_element (i := 3) rfl) ?_
  refine x_S3 (pc := 6) mX8_94 c_X8_in cx (dA ddX8_element (i := 4) rfl) (kI ?_)
  rw [l0_toInt, tl_toInt, show (lN 7).toInt = 7 from rfl]
  refine x_if_eq (pc := 9) (tgt := 51) cx (dA ddX8_element (i := 5) rfl) (by decide) (fun c9 => ?_) (fun c9 => ?_)
  · have c9 := b2i_eq c9
    refine x_lconst (pc := 51) (v := lN 0) cx (dA ddX8_element (i := 31) rfl) rfl ?_
    refine x_lreturn (pc := 52) cx (dA ddX8_element (i := 32) rfl) (by first | exact Nat.le_of_ble_eq_true rfl | omega) (by first | exact Nat.le_of_ble_eq_true rfl | omega) ?_
    exact pMJ.q hRM (MF.refl V y) (if_neg (fun q => by have z := q; exact c9 ⟨z.1, by have := z.2; omega⟩))
  · have cr := b2i_ne c9
    obtain ⟨r, hr, rfl, tr⟩ := i32_in (x := r) (n := 8) ⟨cr.1, by have := cr.2; omega⟩
    have cr : oks (nI r) := ⟨cr.1, by have := cr.2; omega⟩
    have hsm := hRM.2.2.2.1 r hr
    refine x_aload_n (pc := 12) cx (dA ddX8_element (i := 6) rfl) rfl ?_
    refine gX8_7 (pc := 13) (rfA hM.2.1.1) cx (dA ddX8_element (i := 7) rfl) h0 ?_
    refine x_iload_n (pc := 16) cx (dA ddX8_element (i := 8) rfl) rfl ?_
    refine x_iaload (pc := 17) cx (dA ddX8_element (i := 9) rfl) hM.2.1.2 (by omega) (by decide) ?_
    refine x_iconst (pc := 18) (v := nI 1) cx (dA ddX8_element (i := 10) rfl) (by decide) ?_
    refine x_icmp_ne (pc := 19) (tgt := 51) cx (dA ddX8_element (i := 11) rfl) (by decide) (fun c19 => ?_) (fun c19 => ?_)
    · refine x_lconst (pc := 51) (v := lN 0) cx (dA ddX8_element (i := 31) rfl) rfl ?_
      refine x_lreturn (pc := 52) cx (dA ddX8_element (i := 32) rfl) (by first | exact Nat.le_of_ble_eq_true rfl | omega) (by first | exact Nat.le_of_ble_eq_true rfl | omega) ?_
      refine pMJ.q hRM (MF.refl V y) ?_
      unfold fElement
      rw [if_pos cr, shX_at hr]
      match e : S.2.2.2.1 r with
      | none => rfl
      | some (.inl q) => exact absurd (hsm.2.1 q e).1 c19
      | some (.inr q) => rfl
    · obtain ⟨q, hq⟩ := hsm.i1 c19
      obtain ⟨-, q1, q2, q3, q4, q5⟩ := hsm.2.1 q hq
      refine x_iload_n (pc := 22) cx (dA ddX8_element (i := 12) rfl) rfl ?_
      refine x_i2l (pc := 23) cx (dA ddX8_element (i := 13) rfl) ?_
      refine x_lconst (pc := 24) (v := lN 0) cx (dA ddX8_element (i := 14) rfl) rfl ?_
      refine x_aload_n (pc := 25) cx (dA ddX8_element (i := 15) rfl) rfl ?_
      refine gX8_16 (pc := 26) (rfA hM.2.2.2.1.1) cx (dA ddX8_element (i := 16) rfl) h0 ?_
      refine x_iload_n (pc := 29) cx (dA ddX8_element (i := 17) rfl) rfl ?_
      refine x_iaload (pc := 30) cx (dA ddX8_element (i := 18) rfl) hM.2.2.2.1.2 (by omega) (by decide) ?_
      rw [q3]
      refine x_iconst (pc := 31) (v := nI 1) cx (dA ddX8_element (i := 19) rfl) (by decide) ?_
      refine x_isub (pc := 32) cx (dA ddX8_element (i := 20) rfl) ?_
      refine x_i2l (pc := 33) cx (dA ddX8_element (i := 21) rfl) ?_
      refine x_S3 (pc := 34) mX8_94 c_X8_in cx (dA ddX8_element (i := 22) rfl) (kI ?_)
      rw [l0_toInt, tl_toInt, tl_toInt, sub1_toInt (by omega)]
      refine x_if_eq (pc := 37) (tgt := 51) cx (dA ddX8_element (i := 23) rfl) (by decide) (fun c37 => ?_) (fun c37 => ?_)
      · have c37 := b2i_eq c37
        refine x_lconst (pc := 51) (v := lN 0) cx (dA ddX8_element (i := 31) rfl) rfl ?_
        refine x_lreturn (pc := 52) cx (dA ddX8_element (i := 32) rfl) (by first | exact Nat.le_of_ble_eq_true rfl | omega) (by first | exact Nat.le_of_ble_eq_true rfl | omega) ?_
        exact pMJ.q hRM (MF.refl V y) (by unfold fElement; rw [if_pos cr, shX_at hr, hq]; exact if_neg (fun z => c37 ⟨z.1, by have := z.2; omega⟩))
      · have c37 := b2i_ne c37
        obtain ⟨j, hj, rfl, tj⟩ := i32_in (x := j) (n := q.2.1) ⟨c37.1, by have := c37.2; omega⟩
        refine x_aload_n (pc := 40) cx (dA ddX8_element (i := 24) rfl) rfl ?_
        refine gX8_21 (pc := 41) (rfA hM.2.2.2.2.1.1) cx (dA ddX8_element (i := 25) rfl) h0 ?_
        refine x_iload_n (pc := 44) cx (dA ddX8_element (i := 26) rfl) rfl ?_
        refine x_aaload (pc := 45) cx (dA ddX8_element (i := 27) rfl) hM.2.2.2.2.1.2.1 (by decide) (by decide) hr (by decide) ?_
        rw [arA (hM.2.2.2.2.1.2.2 r hr).1]
        refine x_iload_n (pc := 46) cx (dA ddX8_element (i := 28) rfl) rfl ?_
        refine x_laload (pc := 47) cx (dA ddX8_element (i := 29) rfl) (hM.2.2.2.2.1.2.2 r hr).2 (by omega) (by decide) ?_
        rw [q5 j hj]
        refine x_goto (pc := 48) (tgt := 52) cx (dA ddX8_element (i := 30) rfl) (by decide) ?_
        refine x_lreturn (pc := 52) cx (dA ddX8_element (i := 32) rfl) (by first | exact Nat.le_of_ble_eq_true rfl | omega) (by first | exact Nat.le_of_ble_eq_true rfl | omega) ?_
        exact pMJ.q hRM (MF.refl V y) (by unfold fElement; rw [if_pos cr, shX_at hr, hq]; exact (if_pos ⟨c37.1, by have := c37.2; omega⟩).trans (by rw [tj]))
theorem c_X8_week {l : Launch} {Z : zP} {G : zG} {V : zV} {y : Nat} {zk : Option Nat} {S : SX} (hRM : RM Z G V y zk S) {w : Int32} : CT l Z yX8_week cX8_week 2 (some .int) 2 0 0 [.ref y, .int w] G V (pMI Z G V y zk (fWeek S w)) := by
  refine CT.of (by decide +kernel) (Nat.le_of_ble_eq_true rfl) (fun X hX cx => ?_)
  subst hX
  show Wm Z X 2 G V 0 0 _ 0 [(0, some (.ref y)), (1, some (.int w))] []
  have hM := hRM.1
  have h0 := hM.1
  have hc := hRM.2.2.1.1
  have c6 := hRM.2.2.1.2.1
  have hmu := hRM.2.2.2.2.2.2.1
  have hws := hRM.2.2.1.2.2.2.2
  refine x_iload_n (pc := 0) cx (dA ddX8_week (i := 0) rfl) rfl ?_
  refine x_i2l (pc := 1) cx (dA ddX8_week (i := 1) rfl) ?_
  refine x_lconst (pc := 2) (v := lN 0) cx (dA ddX8_week (i := 2) rfl) rfl ?_
  refine x_ldc2 (pc := 3) cx klX8_130 (dA ddX8_week (i := 3) rfl) ?_
  refine x_S3 (pc := 6) mX8_94 c_X8_in cx (dA ddX8_week (i := 4) rfl) (kI ?_)
  rw [l0_toInt, tl_toInt, show (lN 5).toInt = 5 from rfl]
  refine x_if_ne (pc := 9) (tgt := 19) cx (dA ddX8_week (i := 5) rfl) (by decide) (fun c9 => ?_) (fun c9 => ?_)
  · have cw := b2i_ne c9
    obtain ⟨w, hw, rfl, tw⟩ := i32_in (x := w) (n := 6) ⟨cw.1, by have := cw.2; omega⟩
    refine x_aload_n (pc := 19) cx (dA ddX8_week (i := 10) rfl) rfl ?_
    refine gX8_346 (pc := 20) rfl cx (dA ddX8_week (i := 11) rfl) h0 ?_
    refine x_if_ne (pc := 23) (tgt := 33) cx (dA ddX8_week (i := 12) rfl) (by decide) (fun c23 => ?_) (fun c23 => ?_)
    · obtain ⟨ws, hq⟩ : ∃ ws, S.1.2.2.2 = some ws := by cases e : S.1.2.2.2 with | none => exact absurd (hws.1 e) c23 | some ws => exact ⟨ws, rfl⟩
      obtain ⟨-, -, -, -, ⟨g1, g2, g3, g4, g5, g6⟩, -⟩ := hws.2 ws hq
      refine x_iload_n (pc := 33) cx (dA ddX8_week (i := 17) rfl) rfl ?_
      by_cases c34_0 : nI w = 0
      · refine x_tabIn (pc := 34) (v := 0) (tgt := 68) cx (dA ddX8_week (i := 18) rfl) (by rw [c34_0]; decide) (by decide) (by decide) rfl (by decide) ?_
        have ew : w = 0 := nI_inj (by omega) (by omega) c34_0
        subst ew
        refine x_aload_n (pc := 68) cx (dA ddX8_week (i := 19) rfl) rfl ?_
        refine gX8_349 (pc := 69) (congrArg Value.int g1) cx (dA ddX8_week (i := 20) rfl) h0 ?_
        refine x_ireturn (pc := 72) cx (dA ddX8_week (i := 21) rfl) (by first | exact Nat.le_of_ble_eq_true rfl | omega) (by first | exact Nat.le_of_ble_eq_true rfl | omega) ?_
        exact pMI.q hRM (MF.refl V y) (by unfold fWeek; rw [if_pos cw, hq]; rw [tw]; rfl)
      by_cases c34_1 : nI w = 1
      · refine x_tabIn (pc := 34) (v := 1) (tgt := 73) cx (dA ddX8_week (i := 18) rfl) (by rw [c34_1]; decide) (by decide) (by decide) rfl (by decide) ?_
        have ew : w = 1 := nI_inj (by omega) (by omega) c34_1
        subst ew
        refine x_aload_n (pc := 73) cx (dA ddX8_week (i := 22) rfl) rfl ?_
        refine gX8_352 (pc := 74) (congrArg Value.int g2) cx (dA ddX8_week (i := 23) rfl) h0 ?_
        refine x_ireturn (pc := 77) cx (dA ddX8_week (i := 24) rfl) (by first | exact Nat.le_of_ble_eq_true rfl | omega) (by first | exact Nat.le_of_ble_eq_true rfl | omega) ?_
        exact pMI.q hRM (MF.refl V y) (by unfold fWeek; rw [if_pos cw, hq]; rw [tw]; rfl)
      by_cases c34_2 : nI w = 2
      · refine x_tabIn (pc := 34) (v := 2) (tgt := 78) cx (dA ddX8_week (i := 18) rfl) (by rw [c34_2]; decide) (by decide) (by decide) rfl (by decide) ?_
        have ew : w = 2 := nI_inj (by omega) (by omega) c34_2
        subst ew
        refine x_aload_n (pc := 78) cx (dA ddX8_week (i := 25) rfl) rfl ?_
        refine gX8_355 (pc := 79) (congrArg Value.int g3) cx (dA ddX8_week (i := 26) rfl) h0 ?_
        refine x_ireturn (pc := 82) cx (dA ddX8_week (i := 27) rfl) (by first | exact Nat.le_of_ble_eq_true rfl | omega) (by first | exact Nat.le_of_ble_eq_true rfl | omega) ?_
        exact pMI.q hRM (MF.refl V y) (by unfold fWeek; rw [if_pos cw, hq]; rw [tw]; rfl)
      by_cases c34_3 : nI w = 3
      · refine x_tabIn (pc := 34) (v := 3) (tgt := 83) cx (dA ddX8_week (i := 18) rfl) (by rw [c34_3]; decide) (by decide) (by decide) rfl (by decide) ?_
        have ew : w = 3 := nI_inj (by omega) (by omega) c34_3
        subst ew
        refine x_aload_n (pc := 83) cx (dA ddX8_week (i := 28) rfl) rfl ?_
        refine gX8_358 (pc := 84) (congrArg Value.int g4) cx (dA ddX8_week (i := 29) rfl) h0 ?_
        refine x_ireturn (pc := 87) cx (dA ddX8_week (i := 30) rfl) (by first | exact Nat.le_of_ble_eq_true rfl | omega) (by first | exact Nat.le_of_ble_eq_true rfl | omega) ?_
        exact pMI.q hRM (MF.refl V y) (by unfold fWeek; rw [if_pos cw, hq]; rw [tw]; rfl)
      by_cases c34_4 : nI w = 4
      · refine x_tabIn (pc := 34) (v := 4) (tgt := 88) cx (dA ddX8_week (i := 18) rfl) (by rw [c34_4]; decide) (by decide) (by decide) rfl (by decide) ?_
        have ew : w = 4 := nI_inj (by omega) (by omega) c34_4
        subst ew
        refine x_aload_n (pc := 88) cx (dA ddX8_week (i := 31) rfl) rfl ?_
        refine gX8_361 (pc := 89) (congrArg Value.int g5) cx (dA ddX8_week (i := 32) rfl) h0 ?_
        refine x_ireturn (pc := 92) cx (dA ddX8_week (i := 33) rfl) (by first | exact Nat.le_of_ble_eq_true rfl | omega) (by first | exact Nat.le_of_ble_eq_true rfl | omega) ?_
        exact pMI.q hRM (MF.refl V y) (by unfold fWeek; rw [if_pos cw, hq]; rw [tw]; rfl)
      refine x_tabOut (pc := 34) (tgt := 93) cx (dA ddX8_week (i := 18) rfl) (by have t0 := lv_neT (a := 0) c34_0 (by decide); have t1 := lv_neT (a := 1) c34_1 (by decide); have t2 := lv_neT (a := 2) c34_2 (by decide); have t3 := lv_neT (a := 3) c34_3 (by decide); have t4 := lv_neT (a := 4) c34_4 (by decide); omega) (by decide) ?_
      have ew : w = 5 := by
        rcases (show w = 0 ∨ w = 1 ∨ w = 2 ∨ w = 3 ∨ w = 4 ∨ w = 5 by omega) with h | h | h | h | h | h
        · exact absurd (by rw [h]; rfl) c34_0
        · exact absurd (by rw [h]; rfl) c34_1
        · exact absurd (by rw [h]; rfl) c34_2
        · exact absurd (by rw [h]; rfl) c34_3
        · exact absurd (by rw [h]; rfl) c34_4
        · exact h
      subst ew
      refine x_aload_n (pc := 93) cx (dA ddX8_week (i := 34) rfl) rfl ?_
      refine gX8_364 (pc := 94) (congrArg Value.int g6) cx (dA ddX8_week (i := 35) rfl) h0 ?_
      refine x_ireturn (pc := 97) cx (dA ddX8_week (i := 36) rfl) (by first | exact Nat.le_of_ble_eq_true rfl | omega) (by first | exact Nat.le_of_ble_eq_true rfl | omega) ?_
      exact pMI.q hRM (MF.refl V y) (by unfold fWeek; rw [if_pos cw, hq]; rw [tw]; rfl)
    · have hq : S.1.2.2.2 = none := by cases e : S.1.2.2.2 with | none => rfl | some ws => exact absurd ((hws.2 ws e).1.symm.trans c23) (by decide)
      refine x_aload_n (pc := 26) cx (dA ddX8_week (i := 13) rfl) rfl ?_
      refine x_bipush (pc := 27) (v := -5) cx (dA ddX8_week (i := 14) rfl) (by decide) ?_
      refine x_V1 (pc := 29) mX8_119 h0 (c_X8_refuse hM (i := 3) (by decide) rfl) cx (dA ddX8_week (i := 15) rfl) (kI ?_)
      refine x_ireturn (pc := 32) cx (dA ddX8_week (i := 16) rfl) (by first | exact Nat.le_of_ble_eq_true rfl | omega) (by first | exact Nat.le_of_ble_eq_true rfl | omega) ?_
      exact pMI.r hRM (by decide) (by unfold fWeek; rw [if_pos cw, hq])
  · have c9 := b2i_eq c9
    refine x_aload_n (pc := 12) cx (dA ddX8_week (i := 6) rfl) rfl ?_
    refine x_bipush (pc := 13) (v := -2) cx (dA ddX8_week (i := 7) rfl) (by decide) ?_
    refine x_V1 (pc := 15) mX8_119 h0 (c_X8_refuse hM (i := 0) (by decide) rfl) cx (dA ddX8_week (i := 8) rfl) (kI ?_)
    refine x_ireturn (pc := 18) cx (dA ddX8_week (i := 9) rfl) (by first | exact Nat.le_of_ble_eq_true rfl | omega) (by first | exact Nat.le_of_ble_eq_true rfl | omega) ?_
    first | exact pMI.r hRM (by decide) (if_neg (fun q => c9 q))
theorem c_X8_status {l : Launch} {Z : zP} {G : zG} {V : zV} {y : Nat} {zk : Option Nat} {S : SX} (hRM : RM Z G V y zk S) {w : Int32} : CT l Z yX8_status cX8_status 4 (some .int) 2 0 0 [.ref y, .int w] G V (pMI Z G V y zk (fStatus S w)) := by
  refine CT.of (by decide +kernel) (Nat.le_of_ble_eq_true rfl) (fun X hX cx => ?_)
  subst hX
  show Wm Z X 4 G V 0 0 _ 0 [(0, some (.ref y)), (1, some (.int w))] []
  have hM := hRM.1
  have h0 := hM.1
  have hc := hRM.2.2.1.1
  have c6 := hRM.2.2.1.2.1
  have hmu := hRM.2.2.2.2.2.2.1
  refine x_iload_n (pc := 0) cx (dA ddX8_status (i := 0) rfl) rfl ?_
  by_cases c1_0 : w = 0
  · refine x_tabIn (pc := 1) (v := 0) (tgt := 32) cx (dA ddX8_status (i := 1) rfl) (by rw [c1_0]; decide) (by decide) (by decide) rfl (by decide) ?_
    refine x_aload_n (pc := 32) cx (dA ddX8_status (i := 2) rfl) rfl ?_
    refine gX8_91 (pc := 33) (congrArg Value.int hc) cx (dA ddX8_status (i := 3) rfl) h0 ?_
    have kw : w.toInt = 0 := by rw [c1_0]; rfl
    refine x_ireturn (pc := 36) cx (dA ddX8_status (i := 4) rfl) (by first | exact Nat.le_of_ble_eq_true rfl | omega) (by first | exact Nat.le_of_ble_eq_true rfl | omega) ?_
    exact pMI.q hRM (MF.refl V y) (by unfold fStatus; rw [if_pos kw])
  by_cases c1_1 : w = 1
  · refine x_tabIn (pc := 1) (v := 1) (tgt := 37) cx (dA ddX8_status (i := 1) rfl) (by rw [c1_1]; decide) (by decide) (by decide) rfl (by decide) ?_
    refine x_aload_n (pc := 37) cx (dA ddX8_status (i := 5) rfl) rfl ?_
    refine gX8_136 (pc := 38) (congrArg Value.int hRM.2.2.2.2.1.1) cx (dA ddX8_status (i := 6) rfl) h0 ?_
    have kw : w.toInt = 1 := by rw [c1_1]; rfl
    refine x_ireturn (pc := 41) cx (dA ddX8_status (i := 7) rfl) (by first | exact Nat.le_of_ble_eq_true rfl | omega) (by first | exact Nat.le_of_ble_eq_true rfl | omega) ?_
    exact pMI.q hRM (MF.refl V y) (by unfold fStatus; rw [if_neg (show ¬ w.toInt = 0 by omega), if_pos kw])
  by_cases c1_2 : w = 2
  · refine x_tabIn (pc := 1) (v := 2) (tgt := 42) cx (dA ddX8_status (i := 1) rfl) (by rw [c1_2]; decide) (by decide) (by decide) rfl (by decide) ?_
    refine x_aload_n (pc := 42) cx (dA ddX8_status (i := 8) rfl) rfl ?_
    refine gX8_48 (pc := 43) (congrArg Value.int hRM.2.2.1.2.2.2.1) cx (dA ddX8_status (i := 9) rfl) h0 ?_
    have kw : w.toInt = 2 := by rw [c1_2]; rfl
    refine x_ireturn (pc := 46) cx (dA ddX8_status (i := 10) rfl) (by first | exact Nat.le_of_ble_eq_true rfl | omega) (by first | exact Nat.le_of_ble_eq_true rfl | omega) ?_
    exact pMI.q hRM (MF.refl V y) (by unfold fStatus; rw [if_neg (show ¬ w.toInt = 0 by omega), if_neg (show ¬ w.toInt = 1 by omega), if_pos kw])
  by_cases c1_3 : w = 3
  · refine x_tabIn (pc := 1) (v := 3) (tgt := 47) cx (dA ddX8_status (i := 1) rfl) (by rw [c1_3]; decide) (by decide) (by decide) rfl (by decide) ?_
    refine x_iconst (pc := 47) (v := nI 0) cx (dA ddX8_status (i := 11) rfl) (by decide) ?_
    refine x_istore_n (pc := 48) cx (dA ddX8_status (i := 12) rfl) (by decide) rfl ?_
    refine x_iconst (pc := 49) (v := nI 0) cx (dA ddX8_status (i := 13) rfl) (by decide) ?_
    refine x_istore_n (pc := 50) cx (dA ddX8_status (i := 14) rfl) (by decide) rfl ?_
    have L51 : ∀ s, s ≤ 8 → Wm Z X 4 G V 0 0 (rQ Z X 0 0 (pMI Z G V y zk (fStatus S w))) 51 [(0, some (.ref y)), (2, some (.int (nI (usX S s)))), (3, some (.int (nI s)))] [] := by
      refine lpU 8 (fun s hs ih => ?_)
      refine x_iload_n (pc := 51) cx (dA ddX8_status (i := 15) rfl) rfl ?_
      refine x_bipush (pc := 52) (v := nI 8) cx (dA ddX8_status (i := 16) rfl) (by decide) ?_
      refine x_icmp_ge (pc := 54) (tgt := 80) cx (dA ddX8_status (i := 17) rfl) (by decide) (fun c54 => ?_) (fun c54 => ?_)
      · have c54 := cleT (by omega) (by omega) c54
        have es : s = 8 := by omega
        subst es
        refine x_iload_n (pc := 80) cx (dA ddX8_status (i := 31) rfl) rfl ?_
        refine x_ireturn (pc := 81) cx (dA ddX8_status (i := 32) rfl) (by first | exact Nat.le_of_ble_eq_true rfl | omega) (by first | exact Nat.le_of_ble_eq_true rfl | omega) ?_
        have kw : w.toInt = 3 := by rw [c1_3]; rfl
        exact pMI.q hRM (MF.refl V y) (by unfold fStatus; rw [if_neg (show ¬ w.toInt = 0 by omega), if_neg (show ¬ w.toInt = 1 by omega), if_neg (show ¬ w.toInt = 2 by omega), if_pos kw])
      · have c54 := cleF (by omega) (by omega) c54
        have hsm := hRM.2.2.2.1 s c54
        refine x_iload_n (pc := 57) cx (dA ddX8_status (i := 18) rfl) rfl ?_
        refine x_aload_n (pc := 58) cx (dA ddX8_status (i := 19) rfl) rfl ?_
        refine gX8_7 (pc := 59) (rfA hM.2.1.1) cx (dA ddX8_status (i := 20) rfl) h0 ?_
        refine x_iload_n (pc := 62) cx (dA ddX8_status (i := 21) rfl) rfl ?_
        refine x_iaload (pc := 63) cx (dA ddX8_status (i := 22) rfl) hM.2.1.2 (by omega) (by decide) ?_
        refine x_if_eq (pc := 64) (tgt := 71) cx (dA ddX8_status (i := 23) rfl) (by decide) (fun c64 => ?_) (fun c64 => ?_)
        · have hq := hsm.i0 c64
          have e9 : usX S (s + 1) = usX S s + 0 := by show (match S.2.2.2.1 s with | none => _ | some _ => _) = _; rw [hq]; rfl
          refine x_iconst (pc := 71) (v := nI 0) cx (dA ddX8_status (i := 26) rfl) (by decide) ?_
          refine x_iadd (pc := 72) cx (dA ddX8_status (i := 27) rfl) ?_
          rw [nI_add]
          refine x_istore_n (pc := 73) cx (dA ddX8_status (i := 28) rfl) (by decide) rfl ?_
          refine x_iinc (pc := 74) cx (dA ddX8_status (i := 29) rfl) rfl (iinc1 _) (by decide) rfl ?_
          refine x_goto (pc := 77) (tgt := 51) cx (dA ddX8_status (i := 30) rfl) (by decide) ?_
          have L := ih (by omega)
          rw [e9] at L
          exact x_enter L ⟨.inr rfl, .inr rfl, .inr rfl, trivial⟩
        · have e9 : usX S (s + 1) = usX S s + 1 := by show (match S.2.2.2.1 s with | none => _ | some _ => _) = _; cases e : S.2.2.2.1 s with | none => exact absurd (hsm.1 e) c64 | some q => rfl
          refine x_iconst (pc := 67) (v := nI 1) cx (dA ddX8_status (i := 24) rfl) (by decide) ?_
          refine x_goto (pc := 68) (tgt := 72) cx (dA ddX8_status (i := 25) rfl) (by decide) ?_
          refine x_iadd (pc := 72) cx (dA ddX8_status (i := 27) rfl) ?_
          rw [nI_add]
          refine x_istore_n (pc := 73) cx (dA ddX8_status (i := 28) rfl) (by decide) rfl ?_
          refine x_iinc (pc := 74) cx (dA ddX8_status (i := 29) rfl) rfl (iinc1 _) (by decide) rfl ?_
          refine x_goto (pc := 77) (tgt := 51) cx (dA ddX8_status (i := 30) rfl) (by decide) ?_
          have L := ih (by omega)
          rw [e9] at L
          exact x_enter L ⟨.inr rfl, .inr rfl, .inr rfl, trivial⟩
    exact x_enter (L51 0 (Nat.zero_le _)) ⟨.inr rfl, .inr rfl, .inr rfl, trivial⟩
  refine x_tabOut (pc := 1) (tgt := 82) cx (dA ddX8_status (i := 1) rfl) (by have t0 := lv_neT (a := 0) c1_0 (by decide); have t1 := lv_neT (a := 1) c1_1 (by decide); have t2 := lv_neT (a := 2) c1_2 (by decide); have t3 := lv_neT (a := 3) c1_3 (by decide); omega) (by decide) ?_
  refine x_iload_n (pc := 82) cx (dA ddX8_status (i := 33) rfl) rfl ?_
  refine x_i2l (pc := 83) cx (dA ddX8_status (i := 34) rfl) ?_
  refine x_ldc2 (pc := 84) cx klX8_381 (dA ddX8_status (i := 35) rfl) ?_
  refine x_ldc2 (pc := 87) cx klX8_383 (dA ddX8_status (i := 36) rfl) ?_
  have k0 := lv_neT (a := 0) c1_0 (by decide)
  have k1 := lv_neT (a := 1) c1_1 (by decide)
  have k2 := lv_neT (a := 2) c1_2 (by decide)
  have k3 := lv_neT (a := 3) c1_3 (by decide)
  have e5 : ¬ w.toInt = 0 ∧ ¬ w.toInt = 1 ∧ ¬ w.toInt = 2 ∧ ¬ w.toInt = 3 := by omega
  refine x_S3 (pc := 90) mX8_94 c_X8_in cx (dA ddX8_status (i := 37) rfl) (kI ?_)
  rw [tl_toInt, show (lN 12).toInt = 12 from rfl, show (lN 16).toInt = 16 from rfl]
  refine x_if_eq (pc := 93) (tgt := 108) cx (dA ddX8_status (i := 38) rfl) (by decide) (fun c93 => ?_) (fun c93 => ?_)
  · have c93 := b2i_eq c93
    refine x_iconst (pc := 108) (v := -1) cx (dA ddX8_status (i := 46) rfl) (by decide) ?_
    refine x_ireturn (pc := 109) cx (dA ddX8_status (i := 47) rfl) (by first | exact Nat.le_of_ble_eq_true rfl | omega) (by first | exact Nat.le_of_ble_eq_true rfl | omega) ?_
    exact pMI.q hRM (MF.refl V y) (by unfold fStatus; rw [if_neg e5.1, if_neg e5.2.1, if_neg e5.2.2.1, if_neg e5.2.2.2, if_neg c93])
  · have c93 := b2i_ne c93
    obtain ⟨j, hj, rfl, tj⟩ := i32_in (x := w) (n := 17) ⟨by omega, by omega⟩
    have j12 : 12 ≤ j := by have := c93.1; rw [nI_toInt (by omega)] at this; omega
    refine x_aload_n (pc := 96) cx (dA ddX8_status (i := 39) rfl) rfl ?_
    refine gX8_42 (pc := 97) (rfA hM.2.2.2.2.2.2.2.2.2.2.1.1) cx (dA ddX8_status (i := 40) rfl) h0 ?_
    refine x_iload_n (pc := 100) cx (dA ddX8_status (i := 41) rfl) rfl ?_
    refine x_bipush (pc := 101) (v := nI 10) cx (dA ddX8_status (i := 42) rfl) (by decide) ?_
    refine x_isub (pc := 103) cx (dA ddX8_status (i := 43) rfl) ?_
    rw [pk_sub (by omega)]
    refine x_iaload (pc := 104) cx (dA ddX8_status (i := 44) rfl) hM.2.2.2.2.2.2.2.2.2.2.1.2 (by omega) (by decide) ?_
    rw [show V.2.2.1 (y + 28) (j - 10) = S.2.2.2.2 (j - 12) by have e := hRM.2.2.2.2.2.1 (j - 12) (by omega); rw [show j - 12 + 2 = j - 10 by omega] at e; exact e]
    refine x_goto (pc := 105) (tgt := 109) cx (dA ddX8_status (i := 45) rfl) (by decide) ?_
    refine x_ireturn (pc := 109) cx (dA ddX8_status (i := 47) rfl) (by first | exact Nat.le_of_ble_eq_true rfl | omega) (by first | exact Nat.le_of_ble_eq_true rfl | omega) ?_
    exact pMI.q hRM (MF.refl V y) (by unfold fStatus; rw [if_neg e5.1, if_neg e5.2.1, if_neg e5.2.2.1, if_neg e5.2.2.2, if_pos c93, tj])
theorem C_X8_seed {l : Launch} {Z : zP} {G : zG} {V : zV} {y : Nat} {zk : Option Nat} {S : SX} (hRM : RM Z G V y zk S) {v : Int32} : CT l Z yX8_seed cX8_seed 3 (some .int) 2 0 0 [.ref y, .int v] G V (pMI Z G V y zk (fSeed S v)) := by
  refine CT.of (by decide +kernel) (Nat.le_of_ble_eq_true rfl) (fun X hX cx => ?_)
  subst hX
  show Wm Z X 3 G V 0 0 _ 0 [(0, some (.ref y)), (1, some (.int v))] []
  have hM := hRM.1
  have h0 := hM.1
  have hc := hRM.2.2.1.1
  have c6 := hRM.2.2.1.2.1
  have hmu := hRM.2.2.2.2.2.2.1
  refine x_aload_n (pc := 0) cx (dA ddX8_seed (i := 0) rfl) rfl ?_
  refine gX8_48 (pc := 1) (congrArg Value.int hRM.2.2.1.2.2.2.1) cx (dA ddX8_seed (i := 1) rfl) h0 ?_
  refine x_istore_n (pc := 4) cx (dA ddX8_seed (i := 2) rfl) (by decide) rfl ?_
  refine x_aload_n (pc := 5) cx (dA ddX8_seed (i := 3) rfl) rfl ?_
  refine x_iload_n (pc := 6) cx (dA ddX8_seed (i := 4) rfl) rfl ?_
  refine pX8_48 (pc := 7)  cx (dA ddX8_seed (i := 5) rfl) h0 ?_
  refine x_iload_n (pc := 10) cx (dA ddX8_seed (i := 6) rfl) rfl ?_
  refine x_ireturn (pc := 11) cx (dA ddX8_seed (i := 7) rfl) (by first | exact Nat.le_of_ble_eq_true rfl | omega) (by first | exact Nat.le_of_ble_eq_true rfl | omega) ?_
  exact pMI.m rfl hRM.seed
theorem C_X8_wipe {l : Launch} {Z : zP} {G : zG} {V : zV} {y : Nat} {zk : Option Nat} {S : SX} (hRM : RM Z G V y zk S) : CT l Z yX8_wipe cX8_wipe 2 (some .int) 2 0 0 [.ref y] G V (pMI Z G V y zk (fWipe S)) := by
  refine CT.of (by decide +kernel) (Nat.le_of_ble_eq_true rfl) (fun X hX cx => ?_)
  subst hX
  show Wm Z X 2 G V 0 0 _ 0 [(0, some (.ref y))] []
  have hM := hRM.1
  have h0 := hM.1
  have hc := hRM.2.2.1.1
  have c6 := hRM.2.2.1.2.1
  have hmu := hRM.2.2.2.2.2.2.1
  refine x_aload_n (pc := 0) cx (dA ddX8_wipe (i := 0) rfl) rfl ?_
  refine gX8_136 (pc := 1) (congrArg Value.int hRM.2.2.2.2.1.1) cx (dA ddX8_wipe (i := 1) rfl) h0 ?_
  refine x_istore_n (pc := 4) cx (dA ddX8_wipe (i := 2) rfl) (by decide) rfl ?_
  refine x_aload_n (pc := 5) cx (dA ddX8_wipe (i := 3) rfl) rfl ?_
  refine x_iconst (pc := 6) (v := nI 0) cx (dA ddX8_wipe (i := 4) rfl) (by decide) ?_
  refine pX8_136 (pc := 7)  cx (dA ddX8_wipe (i := 5) rfl) h0 ?_
  refine x_iload_n (pc := 10) cx (dA ddX8_wipe (i := 6) rfl) rfl ?_
  refine x_ireturn (pc := 11) cx (dA ddX8_wipe (i := 7) rfl) (by first | exact Nat.le_of_ble_eq_true rfl | omega) (by first | exact Nat.le_of_ble_eq_true rfl | omega) ?_
  exact pMI.m rfl (hRM.tape (t := (S.2.2.1.1, 0)) (fun a h1 h2 => (same4.refl V a).sI h1) (fun f hf => sI_ne hf) ⟨sI_eq, hRM.2.2.2.2.1.2.1, Nat.zero_le _, hRM.2.2.2.2.1.2.2.2⟩)
