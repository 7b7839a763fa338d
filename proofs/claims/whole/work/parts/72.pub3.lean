section SHM
variable {V : zV} {y s : Nat} {h : SH}
theorem ShM.cs (hh : ShM V y s h) : (V.2.2.1 (y + 1) s = nI 0 ∧ h = none) ∨ (V.2.2.1 (y + 1) s = nI 1 ∧ ∃ q, h = some (.inl q)) ∨ (V.2.2.1 (y + 1) s = nI 2 ∧ ∃ q, h = some (.inr q)) := by
  match e : h with
  | none => exact Or.inl ⟨hh.1 rfl, rfl⟩
  | some (.inl q) => exact Or.inr (Or.inl ⟨(hh.2.1 q rfl).1, q, rfl⟩)
  | some (.inr q) => exact Or.inr (Or.inr ⟨(hh.2.2 q rfl).1, q, rfl⟩)
theorem ShM.i0 (hh : ShM V y s h) (e : V.2.2.1 (y + 1) s = nI 0) : h = none := by
  rcases hh.cs with ⟨-, k⟩ | ⟨k, -⟩ | ⟨k, -⟩
  · exact k
  · rw [e] at k; exact absurd k (by decide)
  · rw [e] at k; exact absurd k (by decide)
theorem ShM.i1 (hh : ShM V y s h) (e : V.2.2.1 (y + 1) s = nI 1) : ∃ q, h = some (.inl q) := by
  rcases hh.cs with ⟨k, -⟩ | ⟨-, k⟩ | ⟨k, -⟩
  · rw [e] at k; exact absurd k (by decide)
  · exact k
  · rw [e] at k; exact absurd k (by decide)
theorem ShM.i2 (hh : ShM V y s h) (e : V.2.2.1 (y + 1) s = nI 2) : ∃ q, h = some (.inr q) := by
  rcases hh.cs with ⟨k, -⟩ | ⟨k, -⟩ | ⟨-, k⟩
  · rw [e] at k; exact absurd k (by decide)
  · rw [e] at k; exact absurd k (by decide)
  · exact k
theorem ShM.n20 (hh : ShM V y s h) (e2 : V.2.2.1 (y + 1) s ≠ nI 2) (e0 : V.2.2.1 (y + 1) s ≠ nI 0) : ∃ q, h = some (.inl q) := by
  rcases hh.cs with ⟨k, -⟩ | ⟨-, k⟩ | ⟨k, -⟩
  · exact absurd k e0
  · exact k
  · exact absurd k e2
theorem ShM.n10 (hh : ShM V y s h) (e1 : V.2.2.1 (y + 1) s ≠ nI 1) (e0 : V.2.2.1 (y + 1) s ≠ nI 0) : ∃ q, h = some (.inr q) := by
  rcases hh.cs with ⟨k, -⟩ | ⟨k, -⟩ | ⟨-, k⟩
  · exact absurd k e0
  · exact absurd k e1
  · exact k
end SHM
theorem mf_must {V V2 : zV} {y d mu D : Nat} {N : Nat → Nat} (hmu : V.1 439 y = -1) (h : fbI (sI V 439 y (nI d)) V2 y N mu D) : MF V (sI V2 439 y (-1)) y := by
  have s := fun x hx => h.1 x hx
  refine ⟨fun x a b c e => ((same4.refl V x).sI a).trans (same4.sI (s x (by omega)) a), fun i hi => ?_, fun j hj => ⟨(s _ (by omega)).2.2.1 j, (s _ (by omega)).2.2.1 j⟩⟩
  by_cases q : i = 439
  · subst q; rw [sI_eq, hmu]
  · rw [sI_ne q, (s y (by omega)).1 i, sI_ne q]
theorem jdP_cg {N : Nat → Nat} {s : Nat} {f g : Nat → Int64} (h : ∀ j, j < N 4 → f j = g j) : jdP N s f = jdP N s g := by
  have hb : ∀ n, n ≤ N 4 → jdB s f n = jdB s g n := by
    intro n
    induction n with
    | zero => intro _; rfl
    | succ n ih =>
      intro hn
      show (jdB s f n && _) = (jdB s g n && _)
      rw [ih (by omega), h n (by omega)]
  have hr : jdR N f (N 4) = jdR N g (N 4) := sumN_congr fun i hi => by rw [h i hi]
  unfold jdP
  rw [hb _ (Nat.le_refl _), hr]
theorem boA_n {S : SX} {N : Nat → Nat} {s : Nat} (h : ∀ q, S.2.2.2.1 s ≠ some (.inr q)) : boA S N (s + 1) = boA S N s := by
  show (match S.2.2.2.1 s with | some (.inr q) => _ | _ => _) = _
  split
  · next q e => exact absurd e (h q)
  · rfl
theorem boA_lt {S : SX} {N : Nat → Nat} : ∀ {s x : Nat}, (boA S N s).1 = some x → x < s
  | 0, x, h => by cases h
  | s + 1, x, h => by
    have ih := @boA_lt S N s x
    unfold boA at h
    split at h
    · split at h
      · cases h; omega
      · have := ih h; omega
    · have := ih h; omega
theorem boA_v {S : SX} {N : Nat → Nat} (hN : HOK N) : ∀ s, (boA S N s).2 < 2 ^ 62
  | 0 => by show 0 < 2 ^ 62; decide
  | s + 1 => by
    have ih := boA_v (S := S) hN s
    unfold boA
    split
    · split
      · show rCs N _ _ _ _ (N 0) 0 < 2 ^ 62
        rw [← rC_s]
        exact rC_lt hN hN.2.1.2 (Nat.pow_pos (by decide))
      · exact ih
    · exact ih
theorem c_X8_promise {l : Launch} {Z : zP} {G : zG} {V : zV} {y : Nat} {zk : Option Nat} {S : SX} (hRM : RM Z G V y zk S) {h d : Int32} : CT l Z yX8_promise cX8_promise 5 (some .long) 5 0 0 [.ref y, .int h, .int d] G V (pMJ Z G V y zk (fPromise S h d)) := by
  refine CT.of (by decide +kernel) (Nat.le_of_ble_eq_true rfl) (fun X hX cx => ?_)
  subst hX
  show Wm Z X 5 G V 0 0 _ 0 [(0, some (.ref y)), (1, some (.int h)), (2, some (.int d))] []
  have hM := hRM.1
  have h0 := hM.1
  have hc := hRM.2.2.1.1
  have c6 := hRM.2.2.1.2.1
  have hmu := hRM.2.2.2.2.2.2.1
  refine x_aload_n (pc := 0) cx (dA ddX8_promise (i := 0) rfl) rfl ?_
  refine x_iload_n (pc := 1) cx (dA ddX8_promise (i := 1) rfl) rfl ?_
  refine x_iload_n (pc := 2) cx (dA ddX8_promise (i := 2) rfl) rfl ?_
  refine x_V2 (pc := 3) mX8_239 h0 (c_X8_isLeft_a hRM) cx (dA ddX8_promise (i := 3) rfl) (kI ?_)
  refine x_if_eq (pc := 6) (tgt := 13) cx (dA ddX8_promise (i := 4) rfl) (by decide) (fun c6 => ?_) (fun c6 => ?_)
  · have c6 := b2i_eq c6
    refine x_aload_n (pc := 13) cx (dA ddX8_promise (i := 7) rfl) rfl ?_
    refine x_bipush (pc := 14) (v := -2) cx (dA ddX8_promise (i := 8) rfl) (by decide) ?_
    refine x_V1 (pc := 16) mX8_119 h0 (c_X8_refuse hM (i := 0) (by decide) rfl) cx (dA ddX8_promise (i := 9) rfl) (kI ?_)
    refine x_i2l (pc := 19) cx (dA ddX8_promise (i := 10) rfl) ?_
    refine x_lreturn (pc := 20) cx (dA ddX8_promise (i := 11) rfl) (by first | exact Nat.le_of_ble_eq_true rfl | omega) (by first | exact Nat.le_of_ble_eq_true rfl | omega) ?_
    first | exact pMJ.r hRM (by decide) (if_neg (fun q => c6 ⟨q.1, ⟨by have := q.2.1; omega, q.2.2⟩⟩))
  · have c6 := b2i_ne c6
    obtain ⟨ch, cl⟩ := c6
    obtain ⟨i, hi, rfl, ti⟩ := i32_in ch
    obtain ⟨hR, hN⟩ := hRM.2.2.1.2.2.1 i hi
    have hB := hN.1
    have b4 := hB.1
    have n125 := st125 b4
    have h06 := hN.2.1
    have hh : i < 8 := by omega
    have cl2 : okl (S.1.2.1 i) d := by rw [← ti]; exact cl
    obtain ⟨d, hd, rfl, td⟩ := i32_in (x := d) (n := S.1.2.1 i 0 + 1) ⟨cl2.1, by have := cl2.2; omega⟩
    refine x_iload_n (pc := 9) cx (dA ddX8_promise (i := 5) rfl) rfl ?_
    refine x_if_ne (pc := 10) (tgt := 21) cx (dA ddX8_promise (i := 6) rfl) (by decide) (fun c10 => ?_) (fun c10 => ?_)
    · have d0 : d ≠ 0 := fun e => c10 (by rw [e]; rfl)
      have cl1 : okl1 (hX S (nI i)) (nI d) := ⟨by rw [nI_toInt (by omega)]; omega, cl.2⟩
      refine x_aload_n (pc := 21) cx (dA ddX8_promise (i := 12) rfl) rfl ?_
      refine x_iload_n (pc := 22) cx (dA ddX8_promise (i := 13) rfl) rfl ?_
      refine pX8_88 (pc := 23)  cx (dA ddX8_promise (i := 14) rfl) h0 ?_
      refine x_aload_n (pc := 26) cx (dA ddX8_promise (i := 15) rfl) rfl ?_
      refine x_iload_n (pc := 27) cx (dA ddX8_promise (i := 16) rfl) rfl ?_
      refine x_V1 (pc := 28) mX8_264 h0 (c_X8_findBest (V := (sI V 439 y (nI d))) hM hh (id hR : MH (sI V 439 y (nI d)) y i (S.1.2.1 i)) hB hN (mu := d) (fun e h1 h6 => by rw [sI_eq]; exact ⟨fun q => nI_inj (by omega) (by omega) q, fun q => by rw [q]⟩)) cx (dA ddX8_promise (i := 17) rfl) (kVx fun V2 hF1 => ?_)
      have hmf := mf_must hmu hF1
      have hR2 : MH V2 y i (S.1.2.1 i) := MH.same39 (V := (sI V 439 y (nI d))) (id hR) hh hF1.1
      refine x_aload_n (pc := 31) cx (dA ddX8_promise (i := 18) rfl) rfl ?_
      refine gX8_55 (pc := 32) (rfA hM.2.2.2.2.2.2.2.2.2.2.2.2.2.1.1) cx (dA ddX8_promise (i := 19) rfl) h0 ?_
      refine x_aload_n (pc := 35) cx (dA ddX8_promise (i := 20) rfl) rfl ?_
      refine gX8_45 (pc := 36) (rfA hM.2.2.2.2.2.2.2.2.2.2.2.1.1) cx (dA ddX8_promise (i := 21) rfl) h0 ?_
      refine x_iload_n (pc := 39) cx (dA ddX8_promise (i := 22) rfl) rfl ?_
      refine x_aaload (pc := 40) cx (dA ddX8_promise (i := 23) rfl) hM.2.2.2.2.2.2.2.2.2.2.2.1.2.1 (by decide) (by decide) hh (by decide) ?_
      rw [arA (hM.2.2.2.2.2.2.2.2.2.2.2.1.2.2 i hh).1]
      refine x_iconst (pc := 41) (v := nI 0) cx (dA ddX8_promise (i := 24) rfl) (by decide) ?_
      refine x_iaload (pc := 42) cx (dA ddX8_promise (i := 25) rfl) (hM.2.2.2.2.2.2.2.2.2.2.2.1.2.2 i hh).2 (by decide) (by decide) ?_
      rw [hR2 0 (by omega)]
      refine x_aaload (pc := 43) cx (dA ddX8_promise (i := 26) rfl) hM.2.2.2.2.2.2.2.2.2.2.2.2.2.1.2.1 (by decide) (by decide) (by omega) (by decide) ?_
      rw [arA (hM.2.2.2.2.2.2.2.2.2.2.2.2.2.1.2.2 (S.1.2.1 i 0) (by omega)).1]
      refine x_iconst (pc := 44) (v := nI 0) cx (dA ddX8_promise (i := 27) rfl) (by decide) ?_
      refine x_laload (pc := 45) cx (dA ddX8_promise (i := 28) rfl) (hM.2.2.2.2.2.2.2.2.2.2.2.2.2.1.2.2 (S.1.2.1 i 0) (by omega)).2 (by decide) (by decide) ?_
      rw [(hF1.2.2 (S.1.2.1 i 0) (by omega) 0 (Nat.pow_pos (by decide))).1, show mcM (S.1.2.1 i) d (S.1.2.1 i 0) 0 = (prC (S.1.2.1 i) d (S.1.2.1 i 0 + 1 - d) 0) by have e := congrFun (mcM_pr (N := S.1.2.1 i) (z := d) (by omega) (S.1.2.1 i 0 - d)) 0; rw [show d + (S.1.2.1 i 0 - d) = S.1.2.1 i 0 by omega, show S.1.2.1 i 0 - d + 1 = S.1.2.1 i 0 + 1 - d by omega] at e; exact e]
      refine x_lstore_n (pc := 46) cx (dA ddX8_promise (i := 29) rfl) (by decide) rfl ?_
      refine x_aload_n (pc := 47) cx (dA ddX8_promise (i := 30) rfl) rfl ?_
      refine x_iconst (pc := 48) (v := -1) cx (dA ddX8_promise (i := 31) rfl) (by decide) ?_
      refine pX8_88 (pc := 49)  cx (dA ddX8_promise (i := 32) rfl) h0 ?_
      refine x_aload_n (pc := 52) cx (dA ddX8_promise (i := 33) rfl) rfl ?_
      refine x_iload_n (pc := 53) cx (dA ddX8_promise (i := 34) rfl) rfl ?_
      refine x_V1 (pc := 54) mX8_264 h0 (c_X8_findBest (V := (sI V2 439 y (-1))) hM hh (id hR2 : MH (sI V2 439 y (-1)) y i (S.1.2.1 i)) hB hN (mu := 0) (hmu_0 sI_eq)) cx (dA ddX8_promise (i := 35) rfl) (kVx fun V4 hF => ?_)
      refine x_lload_n (pc := 57) cx (dA ddX8_promise (i := 36) rfl) rfl ?_
      refine x_aload_n (pc := 58) cx (dA ddX8_promise (i := 37) rfl) rfl ?_
      refine gX8_55 (pc := 59) (rfA hM.2.2.2.2.2.2.2.2.2.2.2.2.2.1.1) cx (dA ddX8_promise (i := 38) rfl) h0 ?_
      refine x_aload_n (pc := 62) cx (dA ddX8_promise (i := 39) rfl) rfl ?_
      refine gX8_45 (pc := 63) (rfA hM.2.2.2.2.2.2.2.2.2.2.2.1.1) cx (dA ddX8_promise (i := 40) rfl) h0 ?_
      refine x_iload_n (pc := 66) cx (dA ddX8_promise (i := 41) rfl) rfl ?_
      refine x_aaload (pc := 67) cx (dA ddX8_promise (i := 42) rfl) hM.2.2.2.2.2.2.2.2.2.2.2.1.2.1 (by decide) (by decide) hh (by decide) ?_
      rw [arA (hM.2.2.2.2.2.2.2.2.2.2.2.1.2.2 i hh).1]
      refine x_iconst (pc := 68) (v := nI 0) cx (dA ddX8_promise (i := 43) rfl) (by decide) ?_
      refine x_iaload (pc := 69) cx (dA ddX8_promise (i := 44) rfl) (hM.2.2.2.2.2.2.2.2.2.2.2.1.2.2 i hh).2 (by decide) (by decide) ?_
      rw [(MH.same39 (V := (sI V2 439 y (-1))) (id hR2) hh hF.1) 0 (by omega)]
      refine x_aaload (pc := 70) cx (dA ddX8_promise (i := 45) rfl) hM.2.2.2.2.2.2.2.2.2.2.2.2.2.1.2.1 (by decide) (by decide) (by omega) (by decide) ?_
      rw [arA (hM.2.2.2.2.2.2.2.2.2.2.2.2.2.1.2.2 (S.1.2.1 i 0) (by omega)).1]
      refine x_iconst (pc := 71) (v := nI 0) cx (dA ddX8_promise (i := 46) rfl) (by decide) ?_
      refine x_laload (pc := 72) cx (dA ddX8_promise (i := 47) rfl) (hM.2.2.2.2.2.2.2.2.2.2.2.2.2.1.2.2 (S.1.2.1 i 0) (by omega)).2 (by decide) (by decide) ?_
      rw [(hF.2.2 (S.1.2.1 i 0) (by omega) 0 (Nat.pow_pos (by decide))).1, mcM_cst]
      refine x_lsub (pc := 73) cx (dA ddX8_promise (i := 48) rfl) ?_
      refine x_lreturn (pc := 74) cx (dA ddX8_promise (i := 49) rfl) (by first | exact Nat.le_of_ble_eq_true rfl | omega) (by first | exact Nat.le_of_ble_eq_true rfl | omega) ?_
      exact pMJ.q hRM (hmf.trans (MF.of hF.1 (by omega) (by omega))) (by unfold fPromise; rw [if_pos ⟨ch, cl1⟩]; simp only [hX, ti, td])
    · have z0 : d = 0 := nI_inj (b := 0) (by omega) (by decide) c10
      refine x_aload_n (pc := 13) cx (dA ddX8_promise (i := 7) rfl) rfl ?_
      refine x_bipush (pc := 14) (v := -2) cx (dA ddX8_promise (i := 8) rfl) (by decide) ?_
      refine x_V1 (pc := 16) mX8_119 h0 (c_X8_refuse hM (i := 0) (by decide) rfl) cx (dA ddX8_promise (i := 9) rfl) (kI ?_)
      refine x_i2l (pc := 19) cx (dA ddX8_promise (i := 10) rfl) ?_
      refine x_lreturn (pc := 20) cx (dA ddX8_promise (i := 11) rfl) (by first | exact Nat.le_of_ble_eq_true rfl | omega) (by first | exact Nat.le_of_ble_eq_true rfl | omega) ?_
      first | exact pMJ.r hRM (by decide) (if_neg (fun q => by have := q.2.1; rw [z0, nI_toInt (by decide)] at this; omega))
theorem c_X8_shape {l : Launch} {Z : zP} {G : zG} {V : zV} {y : Nat} {zk : Option Nat} {S : SX} (hRM : RM Z G V y zk S) {h d : Int32} : CT l Z yX8_shape cX8_shape 3 (some .int) 6 0 0 [.ref y, .int h, .int d] G V (pMI Z G V y zk (fShape S h d)) := by
  refine CT.of (by decide +kernel) (Nat.le_of_ble_eq_true rfl) (fun X hX cx => ?_)
  subst hX
  show Wm Z X 3 G V 0 0 _ 0 [(0, some (.ref y)), (1, some (.int h)), (2, some (.int d))] []
  have hM := hRM.1
  have h0 := hM.1
  have hc := hRM.2.2.1.1
  have c6 := hRM.2.2.1.2.1
  have hmu := hRM.2.2.2.2.2.2.1
  refine x_aload_n (pc := 0) cx (dA ddX8_shape (i := 0) rfl) rfl ?_
  refine x_iload_n (pc := 1) cx (dA ddX8_shape (i := 1) rfl) rfl ?_
  refine x_iload_n (pc := 2) cx (dA ddX8_shape (i := 2) rfl) rfl ?_
  refine x_V2 (pc := 3) mX8_239 h0 (c_X8_isLeft_a hRM) cx (dA ddX8_shape (i := 3) rfl) (kI ?_)
  refine x_if_eq (pc := 6) (tgt := 13) cx (dA ddX8_shape (i := 4) rfl) (by decide) (fun c6 => ?_) (fun c6 => ?_)
  · have c6 := b2i_eq c6
    refine x_aload_n (pc := 13) cx (dA ddX8_shape (i := 7) rfl) rfl ?_
    refine x_bipush (pc := 14) (v := -2) cx (dA ddX8_shape (i := 8) rfl) (by decide) ?_
    refine x_V1 (pc := 16) mX8_119 h0 (c_X8_refuse hM (i := 0) (by decide) rfl) cx (dA ddX8_shape (i := 9) rfl) (kI ?_)
    refine x_ireturn (pc := 19) cx (dA ddX8_shape (i := 10) rfl) (by first | exact Nat.le_of_ble_eq_true rfl | omega) (by first | exact Nat.le_of_ble_eq_true rfl | omega) ?_
    first | exact pMI.r hRM (by decide) (if_neg (fun q => c6 ⟨q.1, ⟨by have := q.2.1; omega, q.2.2⟩⟩))
  · have c6 := b2i_ne c6
    obtain ⟨ch, cl⟩ := c6
    obtain ⟨i, hi, rfl, ti⟩ := i32_in ch
    obtain ⟨hR, hN⟩ := hRM.2.2.1.2.2.1 i hi
    have hB := hN.1
    have b4 := hB.1
    have n125 := st125 b4
    have h06 := hN.2.1
    have hh : i < 8 := by omega
    have cl2 : okl (S.1.2.1 i) d := by rw [← ti]; exact cl
    obtain ⟨d, hd, rfl, td⟩ := i32_in (x := d) (n := S.1.2.1 i 0 + 1) ⟨cl2.1, by have := cl2.2; omega⟩
    refine x_iload_n (pc := 9) cx (dA ddX8_shape (i := 5) rfl) rfl ?_
    refine x_if_ne (pc := 10) (tgt := 20) cx (dA ddX8_shape (i := 6) rfl) (by decide) (fun c10 => ?_) (fun c10 => ?_)
    · have d0 : d ≠ 0 := fun e => c10 (by rw [e]; rfl)
      have cl1 : okl1 (hX S (nI i)) (nI d) := ⟨by rw [nI_toInt (by omega)]; omega, cl.2⟩
      refine x_aload_n (pc := 20) cx (dA ddX8_shape (i := 11) rfl) rfl ?_
      refine x_iload_n (pc := 21) cx (dA ddX8_shape (i := 12) rfl) rfl ?_
      refine x_iload_n (pc := 22) cx (dA ddX8_shape (i := 13) rfl) rfl ?_
      refine x_V2 (pc := 23) mX8_316 h0 (c_X8_findRooms hM hh hR hB hN hmu (z := d) (by omega) (by omega)) cx (dA ddX8_shape (i := 14) rfl) (kIx fun V3 h3 => ?_)
      obtain ⟨V2, hF, e3⟩ := h3
      subst e3
      refine x_if_eq (pc := 26) (tgt := 49) cx (dA ddX8_shape (i := 15) rfl) (by decide) (fun c26 => ?_) (fun c26 => ?_)
      · have n0 : (lrS (S.1.2.1 i) d (5 ^ S.1.2.1 i 4)) = none := Classical.not_not.mp (b2i_eq c26)
        refine x_iconst (pc := 49) (v := -1) cx (dA ddX8_shape (i := 26) rfl) (by decide) ?_
        refine x_ireturn (pc := 50) cx (dA ddX8_shape (i := 27) rfl) (by first | exact Nat.le_of_ble_eq_true rfl | omega) (by first | exact Nat.le_of_ble_eq_true rfl | omega) ?_
        have bm := bar_mr hN (z := d) (by omega) (by omega)
        rw [n0] at bm
        exact pMI.q hRM (MF.sI (MF.sI (MF.of hF.1 (by omega) (by omega)) (by decide) (by decide)) (by decide) (by decide)) (by unfold fShape; rw [if_pos ⟨ch, cl1⟩]; simp only [hX, ti, td]; rw [bm]; rfl)
      · obtain ⟨r, er⟩ := Option.ne_none_iff_exists'.mp (b2i_ne c26)
        have rl : r ≤ 1188 := lrS_le hB er
        have ml := mrA_le hB (z := d) (5 ^ S.1.2.1 i 4)
        refine x_aload_n (pc := 29) cx (dA ddX8_shape (i := 16) rfl) rfl ?_
        refine gX8_313 (pc := 30) (congrArg Value.int (show (frV V2 y (lrS (S.1.2.1 i) d (5 ^ S.1.2.1 i 4)) (mrA (S.1.2.1 i) d (5 ^ S.1.2.1 i 4))).1 441 y = nI (mrA (S.1.2.1 i) d (5 ^ S.1.2.1 i 4)) from fr41)) cx (dA ddX8_shape (i := 17) rfl) h0 ?_
        refine x_aload_n (pc := 33) cx (dA ddX8_shape (i := 18) rfl) rfl ?_
        refine gX8_310 (pc := 34) (congrArg Value.int (show (frV V2 y (lrS (S.1.2.1 i) d (5 ^ S.1.2.1 i 4)) (mrA (S.1.2.1 i) d (5 ^ S.1.2.1 i 4))).1 440 y = nI r from fr40.trans (by rw [er]; rfl))) cx (dA ddX8_shape (i := 19) rfl) h0 ?_
        refine x_icmp_ge (pc := 37) (tgt := 49) cx (dA ddX8_shape (i := 20) rfl) (by decide) (fun c37 => ?_) (fun c37 => ?_)
        · have c37 := cleT (by omega) (by omega) c37
          refine x_iconst (pc := 49) (v := -1) cx (dA ddX8_shape (i := 26) rfl) (by decide) ?_
          refine x_ireturn (pc := 50) cx (dA ddX8_shape (i := 27) rfl) (by first | exact Nat.le_of_ble_eq_true rfl | omega) (by first | exact Nat.le_of_ble_eq_true rfl | omega) ?_
          have bm := bar_mr hN (z := d) (by omega) (by omega)
          rw [er] at bm
          have bm2 := bm.trans (if_neg (show ¬ (mrA (S.1.2.1 i) d (5 ^ S.1.2.1 i 4)) < r by omega))
          exact pMI.q hRM (MF.sI (MF.sI (MF.of hF.1 (by omega) (by omega)) (by decide) (by decide)) (by decide) (by decide)) (by unfold fShape; rw [if_pos ⟨ch, cl1⟩]; simp only [hX, ti, td]; rw [bm2]; rfl)
        · have c37 := cleF (by omega) (by omega) c37
          refine x_aload_n (pc := 40) cx (dA ddX8_shape (i := 21) rfl) rfl ?_
          refine gX8_313 (pc := 41) (congrArg Value.int (show (frV V2 y (lrS (S.1.2.1 i) d (5 ^ S.1.2.1 i 4)) (mrA (S.1.2.1 i) d (5 ^ S.1.2.1 i 4))).1 441 y = nI (mrA (S.1.2.1 i) d (5 ^ S.1.2.1 i 4)) from fr41)) cx (dA ddX8_shape (i := 22) rfl) h0 ?_
          refine x_iconst (pc := 44) (v := nI 1) cx (dA ddX8_shape (i := 23) rfl) (by decide) ?_
          refine x_iadd (pc := 45) cx (dA ddX8_shape (i := 24) rfl) ?_
          rw [nI_add]
          refine x_goto (pc := 46) (tgt := 50) cx (dA ddX8_shape (i := 25) rfl) (by decide) ?_
          refine x_ireturn (pc := 50) cx (dA ddX8_shape (i := 27) rfl) (by first | exact Nat.le_of_ble_eq_true rfl | omega) (by first | exact Nat.le_of_ble_eq_true rfl | omega) ?_
          have bm := bar_mr hN (z := d) (by omega) (by omega)
          rw [er] at bm
          have bm2 := bm.trans (if_pos c37)
          exact pMI.q hRM (MF.sI (MF.sI (MF.of hF.1 (by omega) (by omega)) (by decide) (by decide)) (by decide) (by decide)) (by unfold fShape; rw [if_pos ⟨ch, cl1⟩]; simp only [hX, ti, td]; rw [bm2]; rfl)
    · have z0 : d = 0 := nI_inj (b := 0) (by omega) (by decide) c10
      refine x_aload_n (pc := 13) cx (dA ddX8_shape (i := 7) rfl) rfl ?_
      refine x_bipush (pc := 14) (v := -2) cx (dA ddX8_shape (i := 8) rfl) (by decide) ?_
      refine x_V1 (pc := 16) mX8_119 h0 (c_X8_refuse hM (i := 0) (by decide) rfl) cx (dA ddX8_shape (i := 9) rfl) (kI ?_)
      refine x_ireturn (pc := 19) cx (dA ddX8_shape (i := 10) rfl) (by first | exact Nat.le_of_ble_eq_true rfl | omega) (by first | exact Nat.le_of_ble_eq_true rfl | omega) ?_
      first | exact pMI.r hRM (by decide) (if_neg (fun q => by have := q.2.1; rw [z0, nI_toInt (by decide)] at this; omega))
theorem c_X8_odd {l : Launch} {Z : zP} {G : zG} {V : zV} {y : Nat} {zk : Option Nat} {S : SX} (hRM : RM Z G V y zk S) {h d : Int32} : CT l Z yX8_odd cX8_odd 4 (some .int) 6 0 0 [.ref y, .int h, .int d] G V (pMI Z G V y zk (fOdd S h d)) := by
  refine CT.of (by decide +kernel) (Nat.le_of_ble_eq_true rfl) (fun X hX cx => ?_)
  subst hX
  show Wm Z X 4 G V 0 0 _ 0 [(0, some (.ref y)), (1, some (.int h)), (2, some (.int d))] []
  have hM := hRM.1
  have h0 := hM.1
  have hc := hRM.2.2.1.1
  have c6 := hRM.2.2.1.2.1
  have hmu := hRM.2.2.2.2.2.2.1
  refine x_aload_n (pc := 0) cx (dA ddX8_odd (i := 0) rfl) rfl ?_
  refine x_iload_n (pc := 1) cx (dA ddX8_odd (i := 1) rfl) rfl ?_
  refine x_iload_n (pc := 2) cx (dA ddX8_odd (i := 2) rfl) rfl ?_
  refine x_V2 (pc := 3) mX8_239 h0 (c_X8_isLeft_a hRM) cx (dA ddX8_odd (i := 3) rfl) (kI ?_)
  refine x_if_eq (pc := 6) (tgt := 13) cx (dA ddX8_odd (i := 4) rfl) (by decide) (fun c6 => ?_) (fun c6 => ?_)
  · have c6 := b2i_eq c6
    refine x_aload_n (pc := 13) cx (dA ddX8_odd (i := 7) rfl) rfl ?_
    refine x_bipush (pc := 14) (v := -2) cx (dA ddX8_odd (i := 8) rfl) (by decide) ?_
    refine x_V1 (pc := 16) mX8_119 h0 (c_X8_refuse hM (i := 0) (by decide) rfl) cx (dA ddX8_odd (i := 9) rfl) (kI ?_)
    refine x_ireturn (pc := 19) cx (dA ddX8_odd (i := 10) rfl) (by first | exact Nat.le_of_ble_eq_true rfl | omega) (by first | exact Nat.le_of_ble_eq_true rfl | omega) ?_
    first | exact pMI.r hRM (by decide) (if_neg (fun q => c6 ⟨q.1, ⟨by have := q.2.1; omega, q.2.2⟩⟩))
  · have c6 := b2i_ne c6
    obtain ⟨ch, cl⟩ := c6
    obtain ⟨i, hi, rfl, ti⟩ := i32_in ch
    obtain ⟨hR, hN⟩ := hRM.2.2.1.2.2.1 i hi
    have hB := hN.1
    have b4 := hB.1
    have n125 := st125 b4
    have h06 := hN.2.1
    have hh : i < 8 := by omega
    have cl2 : okl (S.1.2.1 i) d := by rw [← ti]; exact cl
    obtain ⟨d, hd, rfl, td⟩ := i32_in (x := d) (n := S.1.2.1 i 0 + 1) ⟨cl2.1, by have := cl2.2; omega⟩
    refine x_iload_n (pc := 9) cx (dA ddX8_odd (i := 5) rfl) rfl ?_
    refine x_if_ne (pc := 10) (tgt := 20) cx (dA ddX8_odd (i := 6) rfl) (by decide) (fun c10 => ?_) (fun c10 => ?_)
    · have d0 : d ≠ 0 := fun e => c10 (by rw [e]; rfl)
      have cl1 : okl1 (hX S (nI i)) (nI d) := ⟨by rw [nI_toInt (by omega)]; omega, cl.2⟩
      refine x_aload_n (pc := 20) cx (dA ddX8_odd (i := 11) rfl) rfl ?_
      refine x_iload_n (pc := 21) cx (dA ddX8_odd (i := 12) rfl) rfl ?_
      refine x_iload_n (pc := 22) cx (dA ddX8_odd (i := 13) rfl) rfl ?_
      refine x_V2 (pc := 23) mX8_316 h0 (c_X8_findRooms hM hh hR hB hN hmu (z := d) (by omega) (by omega)) cx (dA ddX8_odd (i := 14) rfl) (kIx fun V3 h3 => ?_)
      obtain ⟨V2, hF, e3⟩ := h3
      subst e3
      refine x_if_ne (pc := 26) (tgt := 31) cx (dA ddX8_odd (i := 15) rfl) (by decide) (fun c26 => ?_) (fun c26 => ?_)
      · obtain ⟨r, er⟩ := Option.ne_none_iff_exists'.mp (b2i_ne c26)
        have rl : r ≤ 1188 := lrS_le hB er
        have ml := mrA_le hB (z := d) (5 ^ S.1.2.1 i 4)
        have oe : oddP (S.1.2.1 i) d = odA (S.1.2.1 i) d r (5 ^ S.1.2.1 i 4) := by unfold oddP; rw [er]
        refine x_iconst (pc := 31) (v := nI 0) cx (dA ddX8_odd (i := 18) rfl) (by decide) ?_
        refine x_istore_n (pc := 32) cx (dA ddX8_odd (i := 19) rfl) (by decide) rfl ?_
        have L33 : ∀ s, s ≤ 5 ^ S.1.2.1 i 4 → odA (S.1.2.1 i) d r s = none → Wm Z X 4 G (frV V2 y (lrS (S.1.2.1 i) d (5 ^ S.1.2.1 i 4)) (mrA (S.1.2.1 i) d (5 ^ S.1.2.1 i 4))) 0 0 (rQ Z X 0 0 (pMI Z G V y zk (fOdd S (nI i) (nI d)))) 33 [(0, some (.ref y)), (1, some (.int (nI i))), (2, some (.int (nI d))), (3, some (.int (nI s)))] [] := by
          refine lpU (5 ^ S.1.2.1 i 4) (fun s hs ih => ?_)
          intro ho
          refine x_iload_n (pc := 33) cx (dA ddX8_odd (i := 20) rfl) rfl ?_
          refine x_aload_n (pc := 34) cx (dA ddX8_odd (i := 21) rfl) rfl ?_
          refine x_iload_n (pc := 35) cx (dA ddX8_odd (i := 22) rfl) rfl ?_
          refine x_V1 (pc := 36) mX8_110 h0 (c_X8_states (V := (frV V2 y (lrS (S.1.2.1 i) d (5 ^ S.1.2.1 i 4)) (mrA (S.1.2.1 i) d (5 ^ S.1.2.1 i 4)))) hM hh (id (hR.same39 (V' := V2) hh hF.1) : MH (frV V2 y (lrS (S.1.2.1 i) d (5 ^ S.1.2.1 i 4)) (mrA (S.1.2.1 i) d (5 ^ S.1.2.1 i 4))) y i (S.1.2.1 i)) hB) cx (dA ddX8_odd (i := 23) rfl) (kI ?_)
          refine x_icmp_ge (pc := 39) (tgt := 75) cx (dA ddX8_odd (i := 24) rfl) (by decide) (fun c39 => ?_) (fun c39 => ?_)
          · have c39 := cleT (by omega) (by omega) c39
            have es : s = 5 ^ S.1.2.1 i 4 := by omega
            subst es
            refine x_iconst (pc := 75) (v := -1) cx (dA ddX8_odd (i := 44) rfl) (by decide) ?_
            refine x_ireturn (pc := 76) cx (dA ddX8_odd (i := 45) rfl) (by first | exact Nat.le_of_ble_eq_true rfl | omega) (by first | exact Nat.le_of_ble_eq_true rfl | omega) ?_
            exact pMI.q hRM (MF.sI (MF.sI (MF.of hF.1 (by omega) (by omega)) (by decide) (by decide)) (by decide) (by decide)) (by unfold fOdd; rw [if_pos ⟨ch, cl1⟩]; simp only [hX, ti, td]; rw [oe, ho]; rfl)
          · have c39 := cleF (by omega) (by omega) c39
            have sl := sumP_lt hB (s := s) (w := 0) (by omega)
            have lt31 : ldP (S.1.2.1 i) d s < 2 ^ 31 := by have := ldP_lt hN (z := d) (by omega) (by omega) c39; omega
            refine x_aload_n (pc := 42) cx (dA ddX8_odd (i := 25) rfl) rfl ?_
            refine gX8_58 (pc := 43) (rfA hM.2.2.2.2.2.2.2.2.2.2.2.2.2.2.1.1) cx (dA ddX8_odd (i := 26) rfl) h0 ?_
            refine x_iload_n (pc := 46) cx (dA ddX8_odd (i := 27) rfl) rfl ?_
            refine x_aaload (pc := 47) cx (dA ddX8_odd (i := 28) rfl) hM.2.2.2.2.2.2.2.2.2.2.2.2.2.2.1.2.1 (by decide) (by decide) (by omega) (by decide) ?_
            rw [arA (hM.2.2.2.2.2.2.2.2.2.2.2.2.2.2.1.2.2 d (by omega)).1]
            refine x_iload_n (pc := 48) cx (dA ddX8_odd (i := 29) rfl) rfl ?_
            refine x_iaload (pc := 49) cx (dA ddX8_odd (i := 30) rfl) (hM.2.2.2.2.2.2.2.2.2.2.2.2.2.2.1.2.2 d (by omega)).2 (by omega) (by decide) ?_
            rw [show (frV V2 y (lrS (S.1.2.1 i) d (5 ^ S.1.2.1 i 4)) (mrA (S.1.2.1 i) d (5 ^ S.1.2.1 i 4))).2.2.1 (y + 47 + 1 + d) s = nI (ldP (S.1.2.1 i) d s) from ((hF.2.2 d (by omega) s c39).2).trans (by rw [mlM_ld (by omega)])]
            refine x_if_ne (pc := 50) (tgt := 69) cx (dA ddX8_odd (i := 31) rfl) (by decide) (fun c50 => ?_) (fun c50 => ?_)
            · have e9 : odA (S.1.2.1 i) d r (s + 1) = none := by show (match odA (S.1.2.1 i) d r s with | some t => some t | none => _) = _; rw [ho]; exact if_neg (fun q => c50 (by rw [q.2]; rfl))
              refine x_iinc (pc := 69) cx (dA ddX8_odd (i := 42) rfl) rfl (iinc1 _) (by decide) rfl ?_
              refine x_goto (pc := 72) (tgt := 33) cx (dA ddX8_odd (i := 43) rfl) (by decide) ?_
              exact x_enter (ih (by omega) e9) ⟨.inr rfl, .inr rfl, .inr rfl, .inr rfl, trivial⟩
            · have l0 : ldP (S.1.2.1 i) d s = 0 := nI_inj (b := 0) lt31 (by decide) c50
              refine x_aload_n (pc := 53) cx (dA ddX8_odd (i := 32) rfl) rfl ?_
              refine x_iload_n (pc := 54) cx (dA ddX8_odd (i := 33) rfl) rfl ?_
              refine x_iload_n (pc := 55) cx (dA ddX8_odd (i := 34) rfl) rfl ?_
              refine x_iconst (pc := 56) (v := nI 0) cx (dA ddX8_odd (i := 35) rfl) (by decide) ?_
              refine x_V3 (pc := 57) mX8_236 h0 (c_X8_sum (V := (frV V2 y (lrS (S.1.2.1 i) d (5 ^ S.1.2.1 i 4)) (mrA (S.1.2.1 i) d (5 ^ S.1.2.1 i 4)))) hM hh (id (hR.same39 (V' := V2) hh hF.1) : MH (frV V2 y (lrS (S.1.2.1 i) d (5 ^ S.1.2.1 i 4)) (mrA (S.1.2.1 i) d (5 ^ S.1.2.1 i 4))) y i (S.1.2.1 i)) hB (s := s) (w := 0) (by omega) (by decide)) cx (dA ddX8_odd (i := 36) rfl) (kI ?_)
              refine x_aload_n (pc := 60) cx (dA ddX8_odd (i := 37) rfl) rfl ?_
              refine gX8_310 (pc := 61) (congrArg Value.int (show (frV V2 y (lrS (S.1.2.1 i) d (5 ^ S.1.2.1 i 4)) (mrA (S.1.2.1 i) d (5 ^ S.1.2.1 i 4))).1 440 y = nI r from fr40.trans (by rw [er]; rfl))) cx (dA ddX8_odd (i := 38) rfl) h0 ?_
              refine x_icmp_lt (pc := 64) (tgt := 69) cx (dA ddX8_odd (i := 39) rfl) (by decide) (fun c64 => ?_) (fun c64 => ?_)
              · have c64 := cltT (by omega) (by omega) c64
                have e9 : odA (S.1.2.1 i) d r (s + 1) = none := by show (match odA (S.1.2.1 i) d r s with | some t => some t | none => _) = _; rw [ho]; exact if_neg (fun q => by omega)
                refine x_iinc (pc := 69) cx (dA ddX8_odd (i := 42) rfl) rfl (iinc1 _) (by decide) rfl ?_
                refine x_goto (pc := 72) (tgt := 33) cx (dA ddX8_odd (i := 43) rfl) (by decide) ?_
                exact x_enter (ih (by omega) e9) ⟨.inr rfl, .inr rfl, .inr rfl, .inr rfl, trivial⟩
              · have c64 := cltF (by omega) (by omega) c64
                have e8 := odA_some ho ⟨by omega, l0⟩ c39
                refine x_iload_n (pc := 67) cx (dA ddX8_odd (i := 40) rfl) rfl ?_
                refine x_ireturn (pc := 68) cx (dA ddX8_odd (i := 41) rfl) (by first | exact Nat.le_of_ble_eq_true rfl | omega) (by first | exact Nat.le_of_ble_eq_true rfl | omega) ?_
                exact pMI.q hRM (MF.sI (MF.sI (MF.of hF.1 (by omega) (by omega)) (by decide) (by decide)) (by decide) (by decide)) (by unfold fOdd; rw [if_pos ⟨ch, cl1⟩]; simp only [hX, ti, td]; rw [oe, e8]; rfl)
        exact x_enter (L33 0 (Nat.zero_le _) rfl) ⟨.inr rfl, .inr rfl, .inr rfl, .inr rfl, trivial⟩
      · have n0 : (lrS (S.1.2.1 i) d (5 ^ S.1.2.1 i 4)) = none := Classical.not_not.mp (b2i_eq c26)
        refine x_iconst (pc := 29) (v := -1) cx (dA ddX8_odd (i := 16) rfl) (by decide) ?_
        refine x_ireturn (pc := 30) cx (dA ddX8_odd (i := 17) rfl) (by first | exact Nat.le_of_ble_eq_true rfl | omega) (by first | exact Nat.le_of_ble_eq_true rfl | omega) ?_
        have oe : oddP (S.1.2.1 i) d = none := by unfold oddP; rw [n0]
        exact pMI.q hRM (MF.sI (MF.sI (MF.of hF.1 (by omega) (by omega)) (by decide) (by decide)) (by decide) (by decide)) (by unfold fOdd; rw [if_pos ⟨ch, cl1⟩]; simp only [hX, ti, td]; rw [oe]; rfl)
    · have z0 : d = 0 := nI_inj (b := 0) (by omega) (by decide) c10
      refine x_aload_n (pc := 13) cx (dA ddX8_odd (i := 7) rfl) rfl ?_
      refine x_bipush (pc := 14) (v := -2) cx (dA ddX8_odd (i := 8) rfl) (by decide) ?_
      refine x_V1 (pc := 16) mX8_119 h0 (c_X8_refuse hM (i := 0) (by decide) rfl) cx (dA ddX8_odd (i := 9) rfl) (kI ?_)
      refine x_ireturn (pc := 19) cx (dA ddX8_odd (i := 10) rfl) (by first | exact Nat.le_of_ble_eq_true rfl | omega) (by first | exact Nat.le_of_ble_eq_true rfl | omega) ?_
      first | exact pMI.r hRM (by decide) (if_neg (fun q => by have := q.2.1; rw [z0, nI_toInt (by decide)] at this; omega))
theorem c_X8_judge {l : Launch} {Z : zP} {G : zG} {V : zV} {y : Nat} {zk : Option Nat} {S : SX} (hRM : RM Z G V y zk S) {h t r : Int32} : CT l Z yX8_judge cX8_judge 6 (some .int) 5 0 0 [.ref y, .int h, .int t, .int r] G V (pMI Z G V y zk (fJudge S h t r)) := by
  refine CT.of (by decide +kernel) (Nat.le_of_ble_eq_true rfl) (fun X hX cx => ?_)
  subst hX
  show Wm Z X 6 G V 0 0 _ 0 [(0, some (.ref y)), (1, some (.int h)), (2, some (.int t)), (3, some (.int r))] []
  have hM := hRM.1
  have h0 := hM.1
  have hc := hRM.2.2.1.1
  have c6 := hRM.2.2.1.2.1
  have hmu := hRM.2.2.2.2.2.2.1
  refine x_aload_n (pc := 0) cx (dA ddX8_judge (i := 0) rfl) rfl ?_
  refine x_iload_n (pc := 1) cx (dA ddX8_judge (i := 1) rfl) rfl ?_
  refine x_iload_n (pc := 2) cx (dA ddX8_judge (i := 2) rfl) rfl ?_
  refine x_V2 (pc := 3) mX8_233 h0 (c_X8_isState_a hRM) cx (dA ddX8_judge (i := 3) rfl) (kI ?_)
  refine x_if_eq (pc := 6) (tgt := 21) cx (dA ddX8_judge (i := 4) rfl) (by decide) (fun c6 => ?_) (fun c6 => ?_)
  · have c6 := b2i_eq c6
    refine x_aload_n (pc := 21) cx (dA ddX8_judge (i := 11) rfl) rfl ?_
    refine x_bipush (pc := 22) (v := -2) cx (dA ddX8_judge (i := 12) rfl) (by decide) ?_
    refine x_V1 (pc := 24) mX8_119 h0 (c_X8_refuse hM (i := 0) (by decide) rfl) cx (dA ddX8_judge (i := 13) rfl) (kI ?_)
    refine x_ireturn (pc := 27) cx (dA ddX8_judge (i := 14) rfl) (by first | exact Nat.le_of_ble_eq_true rfl | omega) (by first | exact Nat.le_of_ble_eq_true rfl | omega) ?_
    first | exact pMI.r hRM (by decide) (if_neg (fun q => c6 ⟨q.1, q.2.1⟩))
  · have c6 := b2i_ne c6
    obtain ⟨ch, ct⟩ := c6
    obtain ⟨i, hi, rfl, ti⟩ := i32_in ch
    obtain ⟨hR, hN⟩ := hRM.2.2.1.2.2.1 i hi
    have hB := hN.1
    have b4 := hB.1
    have n125 := st125 b4
    have h06 := hN.2.1
    have hh : i < 8 := by omega
    have ct2 : okt (S.1.2.1 i) t := by rw [← ti]; exact ct
    obtain ⟨t, ht, rfl, tt⟩ := i32_in ct2
    refine x_iload_n (pc := 9) cx (dA ddX8_judge (i := 5) rfl) rfl ?_
    refine x_i2l (pc := 10) cx (dA ddX8_judge (i := 6) rfl) ?_
    refine x_lconst (pc := 11) (v := lN 0) cx (dA ddX8_judge (i := 7) rfl) rfl ?_
    refine x_ldc2 (pc := 12) cx klX8_113 (dA ddX8_judge (i := 8) rfl) ?_
    refine x_S3 (pc := 15) mX8_94 c_X8_in cx (dA ddX8_judge (i := 9) rfl) (kI ?_)
    rw [l0_toInt, tl_toInt, show (lN 7).toInt = 7 from rfl]
    refine x_if_ne (pc := 18) (tgt := 28) cx (dA ddX8_judge (i := 10) rfl) (by decide) (fun c18 => ?_) (fun c18 => ?_)
    · have cr := b2i_ne c18
      obtain ⟨r, hr, rfl, tr⟩ := i32_in (x := r) (n := 8) ⟨cr.1, by have := cr.2; omega⟩
      have cr : oks (nI r) := ⟨cr.1, by have := cr.2; omega⟩
      have hsm := hRM.2.2.2.1 r hr
      refine x_aload_n (pc := 28) cx (dA ddX8_judge (i := 15) rfl) rfl ?_
      refine gX8_7 (pc := 29) (rfA hM.2.1.1) cx (dA ddX8_judge (i := 16) rfl) h0 ?_
      refine x_iload_n (pc := 32) cx (dA ddX8_judge (i := 17) rfl) rfl ?_
      refine x_iaload (pc := 33) cx (dA ddX8_judge (i := 18) rfl) hM.2.1.2 hr (by decide) ?_
      refine x_iconst (pc := 34) (v := nI 2) cx (dA ddX8_judge (i := 19) rfl) (by decide) ?_
      refine x_icmp_ne (pc := 35) (tgt := 45) cx (dA ddX8_judge (i := 20) rfl) (by decide) (fun c35 => ?_) (fun c35 => ?_)
      · refine x_aload_n (pc := 45) cx (dA ddX8_judge (i := 25) rfl) rfl ?_
        refine gX8_7 (pc := 46) (rfA hM.2.1.1) cx (dA ddX8_judge (i := 26) rfl) h0 ?_
        refine x_iload_n (pc := 49) cx (dA ddX8_judge (i := 27) rfl) rfl ?_
        refine x_iaload (pc := 50) cx (dA ddX8_judge (i := 28) rfl) hM.2.1.2 hr (by decide) ?_
        refine x_if_ne (pc := 51) (tgt := 61) cx (dA ddX8_judge (i := 29) rfl) (by decide) (fun c51 => ?_) (fun c51 => ?_)
        · obtain ⟨q, hq⟩ := hsm.n20 c35 c51
          obtain ⟨-, q1, q2, q3, q4, q5⟩ := hsm.2.1 q hq
          refine x_aload_n (pc := 61) cx (dA ddX8_judge (i := 34) rfl) rfl ?_
          refine gX8_16 (pc := 62) (rfA hM.2.2.2.1.1) cx (dA ddX8_judge (i := 35) rfl) h0 ?_
          refine x_iload_n (pc := 65) cx (dA ddX8_judge (i := 36) rfl) rfl ?_
          refine x_iaload (pc := 66) cx (dA ddX8_judge (i := 37) rfl) hM.2.2.2.1.2 hr (by decide) ?_
          rw [q3]
          refine x_aload_n (pc := 67) cx (dA ddX8_judge (i := 38) rfl) rfl ?_
          refine x_iload_n (pc := 68) cx (dA ddX8_judge (i := 39) rfl) rfl ?_
          refine x_V1 (pc := 69) mX8_98 h0 (c_X8_sorts hM hh hR hB) cx (dA ddX8_judge (i := 40) rfl) (kI ?_)
          refine x_icmp_ge (pc := 72) (tgt := 82) cx (dA ddX8_judge (i := 41) rfl) (by decide) (fun c72 => ?_) (fun c72 => ?_)
          · have c72 := cleT (by omega) (by omega) c72
            refine x_iconst (pc := 82) (v := nI 0) cx (dA ddX8_judge (i := 46) rfl) (by decide) ?_
            refine x_istore (pc := 83) cx (dA ddX8_judge (i := 47) rfl) (by decide) rfl ?_
            refine x_iconst (pc := 85) (v := nI 0) cx (dA ddX8_judge (i := 48) rfl) (by decide) ?_
            refine x_istore (pc := 86) cx (dA ddX8_judge (i := 49) rfl) (by decide) rfl ?_
            have L88 : ∀ j, j ≤ S.1.2.1 i 4 → jdB t q.2.2 j = true → Wm Z X 6 G V 0 0 (rQ Z X 0 0 (pMI Z G V y zk (fJudge S (nI i) (nI t) (nI r)))) 88 [(0, some (.ref y)), (1, some (.int (nI i))), (2, some (.int (nI t))), (3, some (.int (nI r))), (4, some (.int (nI (jdR (S.1.2.1 i) q.2.2 j)))), (5, some (.int (nI j)))] [] := by
              refine lpU (S.1.2.1 i 4) (fun j hj ih => ?_)
              intro hj1
              refine x_iload (pc := 88) cx (dA ddX8_judge (i := 50) rfl) rfl ?_
              refine x_aload_n (pc := 90) cx (dA ddX8_judge (i := 51) rfl) rfl ?_
              refine x_iload_n (pc := 91) cx (dA ddX8_judge (i := 52) rfl) rfl ?_
              refine x_V1 (pc := 92) mX8_98 h0 (c_X8_sorts hM hh hR hB) cx (dA ddX8_judge (i := 53) rfl) (kI ?_)
              refine x_icmp_ge (pc := 95) (tgt := 153) cx (dA ddX8_judge (i := 54) rfl) (by decide) (fun c95 => ?_) (fun c95 => ?_)
              · have c95 := cleT (by omega) (by omega) c95
                have ej : j = S.1.2.1 i 4 := by omega
                subst ej
                have jl := jdR_le hB hj1 (Nat.le_refl _)
                have b2 := hB.2 2 (by decide)
                refine x_iload (pc := 153) cx (dA ddX8_judge (i := 88) rfl) rfl ?_
                refine x_aload_n (pc := 155) cx (dA ddX8_judge (i := 89) rfl) rfl ?_
                refine gX8_45 (pc := 156) (rfA hM.2.2.2.2.2.2.2.2.2.2.2.1.1) cx (dA ddX8_judge (i := 90) rfl) h0 ?_
                refine x_iload_n (pc := 159) cx (dA ddX8_judge (i := 91) rfl) rfl ?_
                refine x_aaload (pc := 160) cx (dA ddX8_judge (i := 92) rfl) hM.2.2.2.2.2.2.2.2.2.2.2.1.2.1 (by decide) (by decide) hh (by decide) ?_
                rw [arA (hM.2.2.2.2.2.2.2.2.2.2.2.1.2.2 i hh).1]
                refine x_iconst (pc := 161) (v := nI 2) cx (dA ddX8_judge (i := 93) rfl) (by decide) ?_
                refine x_iaload (pc := 162) cx (dA ddX8_judge (i := 94) rfl) (hM.2.2.2.2.2.2.2.2.2.2.2.1.2.2 i hh).2 (by decide) (by decide) ?_
                rw [hR 2 (by omega)]
                refine x_icmp_le (pc := 163) (tgt := 170) cx (dA ddX8_judge (i := 95) rfl) (by decide) (fun c163 => ?_) (fun c163 => ?_)
                · have c163 := cleT (by omega) (by omega) c163
                  refine x_iconst (pc := 170) (v := nI 0) cx (dA ddX8_judge (i := 98) rfl) (by decide) ?_
                  refine x_ireturn (pc := 171) cx (dA ddX8_judge (i := 99) rfl) (by first | exact Nat.le_of_ble_eq_true rfl | omega) (by first | exact Nat.le_of_ble_eq_true rfl | omega) ?_
                  have e8 : jdP (hX S (nI i)) (tn (nI t)) q.2.2 = (if S.1.2.1 i 2 < jdR (S.1.2.1 i) q.2.2 (S.1.2.1 i 4) then 2 else 0) := by rw [hX_at hh, tt]; unfold jdP; rw [hj1, if_pos rfl]
                  exact pMI.q hRM (MF.refl V y) (by unfold fJudge; rw [if_pos ⟨ch, ct, cr⟩, shX_at hr, hq]; exact (if_neg (by rw [hX_at hh]; omega)).trans (by rw [e8]; first | rw [if_pos (by omega)] | rw [if_neg (by omega)]))
                · have c163 := cleF (by omega) (by omega) c163
                  refine x_iconst (pc := 166) (v := nI 2) cx (dA ddX8_judge (i := 96) rfl) (by decide) ?_
                  refine x_goto (pc := 167) (tgt := 171) cx (dA ddX8_judge (i := 97) rfl) (by decide) ?_
                  refine x_ireturn (pc := 171) cx (dA ddX8_judge (i := 99) rfl) (by first | exact Nat.le_of_ble_eq_true rfl | omega) (by first | exact Nat.le_of_ble_eq_true rfl | omega) ?_
                  have e8 : jdP (hX S (nI i)) (tn (nI t)) q.2.2 = (if S.1.2.1 i 2 < jdR (S.1.2.1 i) q.2.2 (S.1.2.1 i 4) then 2 else 0) := by rw [hX_at hh, tt]; unfold jdP; rw [hj1, if_pos rfl]
                  exact pMI.q hRM (MF.refl V y) (by unfold fJudge; rw [if_pos ⟨ch, ct, cr⟩, shX_at hr, hq]; exact (if_neg (by rw [hX_at hh]; omega)).trans (by rw [e8]; first | rw [if_pos (by omega)] | rw [if_neg (by omega)]))
              · have c95 := cleF (by omega) (by omega) c95
                have dl := dig_lt t j
                have n9 := hB.2 (5 + 5 * j + 0) (by omega)
                refine x_aload_n (pc := 98) cx (dA ddX8_judge (i := 55) rfl) rfl ?_
                refine gX8_21 (pc := 99) (rfA hM.2.2.2.2.1.1) cx (dA ddX8_judge (i := 56) rfl) h0 ?_
                refine x_iload_n (pc := 102) cx (dA ddX8_judge (i := 57) rfl) rfl ?_
                refine x_aaload (pc := 103) cx (dA ddX8_judge (i := 58) rfl) hM.2.2.2.2.1.2.1 (by decide) (by decide) hr (by decide) ?_
                rw [arA (hM.2.2.2.2.1.2.2 r hr).1]
                refine x_iload (pc := 104) cx (dA ddX8_judge (i := 59) rfl) rfl ?_
                refine x_laload (pc := 106) cx (dA ddX8_judge (i := 60) rfl) (hM.2.2.2.2.1.2.2 r hr).2 (by omega) (by decide) ?_
                rw [q5 j (by omega)]
                refine x_lconst (pc := 107) (v := lN 0) cx (dA ddX8_judge (i := 61) rfl) rfl ?_
                refine x_iload_n (pc := 108) cx (dA ddX8_judge (i := 62) rfl) rfl ?_
                refine x_iload (pc := 109) cx (dA ddX8_judge (i := 63) rfl) rfl ?_
                refine x_S2 (pc := 111) mX8_226 (c_X8_ofState (s := t) (k := j) (by omega) (by omega)) cx (dA ddX8_judge (i := 64) rfl) (kI ?_)
                refine x_i2l (pc := 114) cx (dA ddX8_judge (i := 65) rfl) ?_
                rw [nI_l (by omega)]
                refine x_S3 (pc := 115) mX8_94 c_X8_in cx (dA ddX8_judge (i := 66) rfl) (kI ?_)
                rw [b2i_congr (show ((lN 0).toInt ≤ (q.2.2 j).toInt ∧ (q.2.2 j).toInt ≤ (lN (dig t j)).toInt) ↔ (0 ≤ q.2.2 j ∧ q.2.2 j ≤ lN (dig t j)) from ⟨fun z => ⟨i64_le.mpr z.1, i64_le.mpr z.2⟩, fun z => ⟨i64_le.mp z.1, i64_le.mp z.2⟩⟩)]
                refine x_if_ne (pc := 118) (tgt := 123) cx (dA ddX8_judge (i := 67) rfl) (by decide) (fun c118 => ?_) (fun c118 => ?_)
                · have c118 := b2i_ne c118
                  have gk := l64_nat c118.1 c118.2 (by omega)
                  have e9 : jdB t q.2.2 (j + 1) = true := by show (jdB t q.2.2 j && (decide _ && decide _)) = true; rw [hj1, decide_eq_true c118.1, decide_eq_true c118.2]; rfl
                  refine x_iload (pc := 123) cx (dA ddX8_judge (i := 70) rfl) rfl ?_
                  refine x_aload_n (pc := 125) cx (dA ddX8_judge (i := 71) rfl) rfl ?_
                  refine gX8_21 (pc := 126) (rfA hM.2.2.2.2.1.1) cx (dA ddX8_judge (i := 72) rfl) h0 ?_
                  refine x_iload_n (pc := 129) cx (dA ddX8_judge (i := 73) rfl) rfl ?_
                  refine x_aaload (pc := 130) cx (dA ddX8_judge (i := 74) rfl) hM.2.2.2.2.1.2.1 (by decide) (by decide) hr (by decide) ?_
                  rw [arA (hM.2.2.2.2.1.2.2 r hr).1]
                  refine x_iload (pc := 131) cx (dA ddX8_judge (i := 75) rfl) rfl ?_
                  refine x_laload (pc := 133) cx (dA ddX8_judge (i := 76) rfl) (hM.2.2.2.2.1.2.2 r hr).2 (by omega) (by decide) ?_
                  rw [q5 j (by omega)]
                  refine x_l2i (pc := 134) cx (dA ddX8_judge (i := 77) rfl) ?_
                  rw [show (q.2.2 j).toInt32 = nI (q.2.2 j).toNatClampNeg by have e := congrArg Int64.toInt32 gk.2; exact e.trans (l2iA ⟨(q.2.2 j).toNatClampNeg, by omega⟩)]
                  refine x_aload_n (pc := 135) cx (dA ddX8_judge (i := 78) rfl) rfl ?_
                  refine x_iload_n (pc := 136) cx (dA ddX8_judge (i := 79) rfl) rfl ?_
                  refine x_iload (pc := 137) cx (dA ddX8_judge (i := 80) rfl) rfl ?_
                  refine x_iconst (pc := 139) (v := nI 0) cx (dA ddX8_judge (i := 81) rfl) (by decide) ?_
                  refine x_V3 (pc := 140) mX8_229 h0 (c_X8_numberOf hM hh hR hB (k := j) (w := 0) c95 (by decide)) cx (dA ddX8_judge (i := 82) rfl) (kI ?_)
                  refine x_imul (pc := 143) cx (dA ddX8_judge (i := 83) rfl) ?_
                  rw [nI_cmul]
                  refine x_iadd (pc := 144) cx (dA ddX8_judge (i := 84) rfl) ?_
                  rw [nI_add]
                  refine x_istore (pc := 145) cx (dA ddX8_judge (i := 85) rfl) (by decide) rfl ?_
                  refine x_iinc (pc := 147) cx (dA ddX8_judge (i := 86) rfl) rfl (iinc1 _) (by decide) rfl ?_
                  refine x_goto (pc := 150) (tgt := 88) cx (dA ddX8_judge (i := 87) rfl) (by decide) ?_
                  exact x_enter (ih (by omega) e9) ⟨.inr rfl, .inr rfl, .inr rfl, .inr rfl, .inr rfl, .inr rfl, trivial⟩
                · have c118 := b2i_eq c118
                  refine x_iconst (pc := 121) (v := nI 1) cx (dA ddX8_judge (i := 68) rfl) (by decide) ?_
                  refine x_ireturn (pc := 122) cx (dA ddX8_judge (i := 69) rfl) (by first | exact Nat.le_of_ble_eq_true rfl | omega) (by first | exact Nat.le_of_ble_eq_true rfl | omega) ?_
                  have e8 : jdP (hX S (nI i)) (tn (nI t)) q.2.2 = 1 := by rw [hX_at hh, tt]; unfold jdP; rw [jdB_f c118 c95, if_neg (fun q => Bool.noConfusion q)]
                  exact pMI.q hRM (MF.refl V y) (by unfold fJudge; rw [if_pos ⟨ch, ct, cr⟩, shX_at hr, hq]; exact (if_neg (by rw [hX_at hh]; omega)).trans (by rw [e8]))
            exact x_enter (L88 0 (Nat.zero_le _) rfl) ⟨.inr rfl, .inr rfl, .inr rfl, .inr rfl, .inr rfl, .inr rfl, trivial⟩
          · have c72 := cleF (by omega) (by omega) c72
            have bs : q.2.1 < hX S (nI i) 4 := by rw [hX_at hh]; exact c72
            refine x_aload_n (pc := 75) cx (dA ddX8_judge (i := 42) rfl) rfl ?_
            refine x_bipush (pc := 76) (v := -2) cx (dA ddX8_judge (i := 43) rfl) (by decide) ?_
            refine x_V1 (pc := 78) mX8_119 h0 (c_X8_refuse hM (i := 0) (by decide) rfl) cx (dA ddX8_judge (i := 44) rfl) (kI ?_)
            refine x_ireturn (pc := 81) cx (dA ddX8_judge (i := 45) rfl) (by first | exact Nat.le_of_ble_eq_true rfl | omega) (by first | exact Nat.le_of_ble_eq_true rfl | omega) ?_
            exact pMI.r hRM (by decide) (by unfold fJudge; rw [if_pos ⟨ch, ct, cr⟩, shX_at hr, hq]; exact if_pos bs)
        · have hq := hsm.i0 c51
          refine x_aload_n (pc := 54) cx (dA ddX8_judge (i := 30) rfl) rfl ?_
          refine x_bipush (pc := 55) (v := -4) cx (dA ddX8_judge (i := 31) rfl) (by decide) ?_
          refine x_V1 (pc := 57) mX8_119 h0 (c_X8_refuse hM (i := 2) (by decide) rfl) cx (dA ddX8_judge (i := 32) rfl) (kI ?_)
          refine x_ireturn (pc := 60) cx (dA ddX8_judge (i := 33) rfl) (by first | exact Nat.le_of_ble_eq_true rfl | omega) (by first | exact Nat.le_of_ble_eq_true rfl | omega) ?_
          exact pMI.r hRM (by decide) (by unfold fJudge; rw [if_pos ⟨ch, ct, cr⟩, shX_at hr, hq]; skip)
      · obtain ⟨q, hq⟩ := hsm.i2 c35
        refine x_aload_n (pc := 38) cx (dA ddX8_judge (i := 21) rfl) rfl ?_
        refine x_bipush (pc := 39) (v := -3) cx (dA ddX8_judge (i := 22) rfl) (by decide) ?_
        refine x_V1 (pc := 41) mX8_119 h0 (c_X8_refuse hM (i := 1) (by decide) rfl) cx (dA ddX8_judge (i := 23) rfl) (kI ?_)
        refine x_ireturn (pc := 44) cx (dA ddX8_judge (i := 24) rfl) (by first | exact Nat.le_of_ble_eq_true rfl | omega) (by first | exact Nat.le_of_ble_eq_true rfl | omega) ?_
        exact pMI.r hRM (by decide) (by unfold fJudge; rw [if_pos ⟨ch, ct, cr⟩, shX_at hr, hq]; skip)
    · have c18 := b2i_eq c18
      refine x_aload_n (pc := 21) cx (dA ddX8_judge (i := 11) rfl) rfl ?_
      refine x_bipush (pc := 22) (v := -2) cx (dA ddX8_judge (i := 12) rfl) (by decide) ?_
      refine x_V1 (pc := 24) mX8_119 h0 (c_X8_refuse hM (i := 0) (by decide) rfl) cx (dA ddX8_judge (i := 13) rfl) (kI ?_)
      refine x_ireturn (pc := 27) cx (dA ddX8_judge (i := 14) rfl) (by first | exact Nat.le_of_ble_eq_true rfl | omega) (by first | exact Nat.le_of_ble_eq_true rfl | omega) ?_
      first | exact pMI.r hRM (by decide) (if_neg (fun q => by have z := q.2.2; exact c18 ⟨z.1, by have := z.2; omega⟩))
theorem c_X8_boy {l : Launch} {Z : zP} {G : zG} {V : zV} {y : Nat} {zk : Option Nat} {S : SX} (hRM : RM Z G V y zk S) {h : Int32} : CT l Z yX8_boy cX8_boy 8 (some .int) 6 0 0 [.ref y, .int h] G V (pMI Z G V y zk (fBoy S h)) := by
  refine CT.of (by decide +kernel) (Nat.le_of_ble_eq_true rfl) (fun X hX cx => ?_)
  subst hX
  show Wm Z X 8 G V 0 0 _ 0 [(0, some (.ref y)), (1, some (.int h))] []
  have hM := hRM.1
  have h0 := hM.1
  have hc := hRM.2.2.1.1
  have c6 := hRM.2.2.1.2.1
  have hmu := hRM.2.2.2.2.2.2.1
  refine x_aload_n (pc := 0) cx (dA ddX8_boy (i := 0) rfl) rfl ?_
  refine x_iload_n (pc := 1) cx (dA ddX8_boy (i := 1) rfl) rfl ?_
  refine x_V1 (pc := 2) mX8_106 h0 (c_X8_isHouse hM hc c6) cx (dA ddX8_boy (i := 2) rfl) (kI ?_)
  refine x_if_ne (pc := 5) (tgt := 15) cx (dA ddX8_boy (i := 3) rfl) (by decide) (fun c5 => ?_) (fun c5 => ?_)
  · have ch : okc S h := b2i_ne c5
    obtain ⟨i, hi, rfl, ti⟩ := i32_in ch
    obtain ⟨hR, hN⟩ := hRM.2.2.1.2.2.1 i hi
    have hB := hN.1
    have b4 := hB.1
    have n125 := st125 b4
    have h06 := hN.2.1
    have hh : i < 8 := by omega
    refine x_iconst (pc := 15) (v := -1) cx (dA ddX8_boy (i := 8) rfl) (by decide) ?_
    refine x_istore_n (pc := 16) cx (dA ddX8_boy (i := 9) rfl) (by decide) rfl ?_
    refine x_lconst (pc := 17) (v := lN 0) cx (dA ddX8_boy (i := 10) rfl) rfl ?_
    refine x_lstore_n (pc := 18) cx (dA ddX8_boy (i := 11) rfl) (by decide) rfl ?_
    refine x_iconst (pc := 19) (v := nI 0) cx (dA ddX8_boy (i := 12) rfl) (by decide) ?_
    refine x_istore (pc := 20) cx (dA ddX8_boy (i := 13) rfl) (by decide) rfl ?_
    have L22 : ∀ s, s ≤ 8 → ∀ V1, MF V V1 y → Wm Z X 8 G V1 0 0 (rQ Z X 0 0 (pMI Z G V y zk (fBoy S (nI i)))) 22 [(0, some (.ref y)), (1, some (.int (nI i))), (2, some (.int (nhV (boA S (S.1.2.1 i) s).1))), (3, some (.long (lN (boA S (S.1.2.1 i) s).2))), (5, some (.int (nI s)))] [] := by
      refine lpU 8 (fun s hs ih => ?_)
      intro V1 hI
      refine x_iload (pc := 22) cx (dA ddX8_boy (i := 14) rfl) rfl ?_
      refine x_bipush (pc := 24) (v := nI 8) cx (dA ddX8_boy (i := 15) rfl) (by decide) ?_
      refine x_icmp_ge (pc := 26) (tgt := 88) cx (dA ddX8_boy (i := 16) rfl) (by decide) (fun c26 => ?_) (fun c26 => ?_)
      · have c26 := cleT (by omega) (by omega) c26
        have es : s = 8 := by omega
        subst es
        refine x_iload_n (pc := 88) cx (dA ddX8_boy (i := 52) rfl) rfl ?_
        refine x_iconst (pc := 89) (v := -1) cx (dA ddX8_boy (i := 53) rfl) (by decide) ?_
        refine x_icmp_ne (pc := 90) (tgt := 102) cx (dA ddX8_boy (i := 54) rfl) (by decide) (fun c90 => ?_) (fun c90 => ?_)
        · obtain ⟨s, es⟩ : ∃ s, (boA S (S.1.2.1 i) 8).1 = some s := by cases e : (boA S (S.1.2.1 i) 8).1 with | none => exact absurd (by rw [e]; rfl) c90 | some s => exact ⟨s, rfl⟩
          refine x_iload_n (pc := 102) cx (dA ddX8_boy (i := 59) rfl) rfl ?_
          refine x_ireturn (pc := 103) cx (dA ddX8_boy (i := 60) rfl) (by first | exact Nat.le_of_ble_eq_true rfl | omega) (by first | exact Nat.le_of_ble_eq_true rfl | omega) ?_
          exact pMI.q hRM hI (by unfold fBoy; rw [if_pos ch, hX_at hh, es]; rfl)
        · have es := (nhV_m1 (fun x e => by have := boA_lt e; omega)).mp c90
          refine x_aload_n (pc := 93) cx (dA ddX8_boy (i := 55) rfl) rfl ?_
          refine x_bipush (pc := 94) (v := -5) cx (dA ddX8_boy (i := 56) rfl) (by decide) ?_
          refine x_V1 (pc := 96) mX8_119 h0 (c_X8_refuse hM (i := 3) (by decide) rfl) cx (dA ddX8_boy (i := 57) rfl) (kI ?_)
          refine x_goto (pc := 99) (tgt := 103) cx (dA ddX8_boy (i := 58) rfl) (by decide) ?_
          refine x_ireturn (pc := 103) cx (dA ddX8_boy (i := 60) rfl) (by first | exact Nat.le_of_ble_eq_true rfl | omega) (by first | exact Nat.le_of_ble_eq_true rfl | omega) ?_
          have e := pMI.r (hRM.mf hI) (i := 3) (A := fBoy S (nI i)) (v := -5) (by decide) (by unfold fBoy; rw [if_pos ch, hX_at hh, es])
          exact ⟨e.1, e.2.1, e.2.2.1, fun a ha => (hI.out a ha).trans (e.2.2.2 a ha)⟩
      · have c26 := cleF (by omega) (by omega) c26
        have hRM1 := hRM.mf hI
        have hsm := hRM1.2.2.2.1 s c26
        have rv : ∀ x, (boA S (S.1.2.1 i) s).1 = some x → x < 2 ^ 31 := fun x e => by have := boA_lt e; omega
        have lb := boA_v (S := S) hN s
        refine x_aload_n (pc := 29) cx (dA ddX8_boy (i := 17) rfl) rfl ?_
        refine gX8_7 (pc := 30) (rfA hM.2.1.1) cx (dA ddX8_boy (i := 18) rfl) h0 ?_
        refine x_iload (pc := 33) cx (dA ddX8_boy (i := 19) rfl) rfl ?_
        refine x_iaload (pc := 35) cx (dA ddX8_boy (i := 20) rfl) hM.2.1.2 (by omega) (by decide) ?_
        refine x_iconst (pc := 36) (v := nI 2) cx (dA ddX8_boy (i := 21) rfl) (by decide) ?_
        refine x_icmp_ne (pc := 37) (tgt := 82) cx (dA ddX8_boy (i := 22) rfl) (by decide) (fun c37 => ?_) (fun c37 => ?_)
        · have nr : ∀ q, S.2.2.2.1 s ≠ some (.inr q) := fun q e => c37 ((hsm.2.2 q e).1)
          have e9 : boA S (S.1.2.1 i) (s + 1) = (boA S (S.1.2.1 i) s) := boA_n nr
          refine x_iinc (pc := 82) cx (dA ddX8_boy (i := 50) rfl) rfl (iinc1 _) (by decide) rfl ?_
          refine x_goto (pc := 85) (tgt := 22) cx (dA ddX8_boy (i := 51) rfl) (by decide) ?_
          have L := ih (by omega) _ hI
          rw [e9] at L
          exact x_enter L ⟨.inr rfl, .inr rfl, .inr rfl, .inr rfl, .inr rfl, trivial⟩
        · obtain ⟨q, hq⟩ := hsm.i2 c37
          have hR5 := (hsm.2.2 q hq).2.1
          have stp : boA S (S.1.2.1 i) (s + 1) = if (boA S (S.1.2.1 i) s).1 = none ∨ rCs (S.1.2.1 i) q.1 q.2.1 q.2.2.1 q.2.2.2 (S.1.2.1 i 0) 0 < (boA S (S.1.2.1 i) s).2 then (some s, rCs (S.1.2.1 i) q.1 q.2.1 q.2.2.1 q.2.2.2 (S.1.2.1 i 0) 0) else (boA S (S.1.2.1 i) s) := by show (match S.2.2.2.1 s with | some (.inr q) => _ | _ => _) = _; rw [hq]
          have rl : rCs (S.1.2.1 i) q.1 q.2.1 q.2.2.1 q.2.2.2 (S.1.2.1 i 0) 0 < 2 ^ 62 := by rw [← rC_s]; exact rC_lt hN h06.2 (Nat.pow_pos (by decide))
          refine x_aload_n (pc := 40) cx (dA ddX8_boy (i := 23) rfl) rfl ?_
          refine x_iload_n (pc := 41) cx (dA ddX8_boy (i := 24) rfl) rfl ?_
          refine x_iload (pc := 42) cx (dA ddX8_boy (i := 25) rfl) rfl ?_
          refine x_V2 (pc := 44) mX8_282 h0 (c_X8_findByRule (V := V1) hM hh (hI.mh hR hh) hB hN hRM1.2.2.2.2.2.2.1 (r := s) (by omega) hR5) cx (dA ddX8_boy (i := 26) rfl) (kVx fun V2 hF => ?_)
          have hI2 : MF V V2 y := hI.trans (MF.of hF.1 (by omega) (by omega))
          refine x_aload_n (pc := 47) cx (dA ddX8_boy (i := 27) rfl) rfl ?_
          refine gX8_61 (pc := 48) (rfA hM.2.2.2.2.2.2.2.2.2.2.2.2.2.2.2.1.1) cx (dA ddX8_boy (i := 28) rfl) h0 ?_
          refine x_aload_n (pc := 51) cx (dA ddX8_boy (i := 29) rfl) rfl ?_
          refine gX8_45 (pc := 52) (rfA hM.2.2.2.2.2.2.2.2.2.2.2.1.1) cx (dA ddX8_boy (i := 30) rfl) h0 ?_
          refine x_iload_n (pc := 55) cx (dA ddX8_boy (i := 31) rfl) rfl ?_
          refine x_aaload (pc := 56) cx (dA ddX8_boy (i := 32) rfl) hM.2.2.2.2.2.2.2.2.2.2.2.1.2.1 (by decide) (by decide) hh (by decide) ?_
          rw [arA (hM.2.2.2.2.2.2.2.2.2.2.2.1.2.2 i hh).1]
          refine x_iconst (pc := 57) (v := nI 0) cx (dA ddX8_boy (i := 33) rfl) (by decide) ?_
          refine x_iaload (pc := 58) cx (dA ddX8_boy (i := 34) rfl) (hM.2.2.2.2.2.2.2.2.2.2.2.1.2.2 i hh).2 (by decide) (by decide) ?_
          rw [(hI2.mh hR hh) 0 (by omega)]
          refine x_aaload (pc := 59) cx (dA ddX8_boy (i := 35) rfl) hM.2.2.2.2.2.2.2.2.2.2.2.2.2.2.2.1.2.1 (by decide) (by decide) (by omega) (by decide) ?_
          rw [arA (hM.2.2.2.2.2.2.2.2.2.2.2.2.2.2.2.1.2.2 (S.1.2.1 i 0) (by omega)).1]
          refine x_iconst (pc := 60) (v := nI 0) cx (dA ddX8_boy (i := 36) rfl) (by decide) ?_
          refine x_laload (pc := 61) cx (dA ddX8_boy (i := 37) rfl) (hM.2.2.2.2.2.2.2.2.2.2.2.2.2.2.2.1.2.2 (S.1.2.1 i 0) (by omega)).2 (by decide) (by decide) ?_
          rw [hF.2.2.2.2 (S.1.2.1 i 0) (Nat.le_refl _) 0 (Nat.pow_pos (by decide))]
          refine x_lstore (pc := 62) cx (dA ddX8_boy (i := 38) rfl) (by decide) rfl ?_
          refine x_iload_n (pc := 64) cx (dA ddX8_boy (i := 39) rfl) rfl ?_
          refine x_iconst (pc := 65) (v := -1) cx (dA ddX8_boy (i := 40) rfl) (by decide) ?_
          refine x_icmp_eq (pc := 66) (tgt := 76) cx (dA ddX8_boy (i := 41) rfl) (by decide) (fun c66 => ?_) (fun c66 => ?_)
          · have cn := (nhV_m1 rv).mp c66
            have e9 := stp.trans (if_pos (Or.inl cn))
            refine x_iload (pc := 76) cx (dA ddX8_boy (i := 46) rfl) rfl ?_
            refine x_istore_n (pc := 78) cx (dA ddX8_boy (i := 47) rfl) (by decide) rfl ?_
            refine x_lload (pc := 79) cx (dA ddX8_boy (i := 48) rfl) rfl ?_
            refine x_lstore_n (pc := 81) cx (dA ddX8_boy (i := 49) rfl) (by decide) rfl ?_
            refine x_iinc (pc := 82) cx (dA ddX8_boy (i := 50) rfl) rfl (iinc1 _) (by decide) rfl ?_
            refine x_goto (pc := 85) (tgt := 22) cx (dA ddX8_boy (i := 51) rfl) (by decide) ?_
            have L := ih (by omega) _ hI2
            rw [e9] at L
            exact x_enter L ⟨.inr rfl, .inr rfl, .inr rfl, .inr rfl, .inr rfl, trivial⟩
          · have cn : (boA S (S.1.2.1 i) s).1 ≠ none := fun e => c66 ((nhV_m1 rv).mpr e)
            refine x_lload (pc := 69) cx (dA ddX8_boy (i := 42) rfl) rfl ?_
            refine x_lload_n (pc := 71) cx (dA ddX8_boy (i := 43) rfl) rfl ?_
            refine x_lc_ge (pc := 72) (tgt := 82) cx (dA ddX8_boy (i := 44) rfl) (dA ddX8_boy (i := 45) rfl) (by decide) (fun c72 => ?_) (fun c72 => ?_)
            · have e9 := stp.trans (if_neg (fun q => q.elim cn (fun q => absurd ((pk_lLT (Nat.lt_trans rl (by decide)) (Nat.lt_trans lb (by decide))).mpr q) (Int64.not_lt.mpr c72))))
              refine x_iinc (pc := 82) cx (dA ddX8_boy (i := 50) rfl) rfl (iinc1 _) (by decide) rfl ?_
              refine x_goto (pc := 85) (tgt := 22) cx (dA ddX8_boy (i := 51) rfl) (by decide) ?_
              have L := ih (by omega) _ hI2
              rw [e9] at L
              exact x_enter L ⟨.inr rfl, .inr rfl, .inr rfl, .inr rfl, .inr rfl, trivial⟩
            · have lt := (pk_lLT (Nat.lt_trans rl (by decide)) (Nat.lt_trans lb (by decide))).mp (Int64.not_le.mp c72)
              have e9 := stp.trans (if_pos (Or.inr lt))
              refine x_iload (pc := 76) cx (dA ddX8_boy (i := 46) rfl) rfl ?_
              refine x_istore_n (pc := 78) cx (dA ddX8_boy (i := 47) rfl) (by decide) rfl ?_
              refine x_lload (pc := 79) cx (dA ddX8_boy (i := 48) rfl) rfl ?_
              refine x_lstore_n (pc := 81) cx (dA ddX8_boy (i := 49) rfl) (by decide) rfl ?_
              refine x_iinc (pc := 82) cx (dA ddX8_boy (i := 50) rfl) rfl (iinc1 _) (by decide) rfl ?_
              refine x_goto (pc := 85) (tgt := 22) cx (dA ddX8_boy (i := 51) rfl) (by decide) ?_
              have L := ih (by omega) _ hI2
              rw [e9] at L
              exact x_enter L ⟨.inr rfl, .inr rfl, .inr rfl, .inr rfl, .inr rfl, trivial⟩
    exact x_enter (L22 0 (Nat.zero_le _) V (MF.refl V y)) ⟨.inr rfl, .inr rfl, .inr rfl, .inr rfl, .inr rfl, trivial⟩
  · have c5 : ¬ okc S h := b2i_eq c5
    refine x_aload_n (pc := 8) cx (dA ddX8_boy (i := 4) rfl) rfl ?_
    refine x_bipush (pc := 9) (v := -2) cx (dA ddX8_boy (i := 5) rfl) (by decide) ?_
    refine x_V1 (pc := 11) mX8_119 h0 (c_X8_refuse hM (i := 0) (by decide) rfl) cx (dA ddX8_boy (i := 6) rfl) (kI ?_)
    refine x_ireturn (pc := 14) cx (dA ddX8_boy (i := 7) rfl) (by first | exact Nat.le_of_ble_eq_true rfl | omega) (by first | exact Nat.le_of_ble_eq_true rfl | omega) ?_
    first | exact pMI.r hRM (by decide) (if_neg (fun q => c5 q))
theorem c_X8_houseOf {l : Launch} {Z : zP} {G : zG} {V : zV} {y : Nat} {zk : Option Nat} {S : SX} (hRM : RM Z G V y zk S) {h w : Int32} : CT l Z yX8_houseOf cX8_houseOf 3 (some .int) 4 0 0 [.ref y, .int h, .int w] G V (pMI Z G V y zk (fHouseOf S h w)) := by
  refine CT.of (by decide +kernel) (Nat.le_of_ble_eq_true rfl) (fun X hX cx => ?_)
  subst hX
  show Wm Z X 3 G V 0 0 _ 0 [(0, some (.ref y)), (1, some (.int h)), (2, some (.int w))] []
  have hM := hRM.1
  have h0 := hM.1
  have hc := hRM.2.2.1.1
  have c6 := hRM.2.2.1.2.1
  have hmu := hRM.2.2.2.2.2.2.1
  refine x_aload_n (pc := 0) cx (dA ddX8_houseOf (i := 0) rfl) rfl ?_
  refine x_iload_n (pc := 1) cx (dA ddX8_houseOf (i := 1) rfl) rfl ?_
  refine x_V1 (pc := 2) mX8_106 h0 (c_X8_isHouse hM hc c6) cx (dA ddX8_houseOf (i := 2) rfl) (kI ?_)
  refine x_if_eq (pc := 5) (tgt := 31) cx (dA ddX8_houseOf (i := 3) rfl) (by decide) (fun c5 => ?_) (fun c5 => ?_)
  · have c5 : ¬ okc S h := b2i_eq c5
    refine x_aload_n (pc := 31) cx (dA ddX8_houseOf (i := 17) rfl) rfl ?_
    refine x_bipush (pc := 32) (v := -2) cx (dA ddX8_houseOf (i := 18) rfl) (by decide) ?_
    refine x_V1 (pc := 34) mX8_119 h0 (c_X8_refuse hM (i := 0) (by decide) rfl) cx (dA ddX8_houseOf (i := 19) rfl) (kI ?_)
    refine x_ireturn (pc := 37) cx (dA ddX8_houseOf (i := 20) rfl) (by first | exact Nat.le_of_ble_eq_true rfl | omega) (by first | exact Nat.le_of_ble_eq_true rfl | omega) ?_
    first | exact pMI.r hRM (by decide) (if_neg (fun q => c5 q.1))
  · have ch : okc S h := b2i_ne c5
    obtain ⟨i, hi, rfl, ti⟩ := i32_in ch
    obtain ⟨hR, hN⟩ := hRM.2.2.1.2.2.1 i hi
    have hB := hN.1
    have b4 := hB.1
    have n125 := st125 b4
    have h06 := hN.2.1
    have hh : i < 8 := by omega
    refine x_iload_n (pc := 8) cx (dA ddX8_houseOf (i := 4) rfl) rfl ?_
    refine x_i2l (pc := 9) cx (dA ddX8_houseOf (i := 5) rfl) ?_
    refine x_lconst (pc := 10) (v := lN 0) cx (dA ddX8_houseOf (i := 6) rfl) rfl ?_
    refine x_ldc2 (pc := 11) cx klX8_115 (dA ddX8_houseOf (i := 7) rfl) ?_
    refine x_S3 (pc := 14) mX8_94 c_X8_in cx (dA ddX8_houseOf (i := 8) rfl) (kI ?_)
    rw [l0_toInt, tl_toInt, show (lN 4).toInt = 4 from rfl]
    refine x_if_eq (pc := 17) (tgt := 31) cx (dA ddX8_houseOf (i := 9) rfl) (by decide) (fun c17 => ?_) (fun c17 => ?_)
    · have c17 := b2i_eq c17
      refine x_aload_n (pc := 31) cx (dA ddX8_houseOf (i := 17) rfl) rfl ?_
      refine x_bipush (pc := 32) (v := -2) cx (dA ddX8_houseOf (i := 18) rfl) (by decide) ?_
      refine x_V1 (pc := 34) mX8_119 h0 (c_X8_refuse hM (i := 0) (by decide) rfl) cx (dA ddX8_houseOf (i := 19) rfl) (kI ?_)
      refine x_ireturn (pc := 37) cx (dA ddX8_houseOf (i := 20) rfl) (by first | exact Nat.le_of_ble_eq_true rfl | omega) (by first | exact Nat.le_of_ble_eq_true rfl | omega) ?_
      first | exact pMI.r hRM (by decide) (if_neg (fun q => c17 q.2))
    · have c17 := b2i_ne c17
      obtain ⟨w, hw, rfl, tw⟩ := i32_in (x := w) (n := 5) ⟨c17.1, by have := c17.2; omega⟩
      refine x_aload_n (pc := 20) cx (dA ddX8_houseOf (i := 10) rfl) rfl ?_
      refine gX8_45 (pc := 21) (rfA hM.2.2.2.2.2.2.2.2.2.2.2.1.1) cx (dA ddX8_houseOf (i := 11) rfl) h0 ?_
      refine x_iload_n (pc := 24) cx (dA ddX8_houseOf (i := 12) rfl) rfl ?_
      refine x_aaload (pc := 25) cx (dA ddX8_houseOf (i := 13) rfl) hM.2.2.2.2.2.2.2.2.2.2.2.1.2.1 (by decide) (by decide) hh (by decide) ?_
      rw [arA (hM.2.2.2.2.2.2.2.2.2.2.2.1.2.2 i hh).1]
      refine x_iload_n (pc := 26) cx (dA ddX8_houseOf (i := 14) rfl) rfl ?_
      refine x_iaload (pc := 27) cx (dA ddX8_houseOf (i := 15) rfl) (hM.2.2.2.2.2.2.2.2.2.2.2.1.2.2 i hh).2 (by omega) (by decide) ?_
      rw [hR w (by omega)]
      refine x_goto (pc := 28) (tgt := 37) cx (dA ddX8_houseOf (i := 16) rfl) (by decide) ?_
      refine x_ireturn (pc := 37) cx (dA ddX8_houseOf (i := 20) rfl) (by first | exact Nat.le_of_ble_eq_true rfl | omega) (by first | exact Nat.le_of_ble_eq_true rfl | omega) ?_
      exact pMI.q hRM (MF.refl V y) (by unfold fHouseOf; rw [if_pos ⟨ch, c17⟩]; simp only [hX, ti, tw])
theorem c_X8_sortOf {l : Launch} {Z : zP} {G : zG} {V : zV} {y : Nat} {zk : Option Nat} {S : SX} (hRM : RM Z G V y zk S) {h k w : Int32} : CT l Z yX8_sortOf cX8_sortOf 4 (some .int) 4 0 0 [.ref y, .int h, .int k, .int w] G V (pMI Z G V y zk (fSortOf S h k w)) := by
  refine CT.of (by decide +kernel) (Nat.le_of_ble_eq_true rfl) (fun X hX cx => ?_)
  subst hX
  show Wm Z X 4 G V 0 0 _ 0 [(0, some (.ref y)), (1, some (.int h)), (2, some (.int k)), (3, some (.int w))] []
  have hM := hRM.1
  have h0 := hM.1
  have hc := hRM.2.2.1.1
  have c6 := hRM.2.2.1.2.1
  have hmu := hRM.2.2.2.2.2.2.1
  refine x_aload_n (pc := 0) cx (dA ddX8_sortOf (i := 0) rfl) rfl ?_
  refine x_iload_n (pc := 1) cx (dA ddX8_sortOf (i := 1) rfl) rfl ?_
  refine x_V1 (pc := 2) mX8_106 h0 (c_X8_isHouse hM hc c6) cx (dA ddX8_sortOf (i := 2) rfl) (kI ?_)
  refine x_if_eq (pc := 5) (tgt := 37) cx (dA ddX8_sortOf (i := 3) rfl) (by decide) (fun c5 => ?_) (fun c5 => ?_)
  · have c5 : ¬ okc S h := b2i_eq c5
    refine x_aload_n (pc := 37) cx (dA ddX8_sortOf (i := 21) rfl) rfl ?_
    refine x_bipush (pc := 38) (v := -2) cx (dA ddX8_sortOf (i := 22) rfl) (by decide) ?_
    refine x_V1 (pc := 40) mX8_119 h0 (c_X8_refuse hM (i := 0) (by decide) rfl) cx (dA ddX8_sortOf (i := 23) rfl) (kI ?_)
    refine x_ireturn (pc := 43) cx (dA ddX8_sortOf (i := 24) rfl) (by first | exact Nat.le_of_ble_eq_true rfl | omega) (by first | exact Nat.le_of_ble_eq_true rfl | omega) ?_
    first | exact pMI.r hRM (by decide) (if_neg (fun q => c5 q.1))
  · have ch : okc S h := b2i_ne c5
    obtain ⟨i, hi, rfl, ti⟩ := i32_in ch
    obtain ⟨hR, hN⟩ := hRM.2.2.1.2.2.1 i hi
    have hB := hN.1
    have b4 := hB.1
    have n125 := st125 b4
    have h06 := hN.2.1
    have hh : i < 8 := by omega
    refine x_iload_n (pc := 8) cx (dA ddX8_sortOf (i := 4) rfl) rfl ?_
    refine x_i2l (pc := 9) cx (dA ddX8_sortOf (i := 5) rfl) ?_
    refine x_lconst (pc := 10) (v := lN 0) cx (dA ddX8_sortOf (i := 6) rfl) rfl ?_
    refine x_aload_n (pc := 11) cx (dA ddX8_sortOf (i := 7) rfl) rfl ?_
    refine x_iload_n (pc := 12) cx (dA ddX8_sortOf (i := 8) rfl) rfl ?_
    refine x_V1 (pc := 13) mX8_98 h0 (c_X8_sorts hM hh hR hB) cx (dA ddX8_sortOf (i := 9) rfl) (kI ?_)
    refine x_iconst (pc := 16) (v := nI 1) cx (dA ddX8_sortOf (i := 10) rfl) (by decide) ?_
    refine x_isub (pc := 17) cx (dA ddX8_sortOf (i := 11) rfl) ?_
    refine x_i2l (pc := 18) cx (dA ddX8_sortOf (i := 12) rfl) ?_
    refine x_S3 (pc := 19) mX8_94 c_X8_in cx (dA ddX8_sortOf (i := 13) rfl) (kI ?_)
    rw [l0_toInt, tl_toInt, tl_toInt, sub1_toInt (by omega)]
    refine x_if_eq (pc := 22) (tgt := 37) cx (dA ddX8_sortOf (i := 14) rfl) (by decide) (fun c22 => ?_) (fun c22 => ?_)
    · have c22 := b2i_eq c22
      refine x_aload_n (pc := 37) cx (dA ddX8_sortOf (i := 21) rfl) rfl ?_
      refine x_bipush (pc := 38) (v := -2) cx (dA ddX8_sortOf (i := 22) rfl) (by decide) ?_
      refine x_V1 (pc := 40) mX8_119 h0 (c_X8_refuse hM (i := 0) (by decide) rfl) cx (dA ddX8_sortOf (i := 23) rfl) (kI ?_)
      refine x_ireturn (pc := 43) cx (dA ddX8_sortOf (i := 24) rfl) (by first | exact Nat.le_of_ble_eq_true rfl | omega) (by first | exact Nat.le_of_ble_eq_true rfl | omega) ?_
      first | exact pMI.r hRM (by decide) (if_neg (fun q => by have z := q.2.1; rw [hX_at hh] at z; exact c22 ⟨z.1, by have := z.2; omega⟩))
    · have c22 := b2i_ne c22
      obtain ⟨k, hk, rfl, tk⟩ := i32_in (x := k) (n := S.1.2.1 i 4) ⟨c22.1, by have := c22.2; omega⟩
      have eX : hX S (nI i) = S.1.2.1 i := hX_at hh
      have ck : okk (hX S (nI i)) (nI k) := by rw [eX]; exact ⟨c22.1, by have := c22.2; omega⟩
      refine x_iload_n (pc := 25) cx (dA ddX8_sortOf (i := 15) rfl) rfl ?_
      refine x_i2l (pc := 26) cx (dA ddX8_sortOf (i := 16) rfl) ?_
      refine x_lconst (pc := 27) (v := lN 0) cx (dA ddX8_sortOf (i := 17) rfl) rfl ?_
      refine x_ldc2 (pc := 28) cx klX8_115 (dA ddX8_sortOf (i := 18) rfl) ?_
      refine x_S3 (pc := 31) mX8_94 c_X8_in cx (dA ddX8_sortOf (i := 19) rfl) (kI ?_)
      rw [l0_toInt, tl_toInt, show (lN 4).toInt = 4 from rfl]
      refine x_if_ne (pc := 34) (tgt := 44) cx (dA ddX8_sortOf (i := 20) rfl) (by decide) (fun c34 => ?_) (fun c34 => ?_)
      · have c34 := b2i_ne c34
        obtain ⟨w, hw, rfl, tw⟩ := i32_in (x := w) (n := 5) ⟨c34.1, by have := c34.2; omega⟩
        refine x_aload_n (pc := 44) cx (dA ddX8_sortOf (i := 25) rfl) rfl ?_
        refine gX8_45 (pc := 45) (rfA hM.2.2.2.2.2.2.2.2.2.2.2.1.1) cx (dA ddX8_sortOf (i := 26) rfl) h0 ?_
        refine x_iload_n (pc := 48) cx (dA ddX8_sortOf (i := 27) rfl) rfl ?_
        refine x_aaload (pc := 49) cx (dA ddX8_sortOf (i := 28) rfl) hM.2.2.2.2.2.2.2.2.2.2.2.1.2.1 (by decide) (by decide) hh (by decide) ?_
        rw [arA (hM.2.2.2.2.2.2.2.2.2.2.2.1.2.2 i hh).1]
        refine x_iconst (pc := 50) (v := nI 5) cx (dA ddX8_sortOf (i := 29) rfl) (by decide) ?_
        refine x_iconst (pc := 51) (v := nI 5) cx (dA ddX8_sortOf (i := 30) rfl) (by decide) ?_
        refine x_iload_n (pc := 52) cx (dA ddX8_sortOf (i := 31) rfl) rfl ?_
        refine x_imul (pc := 53) cx (dA ddX8_sortOf (i := 32) rfl) ?_
        rw [nI_cmul]
        refine x_iadd (pc := 54) cx (dA ddX8_sortOf (i := 33) rfl) ?_
        rw [nI_add]
        refine x_iload_n (pc := 55) cx (dA ddX8_sortOf (i := 34) rfl) rfl ?_
        refine x_iadd (pc := 56) cx (dA ddX8_sortOf (i := 35) rfl) ?_
        rw [nI_add]
        refine x_iaload (pc := 57) cx (dA ddX8_sortOf (i := 36) rfl) (hM.2.2.2.2.2.2.2.2.2.2.2.1.2.2 i hh).2 (by omega) (by decide) ?_
        rw [hR _ (by omega)]
        refine x_ireturn (pc := 58) cx (dA ddX8_sortOf (i := 37) rfl) (by first | exact Nat.le_of_ble_eq_true rfl | omega) (by first | exact Nat.le_of_ble_eq_true rfl | omega) ?_
        exact pMI.q hRM (MF.refl V y) (by unfold fSortOf; rw [if_pos ⟨ch, ck, c34⟩]; simp only [hX, ti, tk, tw])
      · have c34 := b2i_eq c34
        refine x_aload_n (pc := 37) cx (dA ddX8_sortOf (i := 21) rfl) rfl ?_
        refine x_bipush (pc := 38) (v := -2) cx (dA ddX8_sortOf (i := 22) rfl) (by decide) ?_
        refine x_V1 (pc := 40) mX8_119 h0 (c_X8_refuse hM (i := 0) (by decide) rfl) cx (dA ddX8_sortOf (i := 23) rfl) (kI ?_)
        refine x_ireturn (pc := 43) cx (dA ddX8_sortOf (i := 24) rfl) (by first | exact Nat.le_of_ble_eq_true rfl | omega) (by first | exact Nat.le_of_ble_eq_true rfl | omega) ?_
        first | exact pMI.r hRM (by decide) (if_neg (fun q => c34 q.2.2))
