theorem mix0 {N : Nat → Nat} {b s : Nat} {f : Nat → Nat} (h3 : N 3 ≤ 4) : mixP N b f s 0 = 4 * f s := by
  unfold mixP
  rw [if_pos rfl, Nat.sub_zero]
  show N 3 * f s + (4 - N 3) * (f s + 0) = _
  rw [Nat.add_zero, ← Nat.add_mul, show N 3 + (4 - N 3) = 4 by omega]
section BY
variable {S : SX} {s : Int32}
theorem byI_n {f : RX → Int32} (h : shX S s = none) : byI S s f = (-4, refX S 2) := by unfold byI; rw [h]
theorem byI_r {f : RX → Int32} {q} (h : shX S s = some (.inl q)) : byI S s f = (-3, refX S 1) := by unfold byI; rw [h]
theorem byI_q {f : RX → Int32} {q} (h : shX S s = some (.inr q)) : byI S s f = (f q, S) := by unfold byI; rw [h]
theorem byJ_n {f : RX → Int64} (h : shX S s = none) : byJ S s f = ((-4 : Int32).toInt64, refX S 2) := by unfold byJ; rw [h]
theorem byJ_r {f : RX → Int64} {q} (h : shX S s = some (.inl q)) : byJ S s f = ((-3 : Int32).toInt64, refX S 1) := by unfold byJ; rw [h]
theorem byJ_q {f : RX → Int64} {q} (h : shX S s = some (.inr q)) : byJ S s f = (f q, S) := by unfold byJ; rw [h]
theorem shX_at {r : Nat} (hr : r < 8) : shX S (nI r) = S.2.2.2.1 r := by show S.2.2.2.1 (tn (nI r)) = _; rw [tn_nI (by omega)]
theorem hX_at {i : Nat} (hi : i < 8) : hX S (nI i) = S.1.2.1 i := by show S.1.2.1 (tn (nI i)) = _; rw [tn_nI (by omega)]
end BY
theorem kPJ {Z : zP} {X : xP} {nL : Nat} {k n : Nat} {Q : State → Prop} {pc : Nat} {lw : List (Nat × Option Value)} {G : zG} {V : zV} {y : Nat} {zk : Option Nat} {A : Int64 × SX} {rest : List Value} (h : ∀ V', (RM Z G V' y zk A.2 ∧ ∀ a, a < y ∨ y + 94 ≤ a → same4 V V' a) → Wm Z X nL G V' k n Q pc lw (.long A.1 :: rest)) : ∀ (r : Option Value) (G' : zG) (V' : zV), pMJ Z G V y zk A r G' V' → Wm Z X nL G' V' k n Q pc lw (r.toList ++ rest) := by
  rintro r G' V' ⟨rfl, rfl, h2⟩
  exact h V' h2
theorem c_X8_load {l : Launch} {Z : zP} {G : zG} {V : zV} {y : Nat} {zk : Option Nat} {S : SX} (hRM : RM Z G V y zk S) {h d t r : Int32} : CT l Z yX8_load cX8_load 6 (some .int) 5 0 0 [.ref y, .int h, .int d, .int t, .int r] G V (pMI Z G V y zk (fLoad S h d t r)) := by
  refine CT.of (by decide +kernel) (Nat.le_of_ble_eq_true rfl) (fun X hX cx => ?_)
  subst hX
  show Wm Z X 6 G V 0 0 _ 0 [(0, some (.ref y)), (1, some (.int h)), (2, some (.int d)), (3, some (.int t)), (4, some (.int r))] []
  have hM := hRM.1
  have h0 := hM.1
  have hc := hRM.2.2.1.1
  have c6 := hRM.2.2.1.2.1
  have hmu := hRM.2.2.2.2.2.2.1
  refine x_aload_n (pc := 0) cx (dA ddX8_load (i := 0) rfl) rfl ?_
  refine x_iload_n (pc := 1) cx (dA ddX8_load (i := 1) rfl) rfl ?_
  refine x_iload_n (pc := 2) cx (dA ddX8_load (i := 2) rfl) rfl ?_
  refine x_V2 (pc := 3) mX8_239 h0 (c_X8_isLeft_a hRM) cx (dA ddX8_load (i := 3) rfl) (kI ?_)
  refine x_if_eq (pc := 6) (tgt := 35) cx (dA ddX8_load (i := 4) rfl) (by decide) (fun c6 => ?_) (fun c6 => ?_)
  · have c6 := b2i_eq c6
    refine x_aload_n (pc := 35) cx (dA ddX8_load (i := 18) rfl) rfl ?_
    refine x_bipush (pc := 36) (v := -2) cx (dA ddX8_load (i := 19) rfl) (by decide) ?_
    refine x_V1 (pc := 38) mX8_119 h0 (c_X8_refuse hM (i := 0) (by decide) rfl) cx (dA ddX8_load (i := 20) rfl) (kI ?_)
    refine x_ireturn (pc := 41) cx (dA ddX8_load (i := 21) rfl) (by first | exact Nat.le_of_ble_eq_true rfl | omega) (by first | exact Nat.le_of_ble_eq_true rfl | omega) ?_
    first | exact pMI.r hRM (by decide) (if_neg (fun q => c6 ⟨q.1, ⟨by have := q.2.1.1; omega, q.2.1.2⟩⟩))
  · have c6 := b2i_ne c6
    obtain ⟨ch, cl⟩ := c6
    obtain ⟨i, hi, rfl, ti⟩ := i32_in ch
    obtain ⟨hR, hN⟩ := hRM.2.2.1.2.2.1 i hi
    have hB := hN.1
    have b4 := hB.1
    have n125 := st125 b4
    have h06 := hN.2.1
    have hh : i < 8 := by omega
    have cl2 : okl (S.1.2.1 i) d := by rw [← ti]; exact cl
    obtain ⟨d, hd, rfl, td⟩ := i32_in (x := d) (n := S.1.2.1 i 0 + 1) ⟨cl2.1, by have := cl2.2; omega⟩
    refine x_iload_n (pc := 9) cx (dA ddX8_load (i := 5) rfl) rfl ?_
    refine x_if_eq (pc := 10) (tgt := 35) cx (dA ddX8_load (i := 6) rfl) (by decide) (fun c10 => ?_) (fun c10 => ?_)
    · have z0 : d = 0 := nI_inj (b := 0) (by omega) (by decide) c10
      refine x_aload_n (pc := 35) cx (dA ddX8_load (i := 18) rfl) rfl ?_
      refine x_bipush (pc := 36) (v := -2) cx (dA ddX8_load (i := 19) rfl) (by decide) ?_
      refine x_V1 (pc := 38) mX8_119 h0 (c_X8_refuse hM (i := 0) (by decide) rfl) cx (dA ddX8_load (i := 20) rfl) (kI ?_)
      refine x_ireturn (pc := 41) cx (dA ddX8_load (i := 21) rfl) (by first | exact Nat.le_of_ble_eq_true rfl | omega) (by first | exact Nat.le_of_ble_eq_true rfl | omega) ?_
      first | exact pMI.r hRM (by decide) (if_neg (fun q => by have := q.2.1.1; rw [z0, nI_toInt (by decide)] at this; omega))
    · have d0 : d ≠ 0 := fun e => c10 (by rw [e]; rfl)
      have cl1 : okl1 (hX S (nI i)) (nI d) := ⟨by rw [nI_toInt (by omega)]; omega, cl.2⟩
      refine x_aload_n (pc := 13) cx (dA ddX8_load (i := 7) rfl) rfl ?_
      refine x_iload_n (pc := 14) cx (dA ddX8_load (i := 8) rfl) rfl ?_
      refine x_iload_n (pc := 15) cx (dA ddX8_load (i := 9) rfl) rfl ?_
      refine x_V2 (pc := 16) mX8_233 h0 (c_X8_isState_a hRM) cx (dA ddX8_load (i := 10) rfl) (kI ?_)
      refine x_if_eq (pc := 19) (tgt := 35) cx (dA ddX8_load (i := 11) rfl) (by decide) (fun c19 => ?_) (fun c19 => ?_)
      · have c19 := b2i_eq c19
        refine x_aload_n (pc := 35) cx (dA ddX8_load (i := 18) rfl) rfl ?_
        refine x_bipush (pc := 36) (v := -2) cx (dA ddX8_load (i := 19) rfl) (by decide) ?_
        refine x_V1 (pc := 38) mX8_119 h0 (c_X8_refuse hM (i := 0) (by decide) rfl) cx (dA ddX8_load (i := 20) rfl) (kI ?_)
        refine x_ireturn (pc := 41) cx (dA ddX8_load (i := 21) rfl) (by first | exact Nat.le_of_ble_eq_true rfl | omega) (by first | exact Nat.le_of_ble_eq_true rfl | omega) ?_
        first | exact pMI.r hRM (by decide) (if_neg (fun q => c19 ⟨q.1, q.2.2.1⟩))
      · have c19 := b2i_ne c19
        obtain ⟨ch, ct⟩ := c19
        have ct2 : okt (S.1.2.1 i) t := by rw [← ti]; exact ct
        obtain ⟨t, ht, rfl, tt⟩ := i32_in ct2
        refine x_iload (pc := 22) cx (dA ddX8_load (i := 12) rfl) rfl ?_
        refine x_i2l (pc := 24) cx (dA ddX8_load (i := 13) rfl) ?_
        refine x_lconst (pc := 25) (v := lN 0) cx (dA ddX8_load (i := 14) rfl) rfl ?_
        refine x_ldc2 (pc := 26) cx klX8_113 (dA ddX8_load (i := 15) rfl) ?_
        refine x_S3 (pc := 29) mX8_94 c_X8_in cx (dA ddX8_load (i := 16) rfl) (kI ?_)
        rw [l0_toInt, tl_toInt, show (lN 7).toInt = 7 from rfl]
        refine x_if_ne (pc := 32) (tgt := 42) cx (dA ddX8_load (i := 17) rfl) (by decide) (fun c32 => ?_) (fun c32 => ?_)
        · have cr := b2i_ne c32
          obtain ⟨r, hr, rfl, tr⟩ := i32_in (x := r) (n := 8) ⟨cr.1, by have := cr.2; omega⟩
          have cr : oks (nI r) := ⟨cr.1, by have := cr.2; omega⟩
          refine x_aload_n (pc := 42) cx (dA ddX8_load (i := 22) rfl) rfl ?_
          refine x_iload (pc := 43) cx (dA ddX8_load (i := 23) rfl) rfl ?_
          refine x_V1 (pc := 45) mX8_271 h0 (c_X8_noRule hRM hr) cx (dA ddX8_load (i := 24) rfl) (kE fun x V2 hx => ?_)
          refine x_istore (pc := 48) cx (dA ddX8_load (i := 25) rfl) (by decide) rfl ?_
          refine x_iload (pc := 50) cx (dA ddX8_load (i := 26) rfl) rfl ?_
          refine x_if_eq (pc := 52) (tgt := 58) cx (dA ddX8_load (i := 27) rfl) (by decide) (fun c52 => ?_) (fun c52 => ?_)
          · obtain ⟨-, eV, q, hq⟩ := hx.resolve_right (fun h => by rcases h with ⟨e, -⟩ | ⟨e, -⟩ <;> rw [e] at c52 <;> exact absurd c52 (by decide))
            have eV := eV.symm
            subst eV
            have hR5 := ((hRM.2.2.2.1 r hr).2.2 q hq).2.1
            have hs : shX S (nI r) = some (.inr q) := (shX_at hr).trans hq
            refine x_aload_n (pc := 58) cx (dA ddX8_load (i := 30) rfl) rfl ?_
            refine x_iload_n (pc := 59) cx (dA ddX8_load (i := 31) rfl) rfl ?_
            refine x_V1 (pc := 60) mX8_264 h0 (c_X8_findBest hM hh hR hB hN (mu := 0) (hmu_0 hmu)) cx (dA ddX8_load (i := 32) rfl) (kVx fun V2 hF => ?_)
            refine x_aload_n (pc := 63) cx (dA ddX8_load (i := 33) rfl) rfl ?_
            refine x_iload_n (pc := 64) cx (dA ddX8_load (i := 34) rfl) rfl ?_
            refine x_iload_n (pc := 65) cx (dA ddX8_load (i := 35) rfl) rfl ?_
            refine x_iload_n (pc := 66) cx (dA ddX8_load (i := 36) rfl) rfl ?_
            refine x_iload (pc := 67) cx (dA ddX8_load (i := 37) rfl) rfl ?_
            refine x_V4 (pc := 69) mX8_274 h0 (c_X8_loadBy (V := V2) hM hh (hR.same39 hh hF.1) hB hN (r := r) (by omega) (hR5.same39 (by omega) hF.1) (d := d) (s := t) (by omega) (by omega) ht (fun _ => (hF.2.2 d (by omega) t ht).2.trans (by rw [mlM_ld (by omega)]))) cx (dA ddX8_load (i := 38) rfl) (kI ?_)
            refine x_ireturn (pc := 72) cx (dA ddX8_load (i := 39) rfl) (by first | exact Nat.le_of_ble_eq_true rfl | omega) (by first | exact Nat.le_of_ble_eq_true rfl | omega) ?_
            exact pMI.q hRM (MF.of hF.1 (by omega) (by omega)) (by unfold fLoad; rw [if_pos ⟨ch, cl1, ct, cr⟩, byI_q hs]; simp only [hX, ti, td, tt, ruR])
          · refine x_iload (pc := 55) cx (dA ddX8_load (i := 28) rfl) rfl ?_
            refine x_ireturn (pc := 57) cx (dA ddX8_load (i := 29) rfl) (by first | exact Nat.le_of_ble_eq_true rfl | omega) (by first | exact Nat.le_of_ble_eq_true rfl | omega) ?_
            rcases hx with ⟨e, -⟩ | ⟨rfl, e, rfl⟩ | ⟨rfl, ⟨q, e⟩, rfl⟩
            · exact absurd e c52
            · exact pMI.r hRM (by decide) (by unfold fLoad; rw [if_pos ⟨ch, cl1, ct, cr⟩]; exact byI_n ((shX_at hr).trans e))
            · exact pMI.r hRM (by decide) (by unfold fLoad; rw [if_pos ⟨ch, cl1, ct, cr⟩]; exact byI_r ((shX_at hr).trans e))
        · have c32 := b2i_eq c32
          refine x_aload_n (pc := 35) cx (dA ddX8_load (i := 18) rfl) rfl ?_
          refine x_bipush (pc := 36) (v := -2) cx (dA ddX8_load (i := 19) rfl) (by decide) ?_
          refine x_V1 (pc := 38) mX8_119 h0 (c_X8_refuse hM (i := 0) (by decide) rfl) cx (dA ddX8_load (i := 20) rfl) (kI ?_)
          refine x_ireturn (pc := 41) cx (dA ddX8_load (i := 21) rfl) (by first | exact Nat.le_of_ble_eq_true rfl | omega) (by first | exact Nat.le_of_ble_eq_true rfl | omega) ?_
          first | exact pMI.r hRM (by decide) (if_neg (fun q => by have z := q.2.2.2; exact c32 ⟨z.1, by have := z.2; omega⟩))
theorem c_X8_byShelf_m {l : Launch} {Z : zP} {G : zG} {V : zV} {y : Nat} {zk : Option Nat} {S : SX} (hRM : RM Z G V y zk S) {h d t r : Int32} : CT l Z yX8_byShelf cX8_byShelf 7 (some .long) 6 0 0 [.ref y, .int h, .int d, .int t, .int r, .int (nI 0)] G V (pMJ Z G V y zk (fMean S h d t r)) := by
  refine CT.of (by decide +kernel) (Nat.le_of_ble_eq_true rfl) (fun X hX cx => ?_)
  subst hX
  show Wm Z X 7 G V 0 0 _ 0 [(0, some (.ref y)), (1, some (.int h)), (2, some (.int d)), (3, some (.int t)), (4, some (.int r)), (5, some (.int (nI 0)))] []
  have hM := hRM.1
  have h0 := hM.1
  have hc := hRM.2.2.1.1
  have c6 := hRM.2.2.1.2.1
  have hmu := hRM.2.2.2.2.2.2.1
  refine x_aload_n (pc := 0) cx (dA ddX8_byShelf (i := 0) rfl) rfl ?_
  refine x_iload_n (pc := 1) cx (dA ddX8_byShelf (i := 1) rfl) rfl ?_
  refine x_iload_n (pc := 2) cx (dA ddX8_byShelf (i := 2) rfl) rfl ?_
  refine x_V2 (pc := 3) mX8_239 h0 (c_X8_isLeft_a hRM) cx (dA ddX8_byShelf (i := 3) rfl) (kI ?_)
  refine x_if_eq (pc := 6) (tgt := 31) cx (dA ddX8_byShelf (i := 4) rfl) (by decide) (fun c6 => ?_) (fun c6 => ?_)
  · have c6 := b2i_eq c6
    refine x_aload_n (pc := 31) cx (dA ddX8_byShelf (i := 16) rfl) rfl ?_
    refine x_bipush (pc := 32) (v := -2) cx (dA ddX8_byShelf (i := 17) rfl) (by decide) ?_
    refine x_V1 (pc := 34) mX8_119 h0 (c_X8_refuse hM (i := 0) (by decide) rfl) cx (dA ddX8_byShelf (i := 18) rfl) (kI ?_)
    refine x_i2l (pc := 37) cx (dA ddX8_byShelf (i := 19) rfl) ?_
    refine x_lreturn (pc := 38) cx (dA ddX8_byShelf (i := 20) rfl) (by first | exact Nat.le_of_ble_eq_true rfl | omega) (by first | exact Nat.le_of_ble_eq_true rfl | omega) ?_
    first | exact pMJ.r hRM (by decide) (if_neg (fun q => c6 ⟨q.1, q.2.1⟩))
  · have c6 := b2i_ne c6
    obtain ⟨ch, cl⟩ := c6
    obtain ⟨i, hi, rfl, ti⟩ := i32_in ch
    obtain ⟨hR, hN⟩ := hRM.2.2.1.2.2.1 i hi
    have hB := hN.1
    have b4 := hB.1
    have n125 := st125 b4
    have h06 := hN.2.1
    have hh : i < 8 := by omega
    have cl2 : okl (S.1.2.1 i) d := by rw [← ti]; exact cl
    obtain ⟨d, hd, rfl, td⟩ := i32_in (x := d) (n := S.1.2.1 i 0 + 1) ⟨cl2.1, by have := cl2.2; omega⟩
    refine x_aload_n (pc := 9) cx (dA ddX8_byShelf (i := 5) rfl) rfl ?_
    refine x_iload_n (pc := 10) cx (dA ddX8_byShelf (i := 6) rfl) rfl ?_
    refine x_iload_n (pc := 11) cx (dA ddX8_byShelf (i := 7) rfl) rfl ?_
    refine x_V2 (pc := 12) mX8_233 h0 (c_X8_isState_a hRM) cx (dA ddX8_byShelf (i := 8) rfl) (kI ?_)
    refine x_if_eq (pc := 15) (tgt := 31) cx (dA ddX8_byShelf (i := 9) rfl) (by decide) (fun c15 => ?_) (fun c15 => ?_)
    · have c15 := b2i_eq c15
      refine x_aload_n (pc := 31) cx (dA ddX8_byShelf (i := 16) rfl) rfl ?_
      refine x_bipush (pc := 32) (v := -2) cx (dA ddX8_byShelf (i := 17) rfl) (by decide) ?_
      refine x_V1 (pc := 34) mX8_119 h0 (c_X8_refuse hM (i := 0) (by decide) rfl) cx (dA ddX8_byShelf (i := 18) rfl) (kI ?_)
      refine x_i2l (pc := 37) cx (dA ddX8_byShelf (i := 19) rfl) ?_
      refine x_lreturn (pc := 38) cx (dA ddX8_byShelf (i := 20) rfl) (by first | exact Nat.le_of_ble_eq_true rfl | omega) (by first | exact Nat.le_of_ble_eq_true rfl | omega) ?_
      first | exact pMJ.r hRM (by decide) (if_neg (fun q => c15 ⟨q.1, q.2.2.1⟩))
    · have c15 := b2i_ne c15
      obtain ⟨ch, ct⟩ := c15
      have ct2 : okt (S.1.2.1 i) t := by rw [← ti]; exact ct
      obtain ⟨t, ht, rfl, tt⟩ := i32_in ct2
      refine x_iload (pc := 18) cx (dA ddX8_byShelf (i := 10) rfl) rfl ?_
      refine x_i2l (pc := 20) cx (dA ddX8_byShelf (i := 11) rfl) ?_
      refine x_lconst (pc := 21) (v := lN 0) cx (dA ddX8_byShelf (i := 12) rfl) rfl ?_
      refine x_ldc2 (pc := 22) cx klX8_113 (dA ddX8_byShelf (i := 13) rfl) ?_
      refine x_S3 (pc := 25) mX8_94 c_X8_in cx (dA ddX8_byShelf (i := 14) rfl) (kI ?_)
      rw [l0_toInt, tl_toInt, show (lN 7).toInt = 7 from rfl]
      refine x_if_ne (pc := 28) (tgt := 39) cx (dA ddX8_byShelf (i := 15) rfl) (by decide) (fun c28 => ?_) (fun c28 => ?_)
      · have cr := b2i_ne c28
        obtain ⟨r, hr, rfl, tr⟩ := i32_in (x := r) (n := 8) ⟨cr.1, by have := cr.2; omega⟩
        have cr : oks (nI r) := ⟨cr.1, by have := cr.2; omega⟩
        refine x_aload_n (pc := 39) cx (dA ddX8_byShelf (i := 21) rfl) rfl ?_
        refine x_iload (pc := 40) cx (dA ddX8_byShelf (i := 22) rfl) rfl ?_
        refine x_V1 (pc := 42) mX8_271 h0 (c_X8_noRule hRM hr) cx (dA ddX8_byShelf (i := 23) rfl) (kE fun x V2 hx => ?_)
        refine x_istore (pc := 45) cx (dA ddX8_byShelf (i := 24) rfl) (by decide) rfl ?_
        refine x_iload (pc := 47) cx (dA ddX8_byShelf (i := 25) rfl) rfl ?_
        refine x_if_eq (pc := 49) (tgt := 56) cx (dA ddX8_byShelf (i := 26) rfl) (by decide) (fun c49 => ?_) (fun c49 => ?_)
        · obtain ⟨-, eV, q, hq⟩ := hx.resolve_right (fun h => by rcases h with ⟨e, -⟩ | ⟨e, -⟩ <;> rw [e] at c49 <;> exact absurd c49 (by decide))
          have eV := eV.symm
          subst eV
          have hR5 := ((hRM.2.2.2.1 r hr).2.2 q hq).2.1
          have hs : shX S (nI r) = some (.inr q) := (shX_at hr).trans hq
          refine x_aload_n (pc := 56) cx (dA ddX8_byShelf (i := 30) rfl) rfl ?_
          refine x_iload_n (pc := 57) cx (dA ddX8_byShelf (i := 31) rfl) rfl ?_
          refine x_iload (pc := 58) cx (dA ddX8_byShelf (i := 32) rfl) rfl ?_
          refine x_V2 (pc := 60) mX8_282 h0 (c_X8_findByRule hM hh hR hB hN hmu (r := r) (by omega) hR5) cx (dA ddX8_byShelf (i := 33) rfl) (kVx fun V2 hF => ?_)
          refine x_aload_n (pc := 63) cx (dA ddX8_byShelf (i := 34) rfl) rfl ?_
          refine gX8_61 (pc := 64) (rfA hM.2.2.2.2.2.2.2.2.2.2.2.2.2.2.2.1.1) cx (dA ddX8_byShelf (i := 35) rfl) h0 ?_
          refine x_iload_n (pc := 67) cx (dA ddX8_byShelf (i := 36) rfl) rfl ?_
          refine x_aaload (pc := 68) cx (dA ddX8_byShelf (i := 37) rfl) hM.2.2.2.2.2.2.2.2.2.2.2.2.2.2.2.1.2.1 (by decide) (by decide) (by omega) (by decide) ?_
          rw [arA (hM.2.2.2.2.2.2.2.2.2.2.2.2.2.2.2.1.2.2 d (by omega)).1]
          refine x_iload_n (pc := 69) cx (dA ddX8_byShelf (i := 38) rfl) rfl ?_
          refine x_laload (pc := 70) cx (dA ddX8_byShelf (i := 39) rfl) (hM.2.2.2.2.2.2.2.2.2.2.2.2.2.2.2.1.2.2 d (by omega)).2 (by omega) (by decide) ?_
          rw [hF.2.2.2.2 d (by omega) t ht]
          refine x_iload (pc := 71) cx (dA ddX8_byShelf (i := 40) rfl) rfl ?_
          refine x_if_eq (pc := 73) (tgt := 87) cx (dA ddX8_byShelf (i := 41) rfl) (by decide) (fun c73 => ?_) (fun c73 => absurd rfl c73)
          refine x_lconst (pc := 87) (v := lN 0) cx (dA ddX8_byShelf (i := 49) rfl) rfl ?_
          refine x_lsub (pc := 88) cx (dA ddX8_byShelf (i := 50) rfl) ?_
          rw [lN_sub (Nat.zero_le _), Nat.sub_zero]
          refine x_lreturn (pc := 89) cx (dA ddX8_byShelf (i := 51) rfl) (by first | exact Nat.le_of_ble_eq_true rfl | omega) (by first | exact Nat.le_of_ble_eq_true rfl | omega) ?_
          exact pMJ.q hRM (MF.of hF.1 (by omega) (by omega)) (by unfold fMean; rw [if_pos ⟨ch, cl, ct, cr⟩, byJ_q hs]; simp only [hX, ti, td, tt])
        · refine x_iload (pc := 52) cx (dA ddX8_byShelf (i := 27) rfl) rfl ?_
          refine x_i2l (pc := 54) cx (dA ddX8_byShelf (i := 28) rfl) ?_
          refine x_lreturn (pc := 55) cx (dA ddX8_byShelf (i := 29) rfl) (by first | exact Nat.le_of_ble_eq_true rfl | omega) (by first | exact Nat.le_of_ble_eq_true rfl | omega) ?_
          rcases hx with ⟨e, -⟩ | ⟨rfl, e, rfl⟩ | ⟨rfl, ⟨q, e⟩, rfl⟩
          · exact absurd e c49
          · exact pMJ.r hRM (by decide) (by unfold fMean; rw [if_pos ⟨ch, cl, ct, cr⟩]; exact byJ_n ((shX_at hr).trans e))
          · exact pMJ.r hRM (by decide) (by unfold fMean; rw [if_pos ⟨ch, cl, ct, cr⟩]; exact byJ_r ((shX_at hr).trans e))
      · have c28 := b2i_eq c28
        refine x_aload_n (pc := 31) cx (dA ddX8_byShelf (i := 16) rfl) rfl ?_
        refine x_bipush (pc := 32) (v := -2) cx (dA ddX8_byShelf (i := 17) rfl) (by decide) ?_
        refine x_V1 (pc := 34) mX8_119 h0 (c_X8_refuse hM (i := 0) (by decide) rfl) cx (dA ddX8_byShelf (i := 18) rfl) (kI ?_)
        refine x_i2l (pc := 37) cx (dA ddX8_byShelf (i := 19) rfl) ?_
        refine x_lreturn (pc := 38) cx (dA ddX8_byShelf (i := 20) rfl) (by first | exact Nat.le_of_ble_eq_true rfl | omega) (by first | exact Nat.le_of_ble_eq_true rfl | omega) ?_
        first | exact pMJ.r hRM (by decide) (if_neg (fun q => by have z := q.2.2.2; exact c28 ⟨z.1, by have := z.2; omega⟩))
theorem c_X8_mean {l : Launch} {Z : zP} {G : zG} {V : zV} {y : Nat} {zk : Option Nat} {S : SX} (hRM : RM Z G V y zk S) {h d t r : Int32} : CT l Z yX8_mean cX8_mean 5 (some .long) 7 0 0 [.ref y, .int h, .int d, .int t, .int r] G V (pMJ Z G V y zk (fMean S h d t r)) := by
  refine CT.of (by decide +kernel) (Nat.le_of_ble_eq_true rfl) (fun X hX cx => ?_)
  subst hX
  show Wm Z X 5 G V 0 0 _ 0 [(0, some (.ref y)), (1, some (.int h)), (2, some (.int d)), (3, some (.int t)), (4, some (.int r))] []
  have hM := hRM.1
  have h0 := hM.1
  have hc := hRM.2.2.1.1
  have c6 := hRM.2.2.1.2.1
  have hmu := hRM.2.2.2.2.2.2.1
  refine x_aload_n (pc := 0) cx (dA ddX8_mean (i := 0) rfl) rfl ?_
  refine x_iload_n (pc := 1) cx (dA ddX8_mean (i := 1) rfl) rfl ?_
  refine x_iload_n (pc := 2) cx (dA ddX8_mean (i := 2) rfl) rfl ?_
  refine x_iload_n (pc := 3) cx (dA ddX8_mean (i := 3) rfl) rfl ?_
  refine x_iload (pc := 4) cx (dA ddX8_mean (i := 4) rfl) rfl ?_
  refine x_iconst (pc := 6) (v := nI 0) cx (dA ddX8_mean (i := 5) rfl) (by decide) ?_
  refine x_V5 (pc := 7) mX8_285 h0 (c_X8_byShelf_m hRM) cx (dA ddX8_mean (i := 6) rfl) (kPJ fun V2 h2 => ?_)
  refine x_lreturn (pc := 10) cx (dA ddX8_mean (i := 7) rfl) (by first | exact Nat.le_of_ble_eq_true rfl | omega) (by first | exact Nat.le_of_ble_eq_true rfl | omega) ?_
  exact ⟨rfl, rfl, h2⟩
theorem c_X8_byShelf_l {l : Launch} {Z : zP} {G : zG} {V : zV} {y : Nat} {zk : Option Nat} {S : SX} (hRM : RM Z G V y zk S) {h d t r : Int32} : CT l Z yX8_byShelf cX8_byShelf 7 (some .long) 6 0 0 [.ref y, .int h, .int d, .int t, .int r, .int (nI 1)] G V (pMJ Z G V y zk (fLose S h d t r)) := by
  refine CT.of (by decide +kernel) (Nat.le_of_ble_eq_true rfl) (fun X hX cx => ?_)
  subst hX
  show Wm Z X 7 G V 0 0 _ 0 [(0, some (.ref y)), (1, some (.int h)), (2, some (.int d)), (3, some (.int t)), (4, some (.int r)), (5, some (.int (nI 1)))] []
  have hM := hRM.1
  have h0 := hM.1
  have hc := hRM.2.2.1.1
  have c6 := hRM.2.2.1.2.1
  have hmu := hRM.2.2.2.2.2.2.1
  refine x_aload_n (pc := 0) cx (dA ddX8_byShelf (i := 0) rfl) rfl ?_
  refine x_iload_n (pc := 1) cx (dA ddX8_byShelf (i := 1) rfl) rfl ?_
  refine x_iload_n (pc := 2) cx (dA ddX8_byShelf (i := 2) rfl) rfl ?_
  refine x_V2 (pc := 3) mX8_239 h0 (c_X8_isLeft_a hRM) cx (dA ddX8_byShelf (i := 3) rfl) (kI ?_)
  refine x_if_eq (pc := 6) (tgt := 31) cx (dA ddX8_byShelf (i := 4) rfl) (by decide) (fun c6 => ?_) (fun c6 => ?_)
  · have c6 := b2i_eq c6
    refine x_aload_n (pc := 31) cx (dA ddX8_byShelf (i := 16) rfl) rfl ?_
    refine x_bipush (pc := 32) (v := -2) cx (dA ddX8_byShelf (i := 17) rfl) (by decide) ?_
    refine x_V1 (pc := 34) mX8_119 h0 (c_X8_refuse hM (i := 0) (by decide) rfl) cx (dA ddX8_byShelf (i := 18) rfl) (kI ?_)
    refine x_i2l (pc := 37) cx (dA ddX8_byShelf (i := 19) rfl) ?_
    refine x_lreturn (pc := 38) cx (dA ddX8_byShelf (i := 20) rfl) (by first | exact Nat.le_of_ble_eq_true rfl | omega) (by first | exact Nat.le_of_ble_eq_true rfl | omega) ?_
    first | exact pMJ.r hRM (by decide) (if_neg (fun q => c6 ⟨q.1, q.2.1⟩))
  · have c6 := b2i_ne c6
    obtain ⟨ch, cl⟩ := c6
    obtain ⟨i, hi, rfl, ti⟩ := i32_in ch
    obtain ⟨hR, hN⟩ := hRM.2.2.1.2.2.1 i hi
    have hB := hN.1
    have b4 := hB.1
    have n125 := st125 b4
    have h06 := hN.2.1
    have hh : i < 8 := by omega
    have cl2 : okl (S.1.2.1 i) d := by rw [← ti]; exact cl
    obtain ⟨d, hd, rfl, td⟩ := i32_in (x := d) (n := S.1.2.1 i 0 + 1) ⟨cl2.1, by have := cl2.2; omega⟩
    refine x_aload_n (pc := 9) cx (dA ddX8_byShelf (i := 5) rfl) rfl ?_
    refine x_iload_n (pc := 10) cx (dA ddX8_byShelf (i := 6) rfl) rfl ?_
    refine x_iload_n (pc := 11) cx (dA ddX8_byShelf (i := 7) rfl) rfl ?_
    refine x_V2 (pc := 12) mX8_233 h0 (c_X8_isState_a hRM) cx (dA ddX8_byShelf (i := 8) rfl) (kI ?_)
    refine x_if_eq (pc := 15) (tgt := 31) cx (dA ddX8_byShelf (i := 9) rfl) (by decide) (fun c15 => ?_) (fun c15 => ?_)
    · have c15 := b2i_eq c15
      refine x_aload_n (pc := 31) cx (dA ddX8_byShelf (i := 16) rfl) rfl ?_
      refine x_bipush (pc := 32) (v := -2) cx (dA ddX8_byShelf (i := 17) rfl) (by decide) ?_
      refine x_V1 (pc := 34) mX8_119 h0 (c_X8_refuse hM (i := 0) (by decide) rfl) cx (dA ddX8_byShelf (i := 18) rfl) (kI ?_)
      refine x_i2l (pc := 37) cx (dA ddX8_byShelf (i := 19) rfl) ?_
      refine x_lreturn (pc := 38) cx (dA ddX8_byShelf (i := 20) rfl) (by first | exact Nat.le_of_ble_eq_true rfl | omega) (by first | exact Nat.le_of_ble_eq_true rfl | omega) ?_
      first | exact pMJ.r hRM (by decide) (if_neg (fun q => c15 ⟨q.1, q.2.2.1⟩))
    · have c15 := b2i_ne c15
      obtain ⟨ch, ct⟩ := c15
      have ct2 : okt (S.1.2.1 i) t := by rw [← ti]; exact ct
      obtain ⟨t, ht, rfl, tt⟩ := i32_in ct2
      refine x_iload (pc := 18) cx (dA ddX8_byShelf (i := 10) rfl) rfl ?_
      refine x_i2l (pc := 20) cx (dA ddX8_byShelf (i := 11) rfl) ?_
      refine x_lconst (pc := 21) (v := lN 0) cx (dA ddX8_byShelf (i := 12) rfl) rfl ?_
      refine x_ldc2 (pc := 22) cx klX8_113 (dA ddX8_byShelf (i := 13) rfl) ?_
      refine x_S3 (pc := 25) mX8_94 c_X8_in cx (dA ddX8_byShelf (i := 14) rfl) (kI ?_)
      rw [l0_toInt, tl_toInt, show (lN 7).toInt = 7 from rfl]
      refine x_if_ne (pc := 28) (tgt := 39) cx (dA ddX8_byShelf (i := 15) rfl) (by decide) (fun c28 => ?_) (fun c28 => ?_)
      · have cr := b2i_ne c28
        obtain ⟨r, hr, rfl, tr⟩ := i32_in (x := r) (n := 8) ⟨cr.1, by have := cr.2; omega⟩
        have cr : oks (nI r) := ⟨cr.1, by have := cr.2; omega⟩
        refine x_aload_n (pc := 39) cx (dA ddX8_byShelf (i := 21) rfl) rfl ?_
        refine x_iload (pc := 40) cx (dA ddX8_byShelf (i := 22) rfl) rfl ?_
        refine x_V1 (pc := 42) mX8_271 h0 (c_X8_noRule hRM hr) cx (dA ddX8_byShelf (i := 23) rfl) (kE fun x V2 hx => ?_)
        refine x_istore (pc := 45) cx (dA ddX8_byShelf (i := 24) rfl) (by decide) rfl ?_
        refine x_iload (pc := 47) cx (dA ddX8_byShelf (i := 25) rfl) rfl ?_
        refine x_if_eq (pc := 49) (tgt := 56) cx (dA ddX8_byShelf (i := 26) rfl) (by decide) (fun c49 => ?_) (fun c49 => ?_)
        · obtain ⟨-, eV, q, hq⟩ := hx.resolve_right (fun h => by rcases h with ⟨e, -⟩ | ⟨e, -⟩ <;> rw [e] at c49 <;> exact absurd c49 (by decide))
          have eV := eV.symm
          subst eV
          have hR5 := ((hRM.2.2.2.1 r hr).2.2 q hq).2.1
          have hs : shX S (nI r) = some (.inr q) := (shX_at hr).trans hq
          refine x_aload_n (pc := 56) cx (dA ddX8_byShelf (i := 30) rfl) rfl ?_
          refine x_iload_n (pc := 57) cx (dA ddX8_byShelf (i := 31) rfl) rfl ?_
          refine x_iload (pc := 58) cx (dA ddX8_byShelf (i := 32) rfl) rfl ?_
          refine x_V2 (pc := 60) mX8_282 h0 (c_X8_findByRule hM hh hR hB hN hmu (r := r) (by omega) hR5) cx (dA ddX8_byShelf (i := 33) rfl) (kVx fun V2 hF => ?_)
          refine x_aload_n (pc := 63) cx (dA ddX8_byShelf (i := 34) rfl) rfl ?_
          refine gX8_61 (pc := 64) (rfA hM.2.2.2.2.2.2.2.2.2.2.2.2.2.2.2.1.1) cx (dA ddX8_byShelf (i := 35) rfl) h0 ?_
          refine x_iload_n (pc := 67) cx (dA ddX8_byShelf (i := 36) rfl) rfl ?_
          refine x_aaload (pc := 68) cx (dA ddX8_byShelf (i := 37) rfl) hM.2.2.2.2.2.2.2.2.2.2.2.2.2.2.2.1.2.1 (by decide) (by decide) (by omega) (by decide) ?_
          rw [arA (hM.2.2.2.2.2.2.2.2.2.2.2.2.2.2.2.1.2.2 d (by omega)).1]
          refine x_iload_n (pc := 69) cx (dA ddX8_byShelf (i := 38) rfl) rfl ?_
          refine x_laload (pc := 70) cx (dA ddX8_byShelf (i := 39) rfl) (hM.2.2.2.2.2.2.2.2.2.2.2.2.2.2.2.1.2.2 d (by omega)).2 (by omega) (by decide) ?_
          rw [hF.2.2.2.2 d (by omega) t ht]
          refine x_iload (pc := 71) cx (dA ddX8_byShelf (i := 40) rfl) rfl ?_
          refine x_if_eq (pc := 73) (tgt := 87) cx (dA ddX8_byShelf (i := 41) rfl) (by decide) (fun c73 => absurd c73 (show ¬ nI 1 = 0 by decide)) (fun c73 => ?_)
          refine x_aload_n (pc := 76) cx (dA ddX8_byShelf (i := 42) rfl) rfl ?_
          refine gX8_55 (pc := 77) (rfA hM.2.2.2.2.2.2.2.2.2.2.2.2.2.1.1) cx (dA ddX8_byShelf (i := 43) rfl) h0 ?_
          refine x_iload_n (pc := 80) cx (dA ddX8_byShelf (i := 44) rfl) rfl ?_
          refine x_aaload (pc := 81) cx (dA ddX8_byShelf (i := 45) rfl) hM.2.2.2.2.2.2.2.2.2.2.2.2.2.1.2.1 (by decide) (by decide) (by omega) (by decide) ?_
          rw [arA (hM.2.2.2.2.2.2.2.2.2.2.2.2.2.1.2.2 d (by omega)).1]
          refine x_iload_n (pc := 82) cx (dA ddX8_byShelf (i := 46) rfl) rfl ?_
          refine x_laload (pc := 83) cx (dA ddX8_byShelf (i := 47) rfl) (hM.2.2.2.2.2.2.2.2.2.2.2.2.2.1.2.2 d (by omega)).2 (by omega) (by decide) ?_
          rw [hF.2.2.1 d (by omega) t ht]
          refine x_goto (pc := 84) (tgt := 88) cx (dA ddX8_byShelf (i := 48) rfl) (by decide) ?_
          refine x_lsub (pc := 88) cx (dA ddX8_byShelf (i := 50) rfl) ?_
          refine x_lreturn (pc := 89) cx (dA ddX8_byShelf (i := 51) rfl) (by first | exact Nat.le_of_ble_eq_true rfl | omega) (by first | exact Nat.le_of_ble_eq_true rfl | omega) ?_
          exact pMJ.q hRM (MF.of hF.1 (by omega) (by omega)) (by unfold fLose; rw [if_pos ⟨ch, cl, ct, cr⟩, byJ_q hs]; simp only [hX, ti, td, tt])
        · refine x_iload (pc := 52) cx (dA ddX8_byShelf (i := 27) rfl) rfl ?_
          refine x_i2l (pc := 54) cx (dA ddX8_byShelf (i := 28) rfl) ?_
          refine x_lreturn (pc := 55) cx (dA ddX8_byShelf (i := 29) rfl) (by first | exact Nat.le_of_ble_eq_true rfl | omega) (by first | exact Nat.le_of_ble_eq_true rfl | omega) ?_
          rcases hx with ⟨e, -⟩ | ⟨rfl, e, rfl⟩ | ⟨rfl, ⟨q, e⟩, rfl⟩
          · exact absurd e c49
          · exact pMJ.r hRM (by decide) (by unfold fLose; rw [if_pos ⟨ch, cl, ct, cr⟩]; exact byJ_n ((shX_at hr).trans e))
          · exact pMJ.r hRM (by decide) (by unfold fLose; rw [if_pos ⟨ch, cl, ct, cr⟩]; exact byJ_r ((shX_at hr).trans e))
      · have c28 := b2i_eq c28
        refine x_aload_n (pc := 31) cx (dA ddX8_byShelf (i := 16) rfl) rfl ?_
        refine x_bipush (pc := 32) (v := -2) cx (dA ddX8_byShelf (i := 17) rfl) (by decide) ?_
        refine x_V1 (pc := 34) mX8_119 h0 (c_X8_refuse hM (i := 0) (by decide) rfl) cx (dA ddX8_byShelf (i := 18) rfl) (kI ?_)
        refine x_i2l (pc := 37) cx (dA ddX8_byShelf (i := 19) rfl) ?_
        refine x_lreturn (pc := 38) cx (dA ddX8_byShelf (i := 20) rfl) (by first | exact Nat.le_of_ble_eq_true rfl | omega) (by first | exact Nat.le_of_ble_eq_true rfl | omega) ?_
        first | exact pMJ.r hRM (by decide) (if_neg (fun q => by have z := q.2.2.2; exact c28 ⟨z.1, by have := z.2; omega⟩))
theorem c_X8_lose {l : Launch} {Z : zP} {G : zG} {V : zV} {y : Nat} {zk : Option Nat} {S : SX} (hRM : RM Z G V y zk S) {h d t r : Int32} : CT l Z yX8_lose cX8_lose 5 (some .long) 7 0 0 [.ref y, .int h, .int d, .int t, .int r] G V (pMJ Z G V y zk (fLose S h d t r)) := by
  refine CT.of (by decide +kernel) (Nat.le_of_ble_eq_true rfl) (fun X hX cx => ?_)
  subst hX
  show Wm Z X 5 G V 0 0 _ 0 [(0, some (.ref y)), (1, some (.int h)), (2, some (.int d)), (3, some (.int t)), (4, some (.int r))] []
  have hM := hRM.1
  have h0 := hM.1
  have hc := hRM.2.2.1.1
  have c6 := hRM.2.2.1.2.1
  have hmu := hRM.2.2.2.2.2.2.1
  refine x_aload_n (pc := 0) cx (dA ddX8_lose (i := 0) rfl) rfl ?_
  refine x_iload_n (pc := 1) cx (dA ddX8_lose (i := 1) rfl) rfl ?_
  refine x_iload_n (pc := 2) cx (dA ddX8_lose (i := 2) rfl) rfl ?_
  refine x_iload_n (pc := 3) cx (dA ddX8_lose (i := 3) rfl) rfl ?_
  refine x_iload (pc := 4) cx (dA ddX8_lose (i := 4) rfl) rfl ?_
  refine x_iconst (pc := 6) (v := nI 1) cx (dA ddX8_lose (i := 5) rfl) (by decide) ?_
  refine x_V5 (pc := 7) mX8_285 h0 (c_X8_byShelf_l hRM) cx (dA ddX8_lose (i := 6) rfl) (kPJ fun V2 h2 => ?_)
  refine x_lreturn (pc := 10) cx (dA ddX8_lose (i := 7) rfl) (by first | exact Nat.le_of_ble_eq_true rfl | omega) (by first | exact Nat.le_of_ble_eq_true rfl | omega) ?_
  exact ⟨rfl, rfl, h2⟩
theorem c_X8_waits {l : Launch} {Z : zP} {G : zG} {V : zV} {y : Nat} {zk : Option Nat} {S : SX} (hRM : RM Z G V y zk S) {h d t : Int32} : CT l Z yX8_waits cX8_waits 4 (some .long) 5 0 0 [.ref y, .int h, .int d, .int t] G V (pMJ Z G V y zk (fWaits S h d t)) := by
  refine CT.of (by decide +kernel) (Nat.le_of_ble_eq_true rfl) (fun X hX cx => ?_)
  subst hX
  show Wm Z X 4 G V 0 0 _ 0 [(0, some (.ref y)), (1, some (.int h)), (2, some (.int d)), (3, some (.int t))] []
  have hM := hRM.1
  have h0 := hM.1
  have hc := hRM.2.2.1.1
  have c6 := hRM.2.2.1.2.1
  have hmu := hRM.2.2.2.2.2.2.1
  refine x_aload_n (pc := 0) cx (dA ddX8_waits (i := 0) rfl) rfl ?_
  refine x_iload_n (pc := 1) cx (dA ddX8_waits (i := 1) rfl) rfl ?_
  refine x_iload_n (pc := 2) cx (dA ddX8_waits (i := 2) rfl) rfl ?_
  refine x_V2 (pc := 3) mX8_239 h0 (c_X8_isLeft_a hRM) cx (dA ddX8_waits (i := 3) rfl) (kI ?_)
  refine x_if_eq (pc := 6) (tgt := 22) cx (dA ddX8_waits (i := 4) rfl) (by decide) (fun c6 => ?_) (fun c6 => ?_)
  · have c6 := b2i_eq c6
    refine x_aload_n (pc := 22) cx (dA ddX8_waits (i := 12) rfl) rfl ?_
    refine x_bipush (pc := 23) (v := -2) cx (dA ddX8_waits (i := 13) rfl) (by decide) ?_
    refine x_V1 (pc := 25) mX8_119 h0 (c_X8_refuse hM (i := 0) (by decide) rfl) cx (dA ddX8_waits (i := 14) rfl) (kI ?_)
    refine x_i2l (pc := 28) cx (dA ddX8_waits (i := 15) rfl) ?_
    refine x_lreturn (pc := 29) cx (dA ddX8_waits (i := 16) rfl) (by first | exact Nat.le_of_ble_eq_true rfl | omega) (by first | exact Nat.le_of_ble_eq_true rfl | omega) ?_
    first | exact pMJ.r hRM (by decide) (if_neg (fun q => c6 ⟨q.1, ⟨by have := q.2.1.1; omega, q.2.1.2⟩⟩))
  · have c6 := b2i_ne c6
    obtain ⟨ch, cl⟩ := c6
    obtain ⟨i, hi, rfl, ti⟩ := i32_in ch
    obtain ⟨hR, hN⟩ := hRM.2.2.1.2.2.1 i hi
    have hB := hN.1
    have b4 := hB.1
    have n125 := st125 b4
    have h06 := hN.2.1
    have hh : i < 8 := by omega
    have cl2 : okl (S.1.2.1 i) d := by rw [← ti]; exact cl
    obtain ⟨d, hd, rfl, td⟩ := i32_in (x := d) (n := S.1.2.1 i 0 + 1) ⟨cl2.1, by have := cl2.2; omega⟩
    refine x_iload_n (pc := 9) cx (dA ddX8_waits (i := 5) rfl) rfl ?_
    refine x_if_eq (pc := 10) (tgt := 22) cx (dA ddX8_waits (i := 6) rfl) (by decide) (fun c10 => ?_) (fun c10 => ?_)
    · have z0 : d = 0 := nI_inj (b := 0) (by omega) (by decide) c10
      refine x_aload_n (pc := 22) cx (dA ddX8_waits (i := 12) rfl) rfl ?_
      refine x_bipush (pc := 23) (v := -2) cx (dA ddX8_waits (i := 13) rfl) (by decide) ?_
      refine x_V1 (pc := 25) mX8_119 h0 (c_X8_refuse hM (i := 0) (by decide) rfl) cx (dA ddX8_waits (i := 14) rfl) (kI ?_)
      refine x_i2l (pc := 28) cx (dA ddX8_waits (i := 15) rfl) ?_
      refine x_lreturn (pc := 29) cx (dA ddX8_waits (i := 16) rfl) (by first | exact Nat.le_of_ble_eq_true rfl | omega) (by first | exact Nat.le_of_ble_eq_true rfl | omega) ?_
      first | exact pMJ.r hRM (by decide) (if_neg (fun q => by have := q.2.1.1; rw [z0, nI_toInt (by decide)] at this; omega))
    · have d0 : d ≠ 0 := fun e => c10 (by rw [e]; rfl)
      have cl1 : okl1 (hX S (nI i)) (nI d) := ⟨by rw [nI_toInt (by omega)]; omega, cl.2⟩
      refine x_aload_n (pc := 13) cx (dA ddX8_waits (i := 7) rfl) rfl ?_
      refine x_iload_n (pc := 14) cx (dA ddX8_waits (i := 8) rfl) rfl ?_
      refine x_iload_n (pc := 15) cx (dA ddX8_waits (i := 9) rfl) rfl ?_
      refine x_V2 (pc := 16) mX8_233 h0 (c_X8_isState_a hRM) cx (dA ddX8_waits (i := 10) rfl) (kI ?_)
      refine x_if_ne (pc := 19) (tgt := 30) cx (dA ddX8_waits (i := 11) rfl) (by decide) (fun c19 => ?_) (fun c19 => ?_)
      · have c19 := b2i_ne c19
        obtain ⟨ch, ct⟩ := c19
        have ct2 : okt (S.1.2.1 i) t := by rw [← ti]; exact ct
        obtain ⟨t, ht, rfl, tt⟩ := i32_in ct2
        refine x_aload_n (pc := 30) cx (dA ddX8_waits (i := 17) rfl) rfl ?_
        refine x_iload_n (pc := 31) cx (dA ddX8_waits (i := 18) rfl) rfl ?_
        refine x_V1 (pc := 32) mX8_264 h0 (c_X8_findBest hM hh hR hB hN (mu := 0) (hmu_0 hmu)) cx (dA ddX8_waits (i := 19) rfl) (kVx fun V2 hF => ?_)
        refine x_ldc2 (pc := 35) cx klX8_115 (dA ddX8_waits (i := 20) rfl) ?_
        refine x_aload_n (pc := 38) cx (dA ddX8_waits (i := 21) rfl) rfl ?_
        refine x_iload_n (pc := 39) cx (dA ddX8_waits (i := 22) rfl) rfl ?_
        refine x_iload_n (pc := 40) cx (dA ddX8_waits (i := 23) rfl) rfl ?_
        refine x_iload_n (pc := 41) cx (dA ddX8_waits (i := 24) rfl) rfl ?_
        refine x_aload_n (pc := 42) cx (dA ddX8_waits (i := 25) rfl) rfl ?_
        refine gX8_55 (pc := 43) (rfA hM.2.2.2.2.2.2.2.2.2.2.2.2.2.1.1) cx (dA ddX8_waits (i := 26) rfl) h0 ?_
        refine x_iload_n (pc := 46) cx (dA ddX8_waits (i := 27) rfl) rfl ?_
        refine x_iconst (pc := 47) (v := nI 1) cx (dA ddX8_waits (i := 28) rfl) (by decide) ?_
        refine x_isub (pc := 48) cx (dA ddX8_waits (i := 29) rfl) ?_
        rw [pk_sub (by omega)]
        refine x_aaload (pc := 49) cx (dA ddX8_waits (i := 30) rfl) hM.2.2.2.2.2.2.2.2.2.2.2.2.2.1.2.1 (by decide) (by decide) (by omega) (by decide) ?_
        rw [arA (hM.2.2.2.2.2.2.2.2.2.2.2.2.2.1.2.2 (d - 1) (by omega)).1]
        refine x_V4 (pc := 50) mX8_253 h0 (c_X8_behind (V := V2) hM hh (hR.same39 hh hF.1) hB hN hF.2.1 (d := d) (s := t) (by omega) (by omega) ht (hM.2.2.2.2.2.2.2.2.2.2.2.2.2.1.2.2 (d - 1) (by omega)).2 (f := cst (S.1.2.1 i) (d - 1)) (fun u hu => by rw [(hF.2.2 (d - 1) (by omega) u hu).1, mcM_cst])) cx (dA ddX8_waits (i := 31) rfl) (kJ ?_)
        refine x_lmul (pc := 53) cx (dA ddX8_waits (i := 32) rfl) ?_
        rw [lN_mul]
        refine x_aload_n (pc := 54) cx (dA ddX8_waits (i := 33) rfl) rfl ?_
        refine gX8_55 (pc := 55) (rfA hM.2.2.2.2.2.2.2.2.2.2.2.2.2.1.1) cx (dA ddX8_waits (i := 34) rfl) h0 ?_
        refine x_iload_n (pc := 58) cx (dA ddX8_waits (i := 35) rfl) rfl ?_
        refine x_aaload (pc := 59) cx (dA ddX8_waits (i := 36) rfl) hM.2.2.2.2.2.2.2.2.2.2.2.2.2.1.2.1 (by decide) (by decide) (by omega) (by decide) ?_
        rw [arA (hM.2.2.2.2.2.2.2.2.2.2.2.2.2.1.2.2 d (by omega)).1]
        refine x_iload_n (pc := 60) cx (dA ddX8_waits (i := 37) rfl) rfl ?_
        refine x_laload (pc := 61) cx (dA ddX8_waits (i := 38) rfl) (hM.2.2.2.2.2.2.2.2.2.2.2.2.2.1.2.2 d (by omega)).2 (by omega) (by decide) ?_
        rw [(hF.2.2 d (by omega) t ht).1, mcM_cst]
        refine x_lsub (pc := 62) cx (dA ddX8_waits (i := 39) rfl) ?_
        refine x_lreturn (pc := 63) cx (dA ddX8_waits (i := 40) rfl) (by first | exact Nat.le_of_ble_eq_true rfl | omega) (by first | exact Nat.le_of_ble_eq_true rfl | omega) ?_
        exact pMJ.q hRM (MF.of hF.1 (by omega) (by omega)) (by unfold fWaits; rw [if_pos ⟨ch, cl1, ct⟩]; simp only [hX, ti, td, tt]; rw [mix0 (by have := hN.2.2.2.1; omega)]; rfl)
      · have c19 := b2i_eq c19
        refine x_aload_n (pc := 22) cx (dA ddX8_waits (i := 12) rfl) rfl ?_
        refine x_bipush (pc := 23) (v := -2) cx (dA ddX8_waits (i := 13) rfl) (by decide) ?_
        refine x_V1 (pc := 25) mX8_119 h0 (c_X8_refuse hM (i := 0) (by decide) rfl) cx (dA ddX8_waits (i := 14) rfl) (kI ?_)
        refine x_i2l (pc := 28) cx (dA ddX8_waits (i := 15) rfl) ?_
        refine x_lreturn (pc := 29) cx (dA ddX8_waits (i := 16) rfl) (by first | exact Nat.le_of_ble_eq_true rfl | omega) (by first | exact Nat.le_of_ble_eq_true rfl | omega) ?_
        first | exact pMJ.r hRM (by decide) (if_neg (fun q => c19 ⟨q.1, q.2.2⟩))
theorem c_X8_once {l : Launch} {Z : zP} {G : zG} {V : zV} {y : Nat} {zk : Option Nat} {S : SX} (hRM : RM Z G V y zk S) {h d t : Int32} : CT l Z yX8_once cX8_once 4 (some .long) 5 0 0 [.ref y, .int h, .int d, .int t] G V (pMJ Z G V y zk (fOnce S h d t)) := by
  refine CT.of (by decide +kernel) (Nat.le_of_ble_eq_true rfl) (fun X hX cx => ?_)
  subst hX
  show Wm Z X 4 G V 0 0 _ 0 [(0, some (.ref y)), (1, some (.int h)), (2, some (.int d)), (3, some (.int t))] []
  have hM := hRM.1
  have h0 := hM.1
  have hc := hRM.2.2.1.1
  have c6 := hRM.2.2.1.2.1
  have hmu := hRM.2.2.2.2.2.2.1
  refine x_aload_n (pc := 0) cx (dA ddX8_once (i := 0) rfl) rfl ?_
  refine x_iload_n (pc := 1) cx (dA ddX8_once (i := 1) rfl) rfl ?_
  refine x_iload_n (pc := 2) cx (dA ddX8_once (i := 2) rfl) rfl ?_
  refine x_V2 (pc := 3) mX8_239 h0 (c_X8_isLeft_a hRM) cx (dA ddX8_once (i := 3) rfl) (kI ?_)
  refine x_if_eq (pc := 6) (tgt := 22) cx (dA ddX8_once (i := 4) rfl) (by decide) (fun c6 => ?_) (fun c6 => ?_)
  · have c6 := b2i_eq c6
    refine x_aload_n (pc := 22) cx (dA ddX8_once (i := 12) rfl) rfl ?_
    refine x_bipush (pc := 23) (v := -2) cx (dA ddX8_once (i := 13) rfl) (by decide) ?_
    refine x_V1 (pc := 25) mX8_119 h0 (c_X8_refuse hM (i := 0) (by decide) rfl) cx (dA ddX8_once (i := 14) rfl) (kI ?_)
    refine x_i2l (pc := 28) cx (dA ddX8_once (i := 15) rfl) ?_
    refine x_lreturn (pc := 29) cx (dA ddX8_once (i := 16) rfl) (by first | exact Nat.le_of_ble_eq_true rfl | omega) (by first | exact Nat.le_of_ble_eq_true rfl | omega) ?_
    first | exact pMJ.r hRM (by decide) (if_neg (fun q => c6 ⟨q.1, ⟨by have := q.2.1.1; omega, q.2.1.2⟩⟩))
  · have c6 := b2i_ne c6
    obtain ⟨ch, cl⟩ := c6
    obtain ⟨i, hi, rfl, ti⟩ := i32_in ch
    obtain ⟨hR, hN⟩ := hRM.2.2.1.2.2.1 i hi
    have hB := hN.1
    have b4 := hB.1
    have n125 := st125 b4
    have h06 := hN.2.1
    have hh : i < 8 := by omega
    have cl2 : okl (S.1.2.1 i) d := by rw [← ti]; exact cl
    obtain ⟨d, hd, rfl, td⟩ := i32_in (x := d) (n := S.1.2.1 i 0 + 1) ⟨cl2.1, by have := cl2.2; omega⟩
    refine x_iload_n (pc := 9) cx (dA ddX8_once (i := 5) rfl) rfl ?_
    refine x_if_eq (pc := 10) (tgt := 22) cx (dA ddX8_once (i := 6) rfl) (by decide) (fun c10 => ?_) (fun c10 => ?_)
    · have z0 : d = 0 := nI_inj (b := 0) (by omega) (by decide) c10
      refine x_aload_n (pc := 22) cx (dA ddX8_once (i := 12) rfl) rfl ?_
      refine x_bipush (pc := 23) (v := -2) cx (dA ddX8_once (i := 13) rfl) (by decide) ?_
      refine x_V1 (pc := 25) mX8_119 h0 (c_X8_refuse hM (i := 0) (by decide) rfl) cx (dA ddX8_once (i := 14) rfl) (kI ?_)
      refine x_i2l (pc := 28) cx (dA ddX8_once (i := 15) rfl) ?_
      refine x_lreturn (pc := 29) cx (dA ddX8_once (i := 16) rfl) (by first | exact Nat.le_of_ble_eq_true rfl | omega) (by first | exact Nat.le_of_ble_eq_true rfl | omega) ?_
      first | exact pMJ.r hRM (by decide) (if_neg (fun q => by have := q.2.1.1; rw [z0, nI_toInt (by decide)] at this; omega))
    · have d0 : d ≠ 0 := fun e => c10 (by rw [e]; rfl)
      have cl1 : okl1 (hX S (nI i)) (nI d) := ⟨by rw [nI_toInt (by omega)]; omega, cl.2⟩
      refine x_aload_n (pc := 13) cx (dA ddX8_once (i := 7) rfl) rfl ?_
      refine x_iload_n (pc := 14) cx (dA ddX8_once (i := 8) rfl) rfl ?_
      refine x_iload_n (pc := 15) cx (dA ddX8_once (i := 9) rfl) rfl ?_
      refine x_V2 (pc := 16) mX8_233 h0 (c_X8_isState_a hRM) cx (dA ddX8_once (i := 10) rfl) (kI ?_)
      refine x_if_ne (pc := 19) (tgt := 30) cx (dA ddX8_once (i := 11) rfl) (by decide) (fun c19 => ?_) (fun c19 => ?_)
      · have c19 := b2i_ne c19
        obtain ⟨ch, ct⟩ := c19
        have ct2 : okt (S.1.2.1 i) t := by rw [← ti]; exact ct
        obtain ⟨t, ht, rfl, tt⟩ := i32_in ct2
        refine x_aload_n (pc := 30) cx (dA ddX8_once (i := 17) rfl) rfl ?_
        refine x_iload_n (pc := 31) cx (dA ddX8_once (i := 18) rfl) rfl ?_
        refine x_V1 (pc := 32) mX8_264 h0 (c_X8_findBest hM hh hR hB hN (mu := 0) (hmu_0 hmu)) cx (dA ddX8_once (i := 19) rfl) (kVx fun V2 hF => ?_)
        refine x_aload_n (pc := 35) cx (dA ddX8_once (i := 20) rfl) rfl ?_
        refine x_iload_n (pc := 36) cx (dA ddX8_once (i := 21) rfl) rfl ?_
        refine x_iload_n (pc := 37) cx (dA ddX8_once (i := 22) rfl) rfl ?_
        refine x_iload_n (pc := 38) cx (dA ddX8_once (i := 23) rfl) rfl ?_
        refine x_aload_n (pc := 39) cx (dA ddX8_once (i := 24) rfl) rfl ?_
        refine x_iload_n (pc := 40) cx (dA ddX8_once (i := 25) rfl) rfl ?_
        refine x_iload_n (pc := 41) cx (dA ddX8_once (i := 26) rfl) rfl ?_
        refine x_V2 (pc := 42) mX8_246 h0 (c_X8_fillOf (V := V2) hM hh (hR.same39 hh hF.1) hB hN (by omega)) cx (dA ddX8_once (i := 27) rfl) (kI ?_)
        refine x_aload_n (pc := 45) cx (dA ddX8_once (i := 28) rfl) rfl ?_
        refine gX8_55 (pc := 46) (rfA hM.2.2.2.2.2.2.2.2.2.2.2.2.2.1.1) cx (dA ddX8_once (i := 29) rfl) h0 ?_
        refine x_iload_n (pc := 49) cx (dA ddX8_once (i := 30) rfl) rfl ?_
        refine x_iconst (pc := 50) (v := nI 1) cx (dA ddX8_once (i := 31) rfl) (by decide) ?_
        refine x_isub (pc := 51) cx (dA ddX8_once (i := 32) rfl) ?_
        rw [pk_sub (by omega)]
        refine x_aaload (pc := 52) cx (dA ddX8_once (i := 33) rfl) hM.2.2.2.2.2.2.2.2.2.2.2.2.2.1.2.1 (by decide) (by decide) (by omega) (by decide) ?_
        rw [arA (hM.2.2.2.2.2.2.2.2.2.2.2.2.2.1.2.2 (d - 1) (by omega)).1]
        refine x_V5 (pc := 53) mX8_289 h0 (c_X8_withLoad (V := V2) hM hh (hR.same39 hh hF.1) hB hN hF.2.1 (d := d) (s := t) (by omega) (by omega) ht (u := fillP (S.1.2.1 i) t) (fillP_le hN (by omega)) (hM.2.2.2.2.2.2.2.2.2.2.2.2.2.1.2.2 (d - 1) (by omega)).2 (f := cst (S.1.2.1 i) (d - 1)) (fun u hu => by rw [(hF.2.2 (d - 1) (by omega) u hu).1, mcM_cst])) cx (dA ddX8_once (i := 34) rfl) (kJ ?_)
        refine x_aload_n (pc := 56) cx (dA ddX8_once (i := 35) rfl) rfl ?_
        refine gX8_55 (pc := 57) (rfA hM.2.2.2.2.2.2.2.2.2.2.2.2.2.1.1) cx (dA ddX8_once (i := 36) rfl) h0 ?_
        refine x_iload_n (pc := 60) cx (dA ddX8_once (i := 37) rfl) rfl ?_
        refine x_aaload (pc := 61) cx (dA ddX8_once (i := 38) rfl) hM.2.2.2.2.2.2.2.2.2.2.2.2.2.1.2.1 (by decide) (by decide) (by omega) (by decide) ?_
        rw [arA (hM.2.2.2.2.2.2.2.2.2.2.2.2.2.1.2.2 d (by omega)).1]
        refine x_iload_n (pc := 62) cx (dA ddX8_once (i := 39) rfl) rfl ?_
        refine x_laload (pc := 63) cx (dA ddX8_once (i := 40) rfl) (hM.2.2.2.2.2.2.2.2.2.2.2.2.2.1.2.2 d (by omega)).2 (by omega) (by decide) ?_
        rw [(hF.2.2 d (by omega) t ht).1, mcM_cst]
        refine x_lsub (pc := 64) cx (dA ddX8_once (i := 41) rfl) ?_
        refine x_lreturn (pc := 65) cx (dA ddX8_once (i := 42) rfl) (by first | exact Nat.le_of_ble_eq_true rfl | omega) (by first | exact Nat.le_of_ble_eq_true rfl | omega) ?_
        exact pMJ.q hRM (MF.of hF.1 (by omega) (by omega)) (by unfold fOnce; rw [if_pos ⟨ch, cl1, ct⟩]; simp only [hX, ti, td, tt]; rfl)
      · have c19 := b2i_eq c19
        refine x_aload_n (pc := 22) cx (dA ddX8_once (i := 12) rfl) rfl ?_
        refine x_bipush (pc := 23) (v := -2) cx (dA ddX8_once (i := 13) rfl) (by decide) ?_
        refine x_V1 (pc := 25) mX8_119 h0 (c_X8_refuse hM (i := 0) (by decide) rfl) cx (dA ddX8_once (i := 14) rfl) (kI ?_)
        refine x_i2l (pc := 28) cx (dA ddX8_once (i := 15) rfl) ?_
        refine x_lreturn (pc := 29) cx (dA ddX8_once (i := 16) rfl) (by first | exact Nat.le_of_ble_eq_true rfl | omega) (by first | exact Nat.le_of_ble_eq_true rfl | omega) ?_
        first | exact pMJ.r hRM (by decide) (if_neg (fun q => c19 ⟨q.1, q.2.2⟩))
theorem c_X8_dear {l : Launch} {Z : zP} {G : zG} {V : zV} {y : Nat} {zk : Option Nat} {S : SX} (hRM : RM Z G V y zk S) {h d t k : Int32} : CT l Z yX8_dear cX8_dear 5 (some .long) 5 0 0 [.ref y, .int h, .int d, .int t, .int k] G V (pMJ Z G V y zk (fDear S h d t k)) := by
  refine CT.of (by decide +kernel) (Nat.le_of_ble_eq_true rfl) (fun X hX cx => ?_)
  subst hX
  show Wm Z X 5 G V 0 0 _ 0 [(0, some (.ref y)), (1, some (.int h)), (2, some (.int d)), (3, some (.int t)), (4, some (.int k))] []
  have hM := hRM.1
  have h0 := hM.1
  have hc := hRM.2.2.1.1
  have c6 := hRM.2.2.1.2.1
  have hmu := hRM.2.2.2.2.2.2.1
  refine x_aload_n (pc := 0) cx (dA ddX8_dear (i := 0) rfl) rfl ?_
  refine x_iload_n (pc := 1) cx (dA ddX8_dear (i := 1) rfl) rfl ?_
  refine x_iload_n (pc := 2) cx (dA ddX8_dear (i := 2) rfl) rfl ?_
  refine x_V2 (pc := 3) mX8_239 h0 (c_X8_isLeft_a hRM) cx (dA ddX8_dear (i := 3) rfl) (kI ?_)
  refine x_if_eq (pc := 6) (tgt := 46) cx (dA ddX8_dear (i := 4) rfl) (by decide) (fun c6 => ?_) (fun c6 => ?_)
  · have c6 := b2i_eq c6
    refine x_aload_n (pc := 46) cx (dA ddX8_dear (i := 26) rfl) rfl ?_
    refine x_bipush (pc := 47) (v := -2) cx (dA ddX8_dear (i := 27) rfl) (by decide) ?_
    refine x_V1 (pc := 49) mX8_119 h0 (c_X8_refuse hM (i := 0) (by decide) rfl) cx (dA ddX8_dear (i := 28) rfl) (kI ?_)
    refine x_i2l (pc := 52) cx (dA ddX8_dear (i := 29) rfl) ?_
    refine x_lreturn (pc := 53) cx (dA ddX8_dear (i := 30) rfl) (by first | exact Nat.le_of_ble_eq_true rfl | omega) (by first | exact Nat.le_of_ble_eq_true rfl | omega) ?_
    first | exact pMJ.r hRM (by decide) (if_neg (fun q => c6 ⟨q.1, q.2.1⟩))
  · have c6 := b2i_ne c6
    obtain ⟨ch, cl⟩ := c6
    obtain ⟨i, hi, rfl, ti⟩ := i32_in ch
    obtain ⟨hR, hN⟩ := hRM.2.2.1.2.2.1 i hi
    have hB := hN.1
    have b4 := hB.1
    have n125 := st125 b4
    have h06 := hN.2.1
    have hh : i < 8 := by omega
    have cl2 : okl (S.1.2.1 i) d := by rw [← ti]; exact cl
    obtain ⟨d, hd, rfl, td⟩ := i32_in (x := d) (n := S.1.2.1 i 0 + 1) ⟨cl2.1, by have := cl2.2; omega⟩
    refine x_aload_n (pc := 9) cx (dA ddX8_dear (i := 5) rfl) rfl ?_
    refine x_iload_n (pc := 10) cx (dA ddX8_dear (i := 6) rfl) rfl ?_
    refine x_iload_n (pc := 11) cx (dA ddX8_dear (i := 7) rfl) rfl ?_
    refine x_V2 (pc := 12) mX8_233 h0 (c_X8_isState_a hRM) cx (dA ddX8_dear (i := 8) rfl) (kI ?_)
    refine x_if_eq (pc := 15) (tgt := 46) cx (dA ddX8_dear (i := 9) rfl) (by decide) (fun c15 => ?_) (fun c15 => ?_)
    · have c15 := b2i_eq c15
      refine x_aload_n (pc := 46) cx (dA ddX8_dear (i := 26) rfl) rfl ?_
      refine x_bipush (pc := 47) (v := -2) cx (dA ddX8_dear (i := 27) rfl) (by decide) ?_
      refine x_V1 (pc := 49) mX8_119 h0 (c_X8_refuse hM (i := 0) (by decide) rfl) cx (dA ddX8_dear (i := 28) rfl) (kI ?_)
      refine x_i2l (pc := 52) cx (dA ddX8_dear (i := 29) rfl) ?_
      refine x_lreturn (pc := 53) cx (dA ddX8_dear (i := 30) rfl) (by first | exact Nat.le_of_ble_eq_true rfl | omega) (by first | exact Nat.le_of_ble_eq_true rfl | omega) ?_
      first | exact pMJ.r hRM (by decide) (if_neg (fun q => c15 ⟨q.1, q.2.2.1⟩))
    · have c15 := b2i_ne c15
      obtain ⟨ch, ct⟩ := c15
      have ct2 : okt (S.1.2.1 i) t := by rw [← ti]; exact ct
      obtain ⟨t, ht, rfl, tt⟩ := i32_in ct2
      refine x_iload (pc := 18) cx (dA ddX8_dear (i := 10) rfl) rfl ?_
      refine x_i2l (pc := 20) cx (dA ddX8_dear (i := 11) rfl) ?_
      refine x_lconst (pc := 21) (v := lN 0) cx (dA ddX8_dear (i := 12) rfl) rfl ?_
      refine x_aload_n (pc := 22) cx (dA ddX8_dear (i := 13) rfl) rfl ?_
      refine x_iload_n (pc := 23) cx (dA ddX8_dear (i := 14) rfl) rfl ?_
      refine x_V1 (pc := 24) mX8_98 h0 (c_X8_sorts hM hh hR hB) cx (dA ddX8_dear (i := 15) rfl) (kI ?_)
      refine x_iconst (pc := 27) (v := nI 1) cx (dA ddX8_dear (i := 16) rfl) (by decide) ?_
      refine x_isub (pc := 28) cx (dA ddX8_dear (i := 17) rfl) ?_
      refine x_i2l (pc := 29) cx (dA ddX8_dear (i := 18) rfl) ?_
      refine x_S3 (pc := 30) mX8_94 c_X8_in cx (dA ddX8_dear (i := 19) rfl) (kI ?_)
      rw [l0_toInt, tl_toInt, tl_toInt, sub1_toInt (by omega)]
      refine x_if_eq (pc := 33) (tgt := 46) cx (dA ddX8_dear (i := 20) rfl) (by decide) (fun c33 => ?_) (fun c33 => ?_)
      · have c33 := b2i_eq c33
        refine x_aload_n (pc := 46) cx (dA ddX8_dear (i := 26) rfl) rfl ?_
        refine x_bipush (pc := 47) (v := -2) cx (dA ddX8_dear (i := 27) rfl) (by decide) ?_
        refine x_V1 (pc := 49) mX8_119 h0 (c_X8_refuse hM (i := 0) (by decide) rfl) cx (dA ddX8_dear (i := 28) rfl) (kI ?_)
        refine x_i2l (pc := 52) cx (dA ddX8_dear (i := 29) rfl) ?_
        refine x_lreturn (pc := 53) cx (dA ddX8_dear (i := 30) rfl) (by first | exact Nat.le_of_ble_eq_true rfl | omega) (by first | exact Nat.le_of_ble_eq_true rfl | omega) ?_
        first | exact pMJ.r hRM (by decide) (if_neg (fun q => by have z := q.2.2.2.1; rw [hX_at hh] at z; exact c33 ⟨z.1, by have := z.2; omega⟩))
      · have c33 := b2i_ne c33
        obtain ⟨k, hk, rfl, tk⟩ := i32_in (x := k) (n := S.1.2.1 i 4) ⟨c33.1, by have := c33.2; omega⟩
        have eX : hX S (nI i) = S.1.2.1 i := hX_at hh
        have ck : okk (hX S (nI i)) (nI k) := by rw [eX]; exact ⟨c33.1, by have := c33.2; omega⟩
        have dl := dig_lt t k
        refine x_iload_n (pc := 36) cx (dA ddX8_dear (i := 21) rfl) rfl ?_
        refine x_iload (pc := 37) cx (dA ddX8_dear (i := 22) rfl) rfl ?_
        refine x_S2 (pc := 39) mX8_226 (c_X8_ofState (s := t) (k := k) (by omega) (by omega)) cx (dA ddX8_dear (i := 23) rfl) (kI ?_)
        refine x_iconst (pc := 42) (v := nI 4) cx (dA ddX8_dear (i := 24) rfl) (by decide) ?_
        refine x_icmp_ne (pc := 43) (tgt := 54) cx (dA ddX8_dear (i := 25) rfl) (by decide) (fun c43 => ?_) (fun c43 => ?_)
        · have c43 := ceqF (by omega) (by omega) c43
          have dl := dig_lt t k
          have d4 : dig t k < 4 := by omega
          have C : okc S (nI i) ∧ okl (hX S (nI i)) (nI d) ∧ okt (hX S (nI i)) (nI t) ∧ okk (hX S (nI i)) (nI k) ∧ dig (tn (nI t)) (tn (nI k)) < 4 := ⟨ch, cl, ct, ck, by rw [tt, tk]; exact d4⟩
          have up := dig_up b4 hk ht d4
          refine x_aload_n (pc := 54) cx (dA ddX8_dear (i := 31) rfl) rfl ?_
          refine x_iload_n (pc := 55) cx (dA ddX8_dear (i := 32) rfl) rfl ?_
          refine x_V1 (pc := 56) mX8_264 h0 (c_X8_findBest hM hh hR hB hN (mu := 0) (hmu_0 hmu)) cx (dA ddX8_dear (i := 33) rfl) (kVx fun V2 hF => ?_)
          refine x_aload_n (pc := 59) cx (dA ddX8_dear (i := 34) rfl) rfl ?_
          refine gX8_55 (pc := 60) (rfA hM.2.2.2.2.2.2.2.2.2.2.2.2.2.1.1) cx (dA ddX8_dear (i := 35) rfl) h0 ?_
          refine x_iload_n (pc := 63) cx (dA ddX8_dear (i := 36) rfl) rfl ?_
          refine x_aaload (pc := 64) cx (dA ddX8_dear (i := 37) rfl) hM.2.2.2.2.2.2.2.2.2.2.2.2.2.1.2.1 (by decide) (by decide) (by omega) (by decide) ?_
          rw [arA (hM.2.2.2.2.2.2.2.2.2.2.2.2.2.1.2.2 d (by omega)).1]
          refine x_iload_n (pc := 65) cx (dA ddX8_dear (i := 38) rfl) rfl ?_
          refine x_iconst (pc := 66) (v := nI 5) cx (dA ddX8_dear (i := 39) rfl) (by decide) ?_
          refine x_iload (pc := 67) cx (dA ddX8_dear (i := 40) rfl) rfl ?_
          refine x_S2 (pc := 69) mX8_102 (c_X8_power (by omega)) cx (dA ddX8_dear (i := 41) rfl) (kI ?_)
          refine x_iadd (pc := 72) cx (dA ddX8_dear (i := 42) rfl) ?_
          rw [nI_add]
          refine x_laload (pc := 73) cx (dA ddX8_dear (i := 43) rfl) (hM.2.2.2.2.2.2.2.2.2.2.2.2.2.1.2.2 d (by omega)).2 (by omega) (by decide) ?_
          rw [(hF.2.2 d (by omega) (t + 5 ^ k) up).1, mcM_cst]
          refine x_aload_n (pc := 74) cx (dA ddX8_dear (i := 44) rfl) rfl ?_
          refine gX8_55 (pc := 75) (rfA hM.2.2.2.2.2.2.2.2.2.2.2.2.2.1.1) cx (dA ddX8_dear (i := 45) rfl) h0 ?_
          refine x_iload_n (pc := 78) cx (dA ddX8_dear (i := 46) rfl) rfl ?_
          refine x_aaload (pc := 79) cx (dA ddX8_dear (i := 47) rfl) hM.2.2.2.2.2.2.2.2.2.2.2.2.2.1.2.1 (by decide) (by decide) (by omega) (by decide) ?_
          rw [arA (hM.2.2.2.2.2.2.2.2.2.2.2.2.2.1.2.2 d (by omega)).1]
          refine x_iload_n (pc := 80) cx (dA ddX8_dear (i := 48) rfl) rfl ?_
          refine x_laload (pc := 81) cx (dA ddX8_dear (i := 49) rfl) (hM.2.2.2.2.2.2.2.2.2.2.2.2.2.1.2.2 d (by omega)).2 (by omega) (by decide) ?_
          rw [(hF.2.2 d (by omega) t ht).1, mcM_cst]
          refine x_lsub (pc := 82) cx (dA ddX8_dear (i := 50) rfl) ?_
          refine x_lreturn (pc := 83) cx (dA ddX8_dear (i := 51) rfl) (by first | exact Nat.le_of_ble_eq_true rfl | omega) (by first | exact Nat.le_of_ble_eq_true rfl | omega) ?_
          exact pMJ.q hRM (MF.of hF.1 (by omega) (by omega)) (by unfold fDear; rw [if_pos C]; simp only [hX, ti, td, tt, tk])
        · have c43 := ceqT (by omega) (by omega) c43
          refine x_aload_n (pc := 46) cx (dA ddX8_dear (i := 26) rfl) rfl ?_
          refine x_bipush (pc := 47) (v := -2) cx (dA ddX8_dear (i := 27) rfl) (by decide) ?_
          refine x_V1 (pc := 49) mX8_119 h0 (c_X8_refuse hM (i := 0) (by decide) rfl) cx (dA ddX8_dear (i := 28) rfl) (kI ?_)
          refine x_i2l (pc := 52) cx (dA ddX8_dear (i := 29) rfl) ?_
          refine x_lreturn (pc := 53) cx (dA ddX8_dear (i := 30) rfl) (by first | exact Nat.le_of_ble_eq_true rfl | omega) (by first | exact Nat.le_of_ble_eq_true rfl | omega) ?_
          first | exact pMJ.r hRM (by decide) (if_neg (fun q => by have z := q.2.2.2.2; rw [tt, tk] at z; omega))
theorem c_X8_chance {l : Launch} {Z : zP} {G : zG} {V : zV} {y : Nat} {zk : Option Nat} {S : SX} (hRM : RM Z G V y zk S) {h d t r : Int32} : CT l Z yX8_chance cX8_chance 6 (some .long) 6 0 0 [.ref y, .int h, .int d, .int t, .int r] G V (pMJ Z G V y zk (fChance S h d t r)) := by
  refine CT.of (by decide +kernel) (Nat.le_of_ble_eq_true rfl) (fun X hX cx => ?_)
  subst hX
  show Wm Z X 6 G V 0 0 _ 0 [(0, some (.ref y)), (1, some (.int h)), (2, some (.int d)), (3, some (.int t)), (4, some (.int r))] []
  have hM := hRM.1
  have h0 := hM.1
  have hc := hRM.2.2.1.1
  have c6 := hRM.2.2.1.2.1
  have hmu := hRM.2.2.2.2.2.2.1
  refine x_aload_n (pc := 0) cx (dA ddX8_chance (i := 0) rfl) rfl ?_
  refine x_iload_n (pc := 1) cx (dA ddX8_chance (i := 1) rfl) rfl ?_
  refine x_iload_n (pc := 2) cx (dA ddX8_chance (i := 2) rfl) rfl ?_
  refine x_V2 (pc := 3) mX8_239 h0 (c_X8_isLeft_a hRM) cx (dA ddX8_chance (i := 3) rfl) (kI ?_)
  refine x_if_eq (pc := 6) (tgt := 31) cx (dA ddX8_chance (i := 4) rfl) (by decide) (fun c6 => ?_) (fun c6 => ?_)
  · have c6 := b2i_eq c6
    refine x_aload_n (pc := 31) cx (dA ddX8_chance (i := 16) rfl) rfl ?_
    refine x_bipush (pc := 32) (v := -2) cx (dA ddX8_chance (i := 17) rfl) (by decide) ?_
    refine x_V1 (pc := 34) mX8_119 h0 (c_X8_refuse hM (i := 0) (by decide) rfl) cx (dA ddX8_chance (i := 18) rfl) (kI ?_)
    refine x_i2l (pc := 37) cx (dA ddX8_chance (i := 19) rfl) ?_
    refine x_lreturn (pc := 38) cx (dA ddX8_chance (i := 20) rfl) (by first | exact Nat.le_of_ble_eq_true rfl | omega) (by first | exact Nat.le_of_ble_eq_true rfl | omega) ?_
    first | exact pMJ.r hRM (by decide) (if_neg (fun q => c6 ⟨q.1, q.2.1⟩))
  · have c6 := b2i_ne c6
    obtain ⟨ch, cl⟩ := c6
    obtain ⟨i, hi, rfl, ti⟩ := i32_in ch
    obtain ⟨hR, hN⟩ := hRM.2.2.1.2.2.1 i hi
    have hB := hN.1
    have b4 := hB.1
    have n125 := st125 b4
    have h06 := hN.2.1
    have hh : i < 8 := by omega
    have cl2 : okl (S.1.2.1 i) d := by rw [← ti]; exact cl
    obtain ⟨d, hd, rfl, td⟩ := i32_in (x := d) (n := S.1.2.1 i 0 + 1) ⟨cl2.1, by have := cl2.2; omega⟩
    refine x_aload_n (pc := 9) cx (dA ddX8_chance (i := 5) rfl) rfl ?_
    refine x_iload_n (pc := 10) cx (dA ddX8_chance (i := 6) rfl) rfl ?_
    refine x_iload_n (pc := 11) cx (dA ddX8_chance (i := 7) rfl) rfl ?_
    refine x_V2 (pc := 12) mX8_233 h0 (c_X8_isState_a hRM) cx (dA ddX8_chance (i := 8) rfl) (kI ?_)
    refine x_if_eq (pc := 15) (tgt := 31) cx (dA ddX8_chance (i := 9) rfl) (by decide) (fun c15 => ?_) (fun c15 => ?_)
    · have c15 := b2i_eq c15
      refine x_aload_n (pc := 31) cx (dA ddX8_chance (i := 16) rfl) rfl ?_
      refine x_bipush (pc := 32) (v := -2) cx (dA ddX8_chance (i := 17) rfl) (by decide) ?_
      refine x_V1 (pc := 34) mX8_119 h0 (c_X8_refuse hM (i := 0) (by decide) rfl) cx (dA ddX8_chance (i := 18) rfl) (kI ?_)
      refine x_i2l (pc := 37) cx (dA ddX8_chance (i := 19) rfl) ?_
      refine x_lreturn (pc := 38) cx (dA ddX8_chance (i := 20) rfl) (by first | exact Nat.le_of_ble_eq_true rfl | omega) (by first | exact Nat.le_of_ble_eq_true rfl | omega) ?_
      first | exact pMJ.r hRM (by decide) (if_neg (fun q => c15 ⟨q.1, q.2.2.1⟩))
    · have c15 := b2i_ne c15
      obtain ⟨ch, ct⟩ := c15
      have ct2 : okt (S.1.2.1 i) t := by rw [← ti]; exact ct
      obtain ⟨t, ht, rfl, tt⟩ := i32_in ct2
      refine x_iload (pc := 18) cx (dA ddX8_chance (i := 10) rfl) rfl ?_
      refine x_i2l (pc := 20) cx (dA ddX8_chance (i := 11) rfl) ?_
      refine x_lconst (pc := 21) (v := lN 0) cx (dA ddX8_chance (i := 12) rfl) rfl ?_
      refine x_ldc2 (pc := 22) cx klX8_113 (dA ddX8_chance (i := 13) rfl) ?_
      refine x_S3 (pc := 25) mX8_94 c_X8_in cx (dA ddX8_chance (i := 14) rfl) (kI ?_)
      rw [l0_toInt, tl_toInt, show (lN 7).toInt = 7 from rfl]
      refine x_if_ne (pc := 28) (tgt := 39) cx (dA ddX8_chance (i := 15) rfl) (by decide) (fun c28 => ?_) (fun c28 => ?_)
      · have cr := b2i_ne c28
        obtain ⟨r, hr, rfl, tr⟩ := i32_in (x := r) (n := 8) ⟨cr.1, by have := cr.2; omega⟩
        have cr : oks (nI r) := ⟨cr.1, by have := cr.2; omega⟩
        refine x_aload_n (pc := 39) cx (dA ddX8_chance (i := 21) rfl) rfl ?_
        refine x_iload (pc := 40) cx (dA ddX8_chance (i := 22) rfl) rfl ?_
        refine x_V1 (pc := 42) mX8_271 h0 (c_X8_noRule hRM hr) cx (dA ddX8_chance (i := 23) rfl) (kE fun x V2 hx => ?_)
        refine x_istore (pc := 45) cx (dA ddX8_chance (i := 24) rfl) (by decide) rfl ?_
        refine x_iload (pc := 47) cx (dA ddX8_chance (i := 25) rfl) rfl ?_
        refine x_if_eq (pc := 49) (tgt := 56) cx (dA ddX8_chance (i := 26) rfl) (by decide) (fun c49 => ?_) (fun c49 => ?_)
        · obtain ⟨-, eV, q, hq⟩ := hx.resolve_right (fun h => by rcases h with ⟨e, -⟩ | ⟨e, -⟩ <;> rw [e] at c49 <;> exact absurd c49 (by decide))
          have eV := eV.symm
          subst eV
          have hR5 := ((hRM.2.2.2.1 r hr).2.2 q hq).2.1
          have hs : shX S (nI r) = some (.inr q) := (shX_at hr).trans hq
          refine x_aload_n (pc := 56) cx (dA ddX8_chance (i := 30) rfl) rfl ?_
          refine x_iload_n (pc := 57) cx (dA ddX8_chance (i := 31) rfl) rfl ?_
          refine x_iload (pc := 58) cx (dA ddX8_chance (i := 32) rfl) rfl ?_
          refine x_V2 (pc := 60) mX8_297 h0 (c_X8_findChances hM hh hR hB hN hmu (r := r) (by omega) hR5) cx (dA ddX8_chance (i := 33) rfl) (kVx fun V2 hF => ?_)
          have fd := hF.2.1 (S.1.2.1 i 0 - d) (by omega)
          rw [show S.1.2.1 i 0 - (S.1.2.1 i 0 - d) = d by omega] at fd
          refine x_aload_n (pc := 63) cx (dA ddX8_chance (i := 34) rfl) rfl ?_
          refine gX8_85 (pc := 64) (rfA hM.2.2.2.2.2.2.2.2.2.2.2.2.2.2.2.2.2.2.2.2.2.2.2.1) cx (dA ddX8_chance (i := 35) rfl) h0 ?_
          refine x_iload_n (pc := 67) cx (dA ddX8_chance (i := 36) rfl) rfl ?_
          refine x_aaload (pc := 68) cx (dA ddX8_chance (i := 37) rfl) hM.2.2.2.2.2.2.2.2.2.2.2.2.2.2.2.2.2.2.2.2.2.2.2.2.1 (by decide) (by decide) (by omega) (by decide) ?_
          rw [arA (hM.2.2.2.2.2.2.2.2.2.2.2.2.2.2.2.2.2.2.2.2.2.2.2.2.2 d (by omega)).1]
          refine x_iload_n (pc := 69) cx (dA ddX8_chance (i := 38) rfl) rfl ?_
          refine x_laload (pc := 70) cx (dA ddX8_chance (i := 39) rfl) (hM.2.2.2.2.2.2.2.2.2.2.2.2.2.2.2.2.2.2.2.2.2.2.2.2.2 d (by omega)).2 (by omega) (by decide) ?_
          rw [fd t ht]
          refine x_lreturn (pc := 71) cx (dA ddX8_chance (i := 40) rfl) (by first | exact Nat.le_of_ble_eq_true rfl | omega) (by first | exact Nat.le_of_ble_eq_true rfl | omega) ?_
          exact pMJ.q hRM (MF.of hF.1.1 (by omega) (by omega)) (by unfold fChance; rw [if_pos ⟨ch, cl, ct, cr⟩, byJ_q hs]; simp only [hX, ti, td, tt]; rfl)
        · refine x_iload (pc := 52) cx (dA ddX8_chance (i := 27) rfl) rfl ?_
          refine x_i2l (pc := 54) cx (dA ddX8_chance (i := 28) rfl) ?_
          refine x_lreturn (pc := 55) cx (dA ddX8_chance (i := 29) rfl) (by first | exact Nat.le_of_ble_eq_true rfl | omega) (by first | exact Nat.le_of_ble_eq_true rfl | omega) ?_
          rcases hx with ⟨e, -⟩ | ⟨rfl, e, rfl⟩ | ⟨rfl, ⟨q, e⟩, rfl⟩
          · exact absurd e c49
          · exact pMJ.r hRM (by decide) (by unfold fChance; rw [if_pos ⟨ch, cl, ct, cr⟩]; exact byJ_n ((shX_at hr).trans e))
          · exact pMJ.r hRM (by decide) (by unfold fChance; rw [if_pos ⟨ch, cl, ct, cr⟩]; exact byJ_r ((shX_at hr).trans e))
      · have c28 := b2i_eq c28
        refine x_aload_n (pc := 31) cx (dA ddX8_chance (i := 16) rfl) rfl ?_
        refine x_bipush (pc := 32) (v := -2) cx (dA ddX8_chance (i := 17) rfl) (by decide) ?_
        refine x_V1 (pc := 34) mX8_119 h0 (c_X8_refuse hM (i := 0) (by decide) rfl) cx (dA ddX8_chance (i := 18) rfl) (kI ?_)
        refine x_i2l (pc := 37) cx (dA ddX8_chance (i := 19) rfl) ?_
        refine x_lreturn (pc := 38) cx (dA ddX8_chance (i := 20) rfl) (by first | exact Nat.le_of_ble_eq_true rfl | omega) (by first | exact Nat.le_of_ble_eq_true rfl | omega) ?_
        first | exact pMJ.r hRM (by decide) (if_neg (fun q => by have z := q.2.2.2; exact c28 ⟨z.1, by have := z.2; omega⟩))
theorem c_X8_reach {l : Launch} {Z : zP} {G : zG} {V : zV} {y : Nat} {zk : Option Nat} {S : SX} (hRM : RM Z G V y zk S) {h d r : Int32} : CT l Z yX8_reach cX8_reach 7 (some .int) 6 0 0 [.ref y, .int h, .int d, .int r] G V (pMI Z G V y zk (fReach S h d r)) := by
  refine CT.of (by decide +kernel) (Nat.le_of_ble_eq_true rfl) (fun X hX cx => ?_)
  subst hX
  show Wm Z X 7 G V 0 0 _ 0 [(0, some (.ref y)), (1, some (.int h)), (2, some (.int d)), (3, some (.int r))] []
  have hM := hRM.1
  have h0 := hM.1
  have hc := hRM.2.2.1.1
  have c6 := hRM.2.2.1.2.1
  have hmu := hRM.2.2.2.2.2.2.1
  refine x_aload_n (pc := 0) cx (dA ddX8_reach (i := 0) rfl) rfl ?_
  refine x_iload_n (pc := 1) cx (dA ddX8_reach (i := 1) rfl) rfl ?_
  refine x_iload_n (pc := 2) cx (dA ddX8_reach (i := 2) rfl) rfl ?_
  refine x_V2 (pc := 3) mX8_239 h0 (c_X8_isLeft_a hRM) cx (dA ddX8_reach (i := 3) rfl) (kI ?_)
  refine x_if_eq (pc := 6) (tgt := 21) cx (dA ddX8_reach (i := 4) rfl) (by decide) (fun c6 => ?_) (fun c6 => ?_)
  · have c6 := b2i_eq c6
    refine x_aload_n (pc := 21) cx (dA ddX8_reach (i := 11) rfl) rfl ?_
    refine x_bipush (pc := 22) (v := -2) cx (dA ddX8_reach (i := 12) rfl) (by decide) ?_
    refine x_V1 (pc := 24) mX8_119 h0 (c_X8_refuse hM (i := 0) (by decide) rfl) cx (dA ddX8_reach (i := 13) rfl) (kI ?_)
    refine x_ireturn (pc := 27) cx (dA ddX8_reach (i := 14) rfl) (by first | exact Nat.le_of_ble_eq_true rfl | omega) (by first | exact Nat.le_of_ble_eq_true rfl | omega) ?_
    first | exact pMI.r hRM (by decide) (if_neg (fun q => c6 ⟨q.1, q.2.1⟩))
  · have c6 := b2i_ne c6
    obtain ⟨ch, cl⟩ := c6
    obtain ⟨i, hi, rfl, ti⟩ := i32_in ch
    obtain ⟨hR, hN⟩ := hRM.2.2.1.2.2.1 i hi
    have hB := hN.1
    have b4 := hB.1
    have n125 := st125 b4
    have h06 := hN.2.1
    have hh : i < 8 := by omega
    have cl2 : okl (S.1.2.1 i) d := by rw [← ti]; exact cl
    obtain ⟨d, hd, rfl, td⟩ := i32_in (x := d) (n := S.1.2.1 i 0 + 1) ⟨cl2.1, by have := cl2.2; omega⟩
    refine x_iload_n (pc := 9) cx (dA ddX8_reach (i := 5) rfl) rfl ?_
    refine x_i2l (pc := 10) cx (dA ddX8_reach (i := 6) rfl) ?_
    refine x_lconst (pc := 11) (v := lN 0) cx (dA ddX8_reach (i := 7) rfl) rfl ?_
    refine x_ldc2 (pc := 12) cx klX8_113 (dA ddX8_reach (i := 8) rfl) ?_
    refine x_S3 (pc := 15) mX8_94 c_X8_in cx (dA ddX8_reach (i := 9) rfl) (kI ?_)
    rw [l0_toInt, tl_toInt, show (lN 7).toInt = 7 from rfl]
    refine x_if_ne (pc := 18) (tgt := 28) cx (dA ddX8_reach (i := 10) rfl) (by decide) (fun c18 => ?_) (fun c18 => ?_)
    · have cr := b2i_ne c18
      obtain ⟨r, hr, rfl, tr⟩ := i32_in (x := r) (n := 8) ⟨cr.1, by have := cr.2; omega⟩
      have cr : oks (nI r) := ⟨cr.1, by have := cr.2; omega⟩
      refine x_aload_n (pc := 28) cx (dA ddX8_reach (i := 15) rfl) rfl ?_
      refine x_iload_n (pc := 29) cx (dA ddX8_reach (i := 16) rfl) rfl ?_
      refine x_V1 (pc := 30) mX8_271 h0 (c_X8_noRule hRM hr) cx (dA ddX8_reach (i := 17) rfl) (kE fun x V2 hx => ?_)
      refine x_istore (pc := 33) cx (dA ddX8_reach (i := 18) rfl) (by decide) rfl ?_
      refine x_iload (pc := 35) cx (dA ddX8_reach (i := 19) rfl) rfl ?_
      refine x_if_eq (pc := 37) (tgt := 43) cx (dA ddX8_reach (i := 20) rfl) (by decide) (fun c37 => ?_) (fun c37 => ?_)
      · obtain ⟨-, eV, q, hq⟩ := hx.resolve_right (fun h => by rcases h with ⟨e, -⟩ | ⟨e, -⟩ <;> rw [e] at c37 <;> exact absurd c37 (by decide))
        have eV := eV.symm
        subst eV
        have hR5 := ((hRM.2.2.2.1 r hr).2.2 q hq).2.1
        have hs : shX S (nI r) = some (.inr q) := (shX_at hr).trans hq
        refine x_aload_n (pc := 43) cx (dA ddX8_reach (i := 23) rfl) rfl ?_
        refine x_iload_n (pc := 44) cx (dA ddX8_reach (i := 24) rfl) rfl ?_
        refine x_iload_n (pc := 45) cx (dA ddX8_reach (i := 25) rfl) rfl ?_
        refine x_V2 (pc := 46) mX8_297 h0 (c_X8_findChances hM hh hR hB hN hmu (r := r) (by omega) hR5) cx (dA ddX8_reach (i := 26) rfl) (kVx fun V2 hF => ?_)
        have fd := hF.2.1 (S.1.2.1 i 0 - d) (by omega)
        rw [show S.1.2.1 i 0 - (S.1.2.1 i 0 - d) = d by omega] at fd
        rw [show (fun d => ruL (S.1.2.1 i) q.1 q.2.1 q.2.2.1 q.2.2.2 d) = ruR (S.1.2.1 i) q from rfl] at fd
        have hL : ∀ d, 1 ≤ d → d ≤ 6 → ∀ s, s < 5 ^ S.1.2.1 i 4 → ruR (S.1.2.1 i) q d s ≤ s := fun d h1 h6 s hs => ruL_le hN h1 h6 hs
        refine x_iconst (pc := 49) (v := nI 0) cx (dA ddX8_reach (i := 27) rfl) (by decide) ?_
        refine x_istore (pc := 50) cx (dA ddX8_reach (i := 28) rfl) (by decide) rfl ?_
        refine x_iconst (pc := 52) (v := nI 0) cx (dA ddX8_reach (i := 29) rfl) (by decide) ?_
        refine x_istore (pc := 53) cx (dA ddX8_reach (i := 30) rfl) (by decide) rfl ?_
        have L55 : ∀ s, s ≤ 5 ^ S.1.2.1 i 4 → Wm Z X 7 G V2 0 0 (rQ Z X 0 0 (pMI Z G V y zk (fReach S (nI i) (nI d) (nI r)))) 55 [(0, some (.ref y)), (1, some (.int (nI i))), (2, some (.int (nI d))), (5, some (.int (nI (ctA (chP (S.1.2.1 i) (ruR (S.1.2.1 i) q) (S.1.2.1 i 0 - d)) s)))), (6, some (.int (nI s)))] [] := by
          refine lpU (5 ^ S.1.2.1 i 4) (fun s hs5 ih => ?_)
          refine x_iload (pc := 55) cx (dA ddX8_reach (i := 31) rfl) rfl ?_
          refine x_aload_n (pc := 57) cx (dA ddX8_reach (i := 32) rfl) rfl ?_
          refine x_iload_n (pc := 58) cx (dA ddX8_reach (i := 33) rfl) rfl ?_
          refine x_V1 (pc := 59) mX8_110 h0 (c_X8_states (V := V2) hM hh ((MF.of hF.1.1 (by omega) (by omega)).mh hR hh) hB) cx (dA ddX8_reach (i := 34) rfl) (kI ?_)
          refine x_icmp_ge (pc := 62) (tgt := 95) cx (dA ddX8_reach (i := 35) rfl) (by decide) (fun c62 => ?_) (fun c62 => ?_)
          · have c62 := cleT (by omega) (by omega) c62
            have es : s = 5 ^ S.1.2.1 i 4 := by omega
            subst es
            refine x_iload (pc := 95) cx (dA ddX8_reach (i := 53) rfl) rfl ?_
            refine x_ireturn (pc := 97) cx (dA ddX8_reach (i := 54) rfl) (by first | exact Nat.le_of_ble_eq_true rfl | omega) (by first | exact Nat.le_of_ble_eq_true rfl | omega) ?_
            exact pMI.q hRM (MF.of hF.1.1 (by omega) (by omega)) (by unfold fReach; rw [if_pos ⟨ch, cl, cr⟩, byI_q hs]; simp only [hX, ti, td])
          · have c62 := cleF (by omega) (by omega) c62
            have cp : (chP (S.1.2.1 i) (ruR (S.1.2.1 i) q) (S.1.2.1 i 0 - d)) s ≤ 2 ^ 48 := chP_le hN hL (by omega) c62
            refine x_iload (pc := 65) cx (dA ddX8_reach (i := 36) rfl) rfl ?_
            refine x_aload_n (pc := 67) cx (dA ddX8_reach (i := 37) rfl) rfl ?_
            refine gX8_85 (pc := 68) (rfA hM.2.2.2.2.2.2.2.2.2.2.2.2.2.2.2.2.2.2.2.2.2.2.2.1) cx (dA ddX8_reach (i := 38) rfl) h0 ?_
            refine x_iload_n (pc := 71) cx (dA ddX8_reach (i := 39) rfl) rfl ?_
            refine x_aaload (pc := 72) cx (dA ddX8_reach (i := 40) rfl) hM.2.2.2.2.2.2.2.2.2.2.2.2.2.2.2.2.2.2.2.2.2.2.2.2.1 (by decide) (by decide) (by omega) (by decide) ?_
            rw [arA (hM.2.2.2.2.2.2.2.2.2.2.2.2.2.2.2.2.2.2.2.2.2.2.2.2.2 d (by omega)).1]
            refine x_iload (pc := 73) cx (dA ddX8_reach (i := 41) rfl) rfl ?_
            refine x_laload (pc := 75) cx (dA ddX8_reach (i := 42) rfl) (hM.2.2.2.2.2.2.2.2.2.2.2.2.2.2.2.2.2.2.2.2.2.2.2.2.2 d (by omega)).2 (by omega) (by decide) ?_
            rw [fd s c62]
            refine x_lconst (pc := 76) (v := lN 0) cx (dA ddX8_reach (i := 43) rfl) rfl ?_
            refine x_lc_le (pc := 77) (tgt := 85) cx (dA ddX8_reach (i := 44) rfl) (dA ddX8_reach (i := 45) rfl) (by decide) (fun c77 => ?_) (fun c77 => ?_)
            · have z0 : (chP (S.1.2.1 i) (ruR (S.1.2.1 i) q) (S.1.2.1 i 0 - d)) s = 0 := by have := (pk_lLE (b := 0) (by omega) (by decide)).mp c77; omega
              have e9 : ctA (chP (S.1.2.1 i) (ruR (S.1.2.1 i) q) (S.1.2.1 i 0 - d)) (s + 1) = ctA (chP (S.1.2.1 i) (ruR (S.1.2.1 i) q) (S.1.2.1 i 0 - d)) s + 0 := if_pos z0
              refine x_iconst (pc := 85) (v := nI 0) cx (dA ddX8_reach (i := 48) rfl) (by decide) ?_
              refine x_iadd (pc := 86) cx (dA ddX8_reach (i := 49) rfl) ?_
              rw [nI_add]
              refine x_istore (pc := 87) cx (dA ddX8_reach (i := 50) rfl) (by decide) rfl ?_
              refine x_iinc (pc := 89) cx (dA ddX8_reach (i := 51) rfl) rfl (iinc1 _) (by decide) rfl ?_
              refine x_goto (pc := 92) (tgt := 55) cx (dA ddX8_reach (i := 52) rfl) (by decide) ?_
              have L := ih (by omega)
              rw [e9] at L
              exact x_enter L ⟨.inr rfl, .inr rfl, .inr rfl, .inr rfl, .inr rfl, trivial⟩
            · have z0 : ¬ (chP (S.1.2.1 i) (ruR (S.1.2.1 i) q) (S.1.2.1 i 0 - d)) s = 0 := fun e => c77 (by rw [e]; decide)
              have e9 : ctA (chP (S.1.2.1 i) (ruR (S.1.2.1 i) q) (S.1.2.1 i 0 - d)) (s + 1) = ctA (chP (S.1.2.1 i) (ruR (S.1.2.1 i) q) (S.1.2.1 i 0 - d)) s + 1 := if_neg z0
              refine x_iconst (pc := 81) (v := nI 1) cx (dA ddX8_reach (i := 46) rfl) (by decide) ?_
              refine x_goto (pc := 82) (tgt := 86) cx (dA ddX8_reach (i := 47) rfl) (by decide) ?_
              refine x_iadd (pc := 86) cx (dA ddX8_reach (i := 49) rfl) ?_
              rw [nI_add]
              refine x_istore (pc := 87) cx (dA ddX8_reach (i := 50) rfl) (by decide) rfl ?_
              refine x_iinc (pc := 89) cx (dA ddX8_reach (i := 51) rfl) rfl (iinc1 _) (by decide) rfl ?_
              refine x_goto (pc := 92) (tgt := 55) cx (dA ddX8_reach (i := 52) rfl) (by decide) ?_
              have L := ih (by omega)
              rw [e9] at L
              exact x_enter L ⟨.inr rfl, .inr rfl, .inr rfl, .inr rfl, .inr rfl, trivial⟩
        exact x_enter (L55 0 (Nat.zero_le _)) ⟨.inr rfl, .inr rfl, .inr rfl, .inr rfl, .inr rfl, trivial⟩
      · refine x_iload (pc := 40) cx (dA ddX8_reach (i := 21) rfl) rfl ?_
        refine x_ireturn (pc := 42) cx (dA ddX8_reach (i := 22) rfl) (by first | exact Nat.le_of_ble_eq_true rfl | omega) (by first | exact Nat.le_of_ble_eq_true rfl | omega) ?_
        rcases hx with ⟨e, -⟩ | ⟨rfl, e, rfl⟩ | ⟨rfl, ⟨q, e⟩, rfl⟩
        · exact absurd e c37
        · exact pMI.r hRM (by decide) (by unfold fReach; rw [if_pos ⟨ch, cl, cr⟩]; exact byI_n ((shX_at hr).trans e))
        · exact pMI.r hRM (by decide) (by unfold fReach; rw [if_pos ⟨ch, cl, cr⟩]; exact byI_r ((shX_at hr).trans e))
    · have c18 := b2i_eq c18
      refine x_aload_n (pc := 21) cx (dA ddX8_reach (i := 11) rfl) rfl ?_
      refine x_bipush (pc := 22) (v := -2) cx (dA ddX8_reach (i := 12) rfl) (by decide) ?_
      refine x_V1 (pc := 24) mX8_119 h0 (c_X8_refuse hM (i := 0) (by decide) rfl) cx (dA ddX8_reach (i := 13) rfl) (kI ?_)
      refine x_ireturn (pc := 27) cx (dA ddX8_reach (i := 14) rfl) (by first | exact Nat.le_of_ble_eq_true rfl | omega) (by first | exact Nat.le_of_ble_eq_true rfl | omega) ?_
      first | exact pMI.r hRM (by decide) (if_neg (fun q => by have z := q.2.2; exact c18 ⟨z.1, by have := z.2; omega⟩))
theorem c_X8_held {l : Launch} {Z : zP} {G : zG} {V : zV} {y : Nat} {zk : Option Nat} {S : SX} (hRM : RM Z G V y zk S) {h k r : Int32} : CT l Z yX8_held cX8_held 5 (some .long) 7 0 0 [.ref y, .int h, .int k, .int r] G V (pMJ Z G V y zk (fHeld S h k r)) := by
  refine CT.of (by decide +kernel) (Nat.le_of_ble_eq_true rfl) (fun X hX cx => ?_)
  subst hX
  show Wm Z X 5 G V 0 0 _ 0 [(0, some (.ref y)), (1, some (.int h)), (2, some (.int k)), (3, some (.int r))] []
  have hM := hRM.1
  have h0 := hM.1
  have hc := hRM.2.2.1.1
  have c6 := hRM.2.2.1.2.1
  have hmu := hRM.2.2.2.2.2.2.1
  refine x_aload_n (pc := 0) cx (dA ddX8_held (i := 0) rfl) rfl ?_
  refine x_iload_n (pc := 1) cx (dA ddX8_held (i := 1) rfl) rfl ?_
  refine x_V1 (pc := 2) mX8_106 h0 (c_X8_isHouse hM hc c6) cx (dA ddX8_held (i := 2) rfl) (kI ?_)
  refine x_if_eq (pc := 5) (tgt := 37) cx (dA ddX8_held (i := 3) rfl) (by decide) (fun c5 => ?_) (fun c5 => ?_)
  · have c5 : ¬ okc S h := b2i_eq c5
    refine x_aload_n (pc := 37) cx (dA ddX8_held (i := 21) rfl) rfl ?_
    refine x_bipush (pc := 38) (v := -2) cx (dA ddX8_held (i := 22) rfl) (by decide) ?_
    refine x_V1 (pc := 40) mX8_119 h0 (c_X8_refuse hM (i := 0) (by decide) rfl) cx (dA ddX8_held (i := 23) rfl) (kI ?_)
    refine x_i2l (pc := 43) cx (dA ddX8_held (i := 24) rfl) ?_
    refine x_lreturn (pc := 44) cx (dA ddX8_held (i := 25) rfl) (by first | exact Nat.le_of_ble_eq_true rfl | omega) (by first | exact Nat.le_of_ble_eq_true rfl | omega) ?_
    first | exact pMJ.r hRM (by decide) (if_neg (fun q => c5 q.1))
  · have ch : okc S h := b2i_ne c5
    obtain ⟨i, hi, rfl, ti⟩ := i32_in ch
    obtain ⟨hR, hN⟩ := hRM.2.2.1.2.2.1 i hi
    have hB := hN.1
    have b4 := hB.1
    have n125 := st125 b4
    have h06 := hN.2.1
    have hh : i < 8 := by omega
    refine x_iload_n (pc := 8) cx (dA ddX8_held (i := 4) rfl) rfl ?_
    refine x_i2l (pc := 9) cx (dA ddX8_held (i := 5) rfl) ?_
    refine x_lconst (pc := 10) (v := lN 0) cx (dA ddX8_held (i := 6) rfl) rfl ?_
    refine x_aload_n (pc := 11) cx (dA ddX8_held (i := 7) rfl) rfl ?_
    refine x_iload_n (pc := 12) cx (dA ddX8_held (i := 8) rfl) rfl ?_
    refine x_V1 (pc := 13) mX8_98 h0 (c_X8_sorts hM hh hR hB) cx (dA ddX8_held (i := 9) rfl) (kI ?_)
    refine x_iconst (pc := 16) (v := nI 1) cx (dA ddX8_held (i := 10) rfl) (by decide) ?_
    refine x_isub (pc := 17) cx (dA ddX8_held (i := 11) rfl) ?_
    refine x_i2l (pc := 18) cx (dA ddX8_held (i := 12) rfl) ?_
    refine x_S3 (pc := 19) mX8_94 c_X8_in cx (dA ddX8_held (i := 13) rfl) (kI ?_)
    rw [l0_toInt, tl_toInt, tl_toInt, sub1_toInt (by omega)]
    refine x_if_eq (pc := 22) (tgt := 37) cx (dA ddX8_held (i := 14) rfl) (by decide) (fun c22 => ?_) (fun c22 => ?_)
    · have c22 := b2i_eq c22
      refine x_aload_n (pc := 37) cx (dA ddX8_held (i := 21) rfl) rfl ?_
      refine x_bipush (pc := 38) (v := -2) cx (dA ddX8_held (i := 22) rfl) (by decide) ?_
      refine x_V1 (pc := 40) mX8_119 h0 (c_X8_refuse hM (i := 0) (by decide) rfl) cx (dA ddX8_held (i := 23) rfl) (kI ?_)
      refine x_i2l (pc := 43) cx (dA ddX8_held (i := 24) rfl) ?_
      refine x_lreturn (pc := 44) cx (dA ddX8_held (i := 25) rfl) (by first | exact Nat.le_of_ble_eq_true rfl | omega) (by first | exact Nat.le_of_ble_eq_true rfl | omega) ?_
      first | exact pMJ.r hRM (by decide) (if_neg (fun q => by have z := q.2.1; rw [hX_at hh] at z; exact c22 ⟨z.1, by have := z.2; omega⟩))
    · have c22 := b2i_ne c22
      obtain ⟨k, hk, rfl, tk⟩ := i32_in (x := k) (n := S.1.2.1 i 4) ⟨c22.1, by have := c22.2; omega⟩
      have eX : hX S (nI i) = S.1.2.1 i := hX_at hh
      have ck : okk (hX S (nI i)) (nI k) := by rw [eX]; exact ⟨c22.1, by have := c22.2; omega⟩
      refine x_iload_n (pc := 25) cx (dA ddX8_held (i := 15) rfl) rfl ?_
      refine x_i2l (pc := 26) cx (dA ddX8_held (i := 16) rfl) ?_
      refine x_lconst (pc := 27) (v := lN 0) cx (dA ddX8_held (i := 17) rfl) rfl ?_
      refine x_ldc2 (pc := 28) cx klX8_113 (dA ddX8_held (i := 18) rfl) ?_
      refine x_S3 (pc := 31) mX8_94 c_X8_in cx (dA ddX8_held (i := 19) rfl) (kI ?_)
      rw [l0_toInt, tl_toInt, show (lN 7).toInt = 7 from rfl]
      refine x_if_ne (pc := 34) (tgt := 45) cx (dA ddX8_held (i := 20) rfl) (by decide) (fun c34 => ?_) (fun c34 => ?_)
      · have cr := b2i_ne c34
        obtain ⟨r, hr, rfl, tr⟩ := i32_in (x := r) (n := 8) ⟨cr.1, by have := cr.2; omega⟩
        have cr : oks (nI r) := ⟨cr.1, by have := cr.2; omega⟩
        refine x_aload_n (pc := 45) cx (dA ddX8_held (i := 26) rfl) rfl ?_
        refine x_iload_n (pc := 46) cx (dA ddX8_held (i := 27) rfl) rfl ?_
        refine x_V1 (pc := 47) mX8_271 h0 (c_X8_noRule hRM hr) cx (dA ddX8_held (i := 28) rfl) (kE fun x V2 hx => ?_)
        refine x_istore (pc := 50) cx (dA ddX8_held (i := 29) rfl) (by decide) rfl ?_
        refine x_iload (pc := 52) cx (dA ddX8_held (i := 30) rfl) rfl ?_
        refine x_if_eq (pc := 54) (tgt := 63) cx (dA ddX8_held (i := 31) rfl) (by decide) (fun c54 => ?_) (fun c54 => ?_)
        · obtain ⟨-, eV, q, hq⟩ := hx.resolve_right (fun h => by rcases h with ⟨e, -⟩ | ⟨e, -⟩ <;> rw [e] at c54 <;> exact absurd c54 (by decide))
          have eV := eV.symm
          subst eV
          have hR5 := ((hRM.2.2.2.1 r hr).2.2 q hq).2.1
          have hs : shX S (nI r) = some (.inr q) := (shX_at hr).trans hq
          refine x_aload_n (pc := 63) cx (dA ddX8_held (i := 35) rfl) rfl ?_
          refine x_iload_n (pc := 64) cx (dA ddX8_held (i := 36) rfl) rfl ?_
          refine x_iload_n (pc := 65) cx (dA ddX8_held (i := 37) rfl) rfl ?_
          refine x_iload_n (pc := 66) cx (dA ddX8_held (i := 38) rfl) rfl ?_
          refine x_V3 (pc := 67) mX8_300 h0 (c_X8_meanOf_k hM hh hR hB hN hmu (r := r) (by omega) hR5 hk) cx (dA ddX8_held (i := 39) rfl) (kJx fun V2 hF => ?_)
          refine x_lreturn (pc := 70) cx (dA ddX8_held (i := 40) rfl) (by first | exact Nat.le_of_ble_eq_true rfl | omega) (by first | exact Nat.le_of_ble_eq_true rfl | omega) ?_
          exact pMJ.q hRM hF (by unfold fHeld; rw [if_pos ⟨ch, ck, cr⟩, byJ_q hs]; simp only [hX, ti, tk]; rfl)
        · refine x_iload (pc := 57) cx (dA ddX8_held (i := 32) rfl) rfl ?_
          refine x_i2l (pc := 59) cx (dA ddX8_held (i := 33) rfl) ?_
          refine x_goto (pc := 60) (tgt := 70) cx (dA ddX8_held (i := 34) rfl) (by decide) ?_
          refine x_lreturn (pc := 70) cx (dA ddX8_held (i := 40) rfl) (by first | exact Nat.le_of_ble_eq_true rfl | omega) (by first | exact Nat.le_of_ble_eq_true rfl | omega) ?_
          rcases hx with ⟨e, -⟩ | ⟨rfl, e, rfl⟩ | ⟨rfl, ⟨q, e⟩, rfl⟩
          · exact absurd e c54
          · exact pMJ.r hRM (by decide) (by unfold fHeld; rw [if_pos ⟨ch, ck, cr⟩]; exact byJ_n ((shX_at hr).trans e))
          · exact pMJ.r hRM (by decide) (by unfold fHeld; rw [if_pos ⟨ch, ck, cr⟩]; exact byJ_r ((shX_at hr).trans e))
      · have c34 := b2i_eq c34
        refine x_aload_n (pc := 37) cx (dA ddX8_held (i := 21) rfl) rfl ?_
        refine x_bipush (pc := 38) (v := -2) cx (dA ddX8_held (i := 22) rfl) (by decide) ?_
        refine x_V1 (pc := 40) mX8_119 h0 (c_X8_refuse hM (i := 0) (by decide) rfl) cx (dA ddX8_held (i := 23) rfl) (kI ?_)
        refine x_i2l (pc := 43) cx (dA ddX8_held (i := 24) rfl) ?_
        refine x_lreturn (pc := 44) cx (dA ddX8_held (i := 25) rfl) (by first | exact Nat.le_of_ble_eq_true rfl | omega) (by first | exact Nat.le_of_ble_eq_true rfl | omega) ?_
        first | exact pMJ.r hRM (by decide) (if_neg (fun q => by have z := q.2.2; exact c34 ⟨z.1, by have := z.2; omega⟩))
theorem c_X8_boxes {l : Launch} {Z : zP} {G : zG} {V : zV} {y : Nat} {zk : Option Nat} {S : SX} (hRM : RM Z G V y zk S) {h r : Int32} : CT l Z yX8_boxes cX8_boxes 4 (some .long) 7 0 0 [.ref y, .int h, .int r] G V (pMJ Z G V y zk (fBoxes S h r)) := by
  refine CT.of (by decide +kernel) (Nat.le_of_ble_eq_true rfl) (fun X hX cx => ?_)
  subst hX
  show Wm Z X 4 G V 0 0 _ 0 [(0, some (.ref y)), (1, some (.int h)), (2, some (.int r))] []
  have hM := hRM.1
  have h0 := hM.1
  have hc := hRM.2.2.1.1
  have c6 := hRM.2.2.1.2.1
  have hmu := hRM.2.2.2.2.2.2.1
  refine x_aload_n (pc := 0) cx (dA ddX8_boxes (i := 0) rfl) rfl ?_
  refine x_iload_n (pc := 1) cx (dA ddX8_boxes (i := 1) rfl) rfl ?_
  refine x_V1 (pc := 2) mX8_106 h0 (c_X8_isHouse hM hc c6) cx (dA ddX8_boxes (i := 2) rfl) (kI ?_)
  refine x_if_eq (pc := 5) (tgt := 20) cx (dA ddX8_boxes (i := 3) rfl) (by decide) (fun c5 => ?_) (fun c5 => ?_)
  · have c5 : ¬ okc S h := b2i_eq c5
    refine x_aload_n (pc := 20) cx (dA ddX8_boxes (i := 10) rfl) rfl ?_
    refine x_bipush (pc := 21) (v := -2) cx (dA ddX8_boxes (i := 11) rfl) (by decide) ?_
    refine x_V1 (pc := 23) mX8_119 h0 (c_X8_refuse hM (i := 0) (by decide) rfl) cx (dA ddX8_boxes (i := 12) rfl) (kI ?_)
    refine x_i2l (pc := 26) cx (dA ddX8_boxes (i := 13) rfl) ?_
    refine x_lreturn (pc := 27) cx (dA ddX8_boxes (i := 14) rfl) (by first | exact Nat.le_of_ble_eq_true rfl | omega) (by first | exact Nat.le_of_ble_eq_true rfl | omega) ?_
    first | exact pMJ.r hRM (by decide) (if_neg (fun q => c5 q.1))
  · have ch : okc S h := b2i_ne c5
    obtain ⟨i, hi, rfl, ti⟩ := i32_in ch
    obtain ⟨hR, hN⟩ := hRM.2.2.1.2.2.1 i hi
    have hB := hN.1
    have b4 := hB.1
    have n125 := st125 b4
    have h06 := hN.2.1
    have hh : i < 8 := by omega
    refine x_iload_n (pc := 8) cx (dA ddX8_boxes (i := 4) rfl) rfl ?_
    refine x_i2l (pc := 9) cx (dA ddX8_boxes (i := 5) rfl) ?_
    refine x_lconst (pc := 10) (v := lN 0) cx (dA ddX8_boxes (i := 6) rfl) rfl ?_
    refine x_ldc2 (pc := 11) cx klX8_113 (dA ddX8_boxes (i := 7) rfl) ?_
    refine x_S3 (pc := 14) mX8_94 c_X8_in cx (dA ddX8_boxes (i := 8) rfl) (kI ?_)
    rw [l0_toInt, tl_toInt, show (lN 7).toInt = 7 from rfl]
    refine x_if_ne (pc := 17) (tgt := 28) cx (dA ddX8_boxes (i := 9) rfl) (by decide) (fun c17 => ?_) (fun c17 => ?_)
    · have cr := b2i_ne c17
      obtain ⟨r, hr, rfl, tr⟩ := i32_in (x := r) (n := 8) ⟨cr.1, by have := cr.2; omega⟩
      have cr : oks (nI r) := ⟨cr.1, by have := cr.2; omega⟩
      refine x_aload_n (pc := 28) cx (dA ddX8_boxes (i := 15) rfl) rfl ?_
      refine x_iload_n (pc := 29) cx (dA ddX8_boxes (i := 16) rfl) rfl ?_
      refine x_V1 (pc := 30) mX8_271 h0 (c_X8_noRule hRM hr) cx (dA ddX8_boxes (i := 17) rfl) (kE fun x V2 hx => ?_)
      refine x_istore_n (pc := 33) cx (dA ddX8_boxes (i := 18) rfl) (by decide) rfl ?_
      refine x_iload_n (pc := 34) cx (dA ddX8_boxes (i := 19) rfl) rfl ?_
      refine x_if_eq (pc := 35) (tgt := 43) cx (dA ddX8_boxes (i := 20) rfl) (by decide) (fun c35 => ?_) (fun c35 => ?_)
      · obtain ⟨-, eV, q, hq⟩ := hx.resolve_right (fun h => by rcases h with ⟨e, -⟩ | ⟨e, -⟩ <;> rw [e] at c35 <;> exact absurd c35 (by decide))
        have eV := eV.symm
        subst eV
        have hR5 := ((hRM.2.2.2.1 r hr).2.2 q hq).2.1
        have hs : shX S (nI r) = some (.inr q) := (shX_at hr).trans hq
        refine x_aload_n (pc := 43) cx (dA ddX8_boxes (i := 24) rfl) rfl ?_
        refine x_iload_n (pc := 44) cx (dA ddX8_boxes (i := 25) rfl) rfl ?_
        refine x_iconst (pc := 45) (v := -1) cx (dA ddX8_boxes (i := 26) rfl) (by decide) ?_
        refine x_iload_n (pc := 46) cx (dA ddX8_boxes (i := 27) rfl) rfl ?_
        refine x_V3 (pc := 47) mX8_300 h0 (c_X8_meanOf_b hM hh hR hB hN hmu (r := r) (by omega) hR5) cx (dA ddX8_boxes (i := 28) rfl) (kJx fun V2 hF => ?_)
        refine x_lreturn (pc := 50) cx (dA ddX8_boxes (i := 29) rfl) (by first | exact Nat.le_of_ble_eq_true rfl | omega) (by first | exact Nat.le_of_ble_eq_true rfl | omega) ?_
        exact pMJ.q hRM hF (by unfold fBoxes; rw [if_pos ⟨ch, cr⟩, byJ_q hs]; simp only [hX, ti]; rfl)
      · refine x_iload_n (pc := 38) cx (dA ddX8_boxes (i := 21) rfl) rfl ?_
        refine x_i2l (pc := 39) cx (dA ddX8_boxes (i := 22) rfl) ?_
        refine x_goto (pc := 40) (tgt := 50) cx (dA ddX8_boxes (i := 23) rfl) (by decide) ?_
        refine x_lreturn (pc := 50) cx (dA ddX8_boxes (i := 29) rfl) (by first | exact Nat.le_of_ble_eq_true rfl | omega) (by first | exact Nat.le_of_ble_eq_true rfl | omega) ?_
        rcases hx with ⟨e, -⟩ | ⟨rfl, e, rfl⟩ | ⟨rfl, ⟨q, e⟩, rfl⟩
        · exact absurd e c35
        · exact pMJ.r hRM (by decide) (by unfold fBoxes; rw [if_pos ⟨ch, cr⟩]; exact byJ_n ((shX_at hr).trans e))
        · exact pMJ.r hRM (by decide) (by unfold fBoxes; rw [if_pos ⟨ch, cr⟩]; exact byJ_r ((shX_at hr).trans e))
    · have c17 := b2i_eq c17
      refine x_aload_n (pc := 20) cx (dA ddX8_boxes (i := 10) rfl) rfl ?_
      refine x_bipush (pc := 21) (v := -2) cx (dA ddX8_boxes (i := 11) rfl) (by decide) ?_
      refine x_V1 (pc := 23) mX8_119 h0 (c_X8_refuse hM (i := 0) (by decide) rfl) cx (dA ddX8_boxes (i := 12) rfl) (kI ?_)
      refine x_i2l (pc := 26) cx (dA ddX8_boxes (i := 13) rfl) ?_
      refine x_lreturn (pc := 27) cx (dA ddX8_boxes (i := 14) rfl) (by first | exact Nat.le_of_ble_eq_true rfl | omega) (by first | exact Nat.le_of_ble_eq_true rfl | omega) ?_
      first | exact pMJ.r hRM (by decide) (if_neg (fun q => by have z := q.2; exact c17 ⟨z.1, by have := z.2; omega⟩))
theorem c_X8_plain {l : Launch} {Z : zP} {G : zG} {V : zV} {y : Nat} {zk : Option Nat} {S : SX} (hRM : RM Z G V y zk S) {h : Int32} : CT l Z yX8_plain cX8_plain 2 (some .int) 5 0 0 [.ref y, .int h] G V (pMI Z G V y zk (fPlain S h)) := by
  refine CT.of (by decide +kernel) (Nat.le_of_ble_eq_true rfl) (fun X hX cx => ?_)
  subst hX
  show Wm Z X 2 G V 0 0 _ 0 [(0, some (.ref y)), (1, some (.int h))] []
  have hM := hRM.1
  have h0 := hM.1
  have hc := hRM.2.2.1.1
  have c6 := hRM.2.2.1.2.1
  have hmu := hRM.2.2.2.2.2.2.1
  refine x_aload_n (pc := 0) cx (dA ddX8_plain (i := 0) rfl) rfl ?_
  refine x_iload_n (pc := 1) cx (dA ddX8_plain (i := 1) rfl) rfl ?_
  refine x_V1 (pc := 2) mX8_106 h0 (c_X8_isHouse hM hc c6) cx (dA ddX8_plain (i := 2) rfl) (kI ?_)
  refine x_if_eq (pc := 5) (tgt := 20) cx (dA ddX8_plain (i := 3) rfl) (by decide) (fun c5 => ?_) (fun c5 => ?_)
  · have c5 : ¬ okc S h := b2i_eq c5
    refine x_aload_n (pc := 20) cx (dA ddX8_plain (i := 11) rfl) rfl ?_
    refine x_bipush (pc := 21) (v := -2) cx (dA ddX8_plain (i := 12) rfl) (by decide) ?_
    refine x_V1 (pc := 23) mX8_119 h0 (c_X8_refuse hM (i := 0) (by decide) rfl) cx (dA ddX8_plain (i := 13) rfl) (kI ?_)
    refine x_ireturn (pc := 26) cx (dA ddX8_plain (i := 14) rfl) (by first | exact Nat.le_of_ble_eq_true rfl | omega) (by first | exact Nat.le_of_ble_eq_true rfl | omega) ?_
    first | exact pMI.r hRM (by decide) (if_neg (fun q => c5 q))
  · have ch : okc S h := b2i_ne c5
    obtain ⟨i, hi, rfl, ti⟩ := i32_in ch
    obtain ⟨hR, hN⟩ := hRM.2.2.1.2.2.1 i hi
    have hB := hN.1
    have b4 := hB.1
    have n125 := st125 b4
    have h06 := hN.2.1
    have hh : i < 8 := by omega
    refine x_aload_n (pc := 8) cx (dA ddX8_plain (i := 4) rfl) rfl ?_
    refine x_iload_n (pc := 9) cx (dA ddX8_plain (i := 5) rfl) rfl ?_
    refine x_iconst (pc := 10) (v := nI 1) cx (dA ddX8_plain (i := 6) rfl) (by decide) ?_
    refine x_iconst (pc := 11) (v := nI 0) cx (dA ddX8_plain (i := 7) rfl) (by decide) ?_
    refine x_bipush (pc := 12) (v := nI 99) cx (dA ddX8_plain (i := 8) rfl) (by decide) ?_
    refine x_V4 (pc := 14) mX8_307 h0 (c_X8_leastOf_1 hM hh hR hB hN) cx (dA ddX8_plain (i := 9) rfl) (kIx fun V2 hF => ?_)
    refine x_goto (pc := 17) (tgt := 26) cx (dA ddX8_plain (i := 10) rfl) (by decide) ?_
    refine x_ireturn (pc := 26) cx (dA ddX8_plain (i := 14) rfl) (by first | exact Nat.le_of_ble_eq_true rfl | omega) (by first | exact Nat.le_of_ble_eq_true rfl | omega) ?_
    exact pMI.q hRM hF (by unfold fPlain; rw [if_pos ch]; simp only [hX, ti])
theorem c_X8_every {l : Launch} {Z : zP} {G : zG} {V : zV} {y : Nat} {zk : Option Nat} {S : SX} (hRM : RM Z G V y zk S) {h : Int32} : CT l Z yX8_every cX8_every 2 (some .int) 5 0 0 [.ref y, .int h] G V (pMI Z G V y zk (fEvery S h)) := by
  refine CT.of (by decide +kernel) (Nat.le_of_ble_eq_true rfl) (fun X hX cx => ?_)
  subst hX
  show Wm Z X 2 G V 0 0 _ 0 [(0, some (.ref y)), (1, some (.int h))] []
  have hM := hRM.1
  have h0 := hM.1
  have hc := hRM.2.2.1.1
  have c6 := hRM.2.2.1.2.1
  have hmu := hRM.2.2.2.2.2.2.1
  refine x_aload_n (pc := 0) cx (dA ddX8_every (i := 0) rfl) rfl ?_
  refine x_iload_n (pc := 1) cx (dA ddX8_every (i := 1) rfl) rfl ?_
  refine x_V1 (pc := 2) mX8_106 h0 (c_X8_isHouse hM hc c6) cx (dA ddX8_every (i := 2) rfl) (kI ?_)
  refine x_if_eq (pc := 5) (tgt := 20) cx (dA ddX8_every (i := 3) rfl) (by decide) (fun c5 => ?_) (fun c5 => ?_)
  · have c5 : ¬ okc S h := b2i_eq c5
    refine x_aload_n (pc := 20) cx (dA ddX8_every (i := 11) rfl) rfl ?_
    refine x_bipush (pc := 21) (v := -2) cx (dA ddX8_every (i := 12) rfl) (by decide) ?_
    refine x_V1 (pc := 23) mX8_119 h0 (c_X8_refuse hM (i := 0) (by decide) rfl) cx (dA ddX8_every (i := 13) rfl) (kI ?_)
    refine x_ireturn (pc := 26) cx (dA ddX8_every (i := 14) rfl) (by first | exact Nat.le_of_ble_eq_true rfl | omega) (by first | exact Nat.le_of_ble_eq_true rfl | omega) ?_
    first | exact pMI.r hRM (by decide) (if_neg (fun q => c5 q))
  · have ch : okc S h := b2i_ne c5
    obtain ⟨i, hi, rfl, ti⟩ := i32_in ch
    obtain ⟨hR, hN⟩ := hRM.2.2.1.2.2.1 i hi
    have hB := hN.1
    have b4 := hB.1
    have n125 := st125 b4
    have h06 := hN.2.1
    have hh : i < 8 := by omega
    refine x_aload_n (pc := 8) cx (dA ddX8_every (i := 4) rfl) rfl ?_
    refine x_iload_n (pc := 9) cx (dA ddX8_every (i := 5) rfl) rfl ?_
    refine x_iconst (pc := 10) (v := nI 2) cx (dA ddX8_every (i := 6) rfl) (by decide) ?_
    refine x_iconst (pc := 11) (v := nI 1) cx (dA ddX8_every (i := 7) rfl) (by decide) ?_
    refine x_bipush (pc := 12) (v := nI 6) cx (dA ddX8_every (i := 8) rfl) (by decide) ?_
    refine x_V4 (pc := 14) mX8_307 h0 (c_X8_leastOf_2 hM hh hR hB hN) cx (dA ddX8_every (i := 9) rfl) (kIx fun V2 hF => ?_)
    refine x_goto (pc := 17) (tgt := 26) cx (dA ddX8_every (i := 10) rfl) (by decide) ?_
    refine x_ireturn (pc := 26) cx (dA ddX8_every (i := 14) rfl) (by first | exact Nat.le_of_ble_eq_true rfl | omega) (by first | exact Nat.le_of_ble_eq_true rfl | omega) ?_
    exact pMI.q hRM hF (by unfold fEvery; rw [if_pos ch]; simp only [hX, ti])
