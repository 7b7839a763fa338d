theorem usA_us {Z : zP} {G : zG} {V : zV} {x : Nat} {col : Nat → Nat} {S : SX} (h : RC Z G V x col S) : ∀ s, s ≤ 8 → usA G x s = usX S s
  | 0, _ => rfl
  | s + 1, hs => by
    have ih := usA_us h s (by omega)
    have g := h.2.2.2.2.2.2.2.1 s (by omega)
    show (if G.2.2.2 (x + 37) s = none ∧ G.2.2.2 (x + 38) s = none then usA G x s else usA G x s + 1) = (match S.2.2.2.1 s with | none => usX S s | some _ => usX S s + 1)
    rw [ih]
    rcases sh3 (S.2.2.2.1 s) with e | ⟨q, e⟩ | ⟨q, e⟩
    · rw [e, if_pos (g.1 e)]
    · obtain ⟨a, b, -⟩ := g.2.1 q e
      rw [e, if_neg (fun z => by rw [b] at z; cases z.1)]
    · obtain ⟨-, a, b, -⟩ := g.2.2 q e
      rw [e, if_neg (fun z => by rw [b] at z; cases z.2)]
theorem st12 {w : Int32} {j : Nat} (e : w - nI 12 = nI j) (hj : j < 5) : w.toInt = 12 + (j : Int) := by
  have h : w = nI j + nI 12 := by rw [← e]; exact (Int32.sub_add_cancel w (nI 12)).symm
  rw [h, nI_add, nI_toInt (by omega)]
  omega
theorem st12n {w : Int32} (h : 12 ≤ w.toInt ∧ w.toInt ≤ 16) (h2 : (w - nI 12).toInt < 0 ∨ 5 ≤ (w - nI 12).toInt) : False := by
  obtain ⟨j, hj, rfl, -⟩ := i32_in (x := w) (n := 17) (by omega)
  rw [nI_toInt (by omega)] at h
  rw [pk_sub (by omega), nI_toInt (by omega)] at h2
  omega
theorem c_X7_says {l : Launch} {Z : zP} {G : zG} {V : zV} {x : Nat} {col : Nat → Nat} {S : SX} (hRC : RC Z G V x col S) {r k : Int32} : CT l Z yX7_says cX7_says 4 (some .int) 8 0 0 [.ref x, .int r, .int k] G V (pCI Z G V x col (fSays S r k)) := by
  refine CT.of (by decide +kernel) (Nat.le_of_ble_eq_true rfl) (fun X hX cx => ?_)
  subst hX
  show Wm Z X 4 G V 0 0 _ 0 [(0, some (.ref x)), (1, some (.int r)), (2, some (.int k))] []
  have hQ := hRC.1
  have h0 := hQ.1
  have hWd := hRC.2.2.2.2.1
  have c6 := hWd.2.1
  have hO := RO.refl hRC
  refine x_iload_n (pc := 0) cx (dA ddX7_says (i := 0) rfl) rfl ?_
  refine x_S1 (pc := 1) mX7_70 c_X7_isShelf cx (dA ddX7_says (i := 1) rfl) (kI ?_)
  refine x_if_eq (pc := 4) (tgt := 16) cx (dA ddX7_says (i := 2) rfl) (by decide) (fun c4 => ?_) (fun c4 => ?_)
  · have cr := b2i_eq c4
    refine x_aload_n (pc := 16) cx (dA ddX7_says (i := 8) rfl) rfl ?_
    refine x_bipush (pc := 17) (v := -2) cx (dA ddX7_says (i := 9) rfl) (by decide) ?_
    refine x_V1 (pc := 19) mX7_74 h0 (c_X7_refuse hQ (i := 0) (by decide) rfl) cx (dA ddX7_says (i := 10) rfl) (kI ?_)
    refine x_ireturn (pc := 22) cx (dA ddX7_says (i := 11) rfl) (by first | exact Nat.le_of_ble_eq_true rfl | omega) (by first | exact Nat.le_of_ble_eq_true rfl | omega) ?_
    first | exact pCI.r hO (by decide) (if_neg (fun q => cr q.1)) | exact pCI.r hO (by decide) (if_neg (fun q => by have := q.2; omega))
  · have cr0 := b2i_ne c4
    obtain ⟨r, hr, rfl, tr⟩ := i32_in (x := r) (n := 8) cr0
    have cr : oks (nI r) := cr0
    refine x_iload_n (pc := 7) cx (dA ddX7_says (i := 3) rfl) rfl ?_
    refine x_if_lt (pc := 8) (tgt := 16) cx (dA ddX7_says (i := 4) rfl) (by decide) (fun c8 => ?_) (fun c8 => ?_)
    · rw [i32_lt, toI_0] at c8
      refine x_aload_n (pc := 16) cx (dA ddX7_says (i := 8) rfl) rfl ?_
      refine x_bipush (pc := 17) (v := -2) cx (dA ddX7_says (i := 9) rfl) (by decide) ?_
      refine x_V1 (pc := 19) mX7_74 h0 (c_X7_refuse hQ (i := 0) (by decide) rfl) cx (dA ddX7_says (i := 10) rfl) (kI ?_)
      refine x_ireturn (pc := 22) cx (dA ddX7_says (i := 11) rfl) (by first | exact Nat.le_of_ble_eq_true rfl | omega) (by first | exact Nat.le_of_ble_eq_true rfl | omega) ?_
      first | exact pCI.r hO (by decide) (if_neg (fun q => cr q.1)) | exact pCI.r hO (by decide) (if_neg (fun q => by have := q.2; omega))
    · rw [i32_lt, toI_0] at c8
      refine x_iload_n (pc := 11) cx (dA ddX7_says (i := 5) rfl) rfl ?_
      refine x_iconst (pc := 12) (v := nI 5) cx (dA ddX7_says (i := 6) rfl) (by decide) ?_
      refine x_icmp_le (pc := 13) (tgt := 23) cx (dA ddX7_says (i := 7) rfl) (by decide) (fun c13 => ?_) (fun c13 => ?_)
      · rw [i32_le, show (nI 5).toInt = 5 from rfl] at c13
        have ck : 0 ≤ k.toInt ∧ k.toInt ≤ 5 := by omega
        obtain ⟨k, hk, rfl, tk⟩ := i32_in (x := k) (n := 6) (by omega)
        refine x_aload_n (pc := 23) cx (dA ddX7_says (i := 12) rfl) rfl ?_
        refine x_iload_n (pc := 24) cx (dA ddX7_says (i := 13) rfl) rfl ?_
        rcases sh3 (S.2.2.2.1 r) with e | ⟨q, e⟩ | ⟨q, e⟩
        · obtain ⟨e7, e8⟩ := hO.1.sh0 hr e
          refine x_V1 (pc := 25) mX7_99 h0 (c_X7_ruleAt hQ) cx (dA ddX7_says (i := 14) rfl) (kR ?_)
          rw [e8, show va_rf none = .null from rfl]
          refine x_astore_nN (pc := 28) cx (dA ddX7_says (i := 15) rfl) (by decide) rfl ?_
          refine x_aload_nN (pc := 29) cx (dA ddX7_says (i := 16) rfl) rfl ?_
          refine x_ifnonnull_n (pc := 30) cx (dA ddX7_says (i := 17) rfl) ?_
          refine x_aload_n (pc := 33) cx (dA ddX7_says (i := 18) rfl) rfl ?_
          refine x_aload_n (pc := 34) cx (dA ddX7_says (i := 19) rfl) rfl ?_
          refine x_iload_n (pc := 35) cx (dA ddX7_says (i := 20) rfl) rfl ?_
          refine x_V1 (pc := 36) mX7_89 h0 (c_X7_lackOnShelf hQ) cx (dA ddX7_says (i := 21) rfl) (kI ?_)
          rw [if_pos ⟨e7, e8⟩]
          refine x_V1 (pc := 39) mX7_74 h0 (c_X7_refuse hQ (i := 2) (by decide) rfl) cx (dA ddX7_says (i := 22) rfl) (kI ?_)
          refine x_ireturn (pc := 42) cx (dA ddX7_says (i := 23) rfl) (by first | exact Nat.le_of_ble_eq_true rfl | omega) (by first | exact Nat.le_of_ble_eq_true rfl | omega) ?_
          exact pCI.r hO (by decide) (by unfold fSays; rw [if_pos ⟨cr, ck⟩, (shX_at hr).trans e])
        · obtain ⟨e8, a, e7, hRw, rT, t5, rE, -, -⟩ := hO.1.shl hr e
          refine x_V1 (pc := 25) mX7_99 h0 (c_X7_ruleAt hQ) cx (dA ddX7_says (i := 14) rfl) (kR ?_)
          rw [e8, show va_rf none = .null from rfl]
          refine x_astore_nN (pc := 28) cx (dA ddX7_says (i := 15) rfl) (by decide) rfl ?_
          refine x_aload_nN (pc := 29) cx (dA ddX7_says (i := 16) rfl) rfl ?_
          refine x_ifnonnull_n (pc := 30) cx (dA ddX7_says (i := 17) rfl) ?_
          refine x_aload_n (pc := 33) cx (dA ddX7_says (i := 18) rfl) rfl ?_
          refine x_aload_n (pc := 34) cx (dA ddX7_says (i := 19) rfl) rfl ?_
          refine x_iload_n (pc := 35) cx (dA ddX7_says (i := 20) rfl) rfl ?_
          refine x_V1 (pc := 36) mX7_89 h0 (c_X7_lackOnShelf hQ) cx (dA ddX7_says (i := 21) rfl) (kI ?_)
          rw [if_neg (fun z => by rw [e7] at z; cases z.1)]
          refine x_V1 (pc := 39) mX7_74 h0 (c_X7_refuse hQ (i := 1) (by decide) rfl) cx (dA ddX7_says (i := 22) rfl) (kI ?_)
          refine x_ireturn (pc := 42) cx (dA ddX7_says (i := 23) rfl) (by first | exact Nat.le_of_ble_eq_true rfl | omega) (by first | exact Nat.le_of_ble_eq_true rfl | omega) ?_
          exact pCI.r hO (by decide) (by unfold fSays; rw [if_pos ⟨cr, ck⟩, (shX_at hr).trans e])
        · obtain ⟨e7, a, e8, hR⟩ := hO.1.shr hr e
          refine x_V1 (pc := 25) mX7_99 h0 (c_X7_ruleAt hQ) cx (dA ddX7_says (i := 14) rfl) (kR ?_)
          rw [e8, show va_rf (some a) = .ref a from rfl]
          refine x_astore_n (pc := 28) cx (dA ddX7_says (i := 15) rfl) (by decide) rfl ?_
          refine x_aload_n (pc := 29) cx (dA ddX7_says (i := 16) rfl) rfl ?_
          refine x_ifnonnull_s (pc := 30) (tgt := 43) cx (dA ddX7_says (i := 17) rfl) (by decide) ?_
          refine x_aload_n (pc := 43) cx (dA ddX7_says (i := 24) rfl) rfl ?_
          refine x_iload_n (pc := 44) cx (dA ddX7_says (i := 25) rfl) rfl ?_
          refine x_V1 (pc := 45) mX7_128 hR.1.1 (c_X3_isOfKind hR.1 (w := k) hk) cx (dA ddX7_says (i := 26) rfl) (kI ?_)
          refine x_if_eq (pc := 48) (tgt := 59) cx (dA ddX7_says (i := 27) rfl) (by decide) (fun c48 => ?_) (fun c48 => ?_)
          · have cs := b2i_eq c48
            refine x_aload_n (pc := 59) cx (dA ddX7_says (i := 32) rfl) rfl ?_
            refine x_bipush (pc := 60) (v := -3) cx (dA ddX7_says (i := 33) rfl) (by decide) ?_
            refine x_V1 (pc := 62) mX7_74 h0 (c_X7_refuse hQ (i := 1) (by decide) rfl) cx (dA ddX7_says (i := 34) rfl) (kI ?_)
            refine x_ireturn (pc := 65) cx (dA ddX7_says (i := 35) rfl) (by first | exact Nat.le_of_ble_eq_true rfl | omega) (by first | exact Nat.le_of_ble_eq_true rfl | omega) ?_
            exact pCI.r hO (by decide) (by unfold fSays; rw [if_pos ⟨cr, ck⟩, (shX_at hr).trans e, tk]; exact if_neg cs)
          · have cs := b2i_ne c48
            refine x_aload_n (pc := 51) cx (dA ddX7_says (i := 28) rfl) rfl ?_
            refine x_iload_n (pc := 52) cx (dA ddX7_says (i := 29) rfl) rfl ?_
            refine x_V1 (pc := 53) mX7_131 hR.1.1 (c_X3_numberAs hR.1 (w := k) hk cs) cx (dA ddX7_says (i := 30) rfl) (kI ?_)
            refine x_goto (pc := 56) (tgt := 65) cx (dA ddX7_says (i := 31) rfl) (by decide) ?_
            refine x_ireturn (pc := 65) cx (dA ddX7_says (i := 35) rfl) (by first | exact Nat.le_of_ble_eq_true rfl | omega) (by first | exact Nat.le_of_ble_eq_true rfl | omega) ?_
            exact pCI.q hO (by unfold fSays; rw [if_pos ⟨cr, ck⟩, (shX_at hr).trans e, tk]; exact if_pos cs)
      · rw [i32_le, show (nI 5).toInt = 5 from rfl] at c13
        refine x_aload_n (pc := 16) cx (dA ddX7_says (i := 8) rfl) rfl ?_
        refine x_bipush (pc := 17) (v := -2) cx (dA ddX7_says (i := 9) rfl) (by decide) ?_
        refine x_V1 (pc := 19) mX7_74 h0 (c_X7_refuse hQ (i := 0) (by decide) rfl) cx (dA ddX7_says (i := 10) rfl) (kI ?_)
        refine x_ireturn (pc := 22) cx (dA ddX7_says (i := 11) rfl) (by first | exact Nat.le_of_ble_eq_true rfl | omega) (by first | exact Nat.le_of_ble_eq_true rfl | omega) ?_
        first | exact pCI.r hO (by decide) (if_neg (fun q => cr q.1)) | exact pCI.r hO (by decide) (if_neg (fun q => by have := q.2; omega))
theorem c_X7_holds {l : Launch} {Z : zP} {G : zG} {V : zV} {x : Nat} {col : Nat → Nat} {S : SX} (hRC : RC Z G V x col S) {r : Int32} : CT l Z yX7_holds cX7_holds 4 (some .int) 8 0 0 [.ref x, .int r] G V (pCI Z G V x col (fHolds S r)) := by
  refine CT.of (by decide +kernel) (Nat.le_of_ble_eq_true rfl) (fun X hX cx => ?_)
  subst hX
  show Wm Z X 4 G V 0 0 _ 0 [(0, some (.ref x)), (1, some (.int r))] []
  have hQ := hRC.1
  have h0 := hQ.1
  have hWd := hRC.2.2.2.2.1
  have c6 := hWd.2.1
  have hO := RO.refl hRC
  refine x_aload_n (pc := 0) cx (dA ddX7_holds (i := 0) rfl) rfl ?_
  refine x_iload_n (pc := 1) cx (dA ddX7_holds (i := 1) rfl) rfl ?_
  rcases (show ¬ oks r ∨ oks r from (Decidable.em (oks r)).symm) with cr | cr
  · have e7 : slA G (x + 37) r = none := if_neg cr
    have e8 : slA G (x + 38) r = none := if_neg cr
    refine x_V1 (pc := 2) mX7_85 h0 (c_X7_rowAt hQ) cx (dA ddX7_holds (i := 2) rfl) (kR ?_)
    rw [e7, show va_rf none = .null from rfl]
    refine x_astore_nN (pc := 5) cx (dA ddX7_holds (i := 3) rfl) (by decide) rfl ?_
    refine x_aload_nN (pc := 6) cx (dA ddX7_holds (i := 4) rfl) rfl ?_
    refine x_ifnull_n (pc := 7) (tgt := 15) cx (dA ddX7_holds (i := 5) rfl) (by decide) ?_
    refine x_aload_n (pc := 15) cx (dA ddX7_holds (i := 9) rfl) rfl ?_
    refine x_iload_n (pc := 16) cx (dA ddX7_holds (i := 10) rfl) rfl ?_
    refine x_V1 (pc := 17) mX7_99 h0 (c_X7_ruleAt hQ) cx (dA ddX7_holds (i := 11) rfl) (kR ?_)
    rw [e8, show va_rf none = .null from rfl]
    refine x_astore_nN (pc := 20) cx (dA ddX7_holds (i := 12) rfl) (by decide) rfl ?_
    refine x_aload_nN (pc := 21) cx (dA ddX7_holds (i := 13) rfl) rfl ?_
    refine x_ifnonnull_n (pc := 22) cx (dA ddX7_holds (i := 14) rfl) ?_
    refine x_iconst (pc := 25) (v := -1) cx (dA ddX7_holds (i := 15) rfl) (by decide) ?_
    refine x_goto (pc := 26) (tgt := 36) cx (dA ddX7_holds (i := 16) rfl) (by decide) ?_
    refine x_ireturn (pc := 36) cx (dA ddX7_holds (i := 21) rfl) (by first | exact Nat.le_of_ble_eq_true rfl | omega) (by first | exact Nat.le_of_ble_eq_true rfl | omega) ?_
    exact pCI.q hO (if_neg cr)
  · obtain ⟨r, hr, rfl, tr⟩ := i32_in (n := 8) cr
    rcases sh3 (S.2.2.2.1 r) with e | ⟨q, e⟩ | ⟨q, e⟩
    · obtain ⟨e7, e8⟩ := hO.1.sh0 hr e
      refine x_V1 (pc := 2) mX7_85 h0 (c_X7_rowAt hQ) cx (dA ddX7_holds (i := 2) rfl) (kR ?_)
      rw [e7, show va_rf none = .null from rfl]
      refine x_astore_nN (pc := 5) cx (dA ddX7_holds (i := 3) rfl) (by decide) rfl ?_
      refine x_aload_nN (pc := 6) cx (dA ddX7_holds (i := 4) rfl) rfl ?_
      refine x_ifnull_n (pc := 7) (tgt := 15) cx (dA ddX7_holds (i := 5) rfl) (by decide) ?_
      refine x_aload_n (pc := 15) cx (dA ddX7_holds (i := 9) rfl) rfl ?_
      refine x_iload_n (pc := 16) cx (dA ddX7_holds (i := 10) rfl) rfl ?_
      refine x_V1 (pc := 17) mX7_99 h0 (c_X7_ruleAt hQ) cx (dA ddX7_holds (i := 11) rfl) (kR ?_)
      rw [e8, show va_rf none = .null from rfl]
      refine x_astore_nN (pc := 20) cx (dA ddX7_holds (i := 12) rfl) (by decide) rfl ?_
      refine x_aload_nN (pc := 21) cx (dA ddX7_holds (i := 13) rfl) rfl ?_
      refine x_ifnonnull_n (pc := 22) cx (dA ddX7_holds (i := 14) rfl) ?_
      refine x_iconst (pc := 25) (v := -1) cx (dA ddX7_holds (i := 15) rfl) (by decide) ?_
      refine x_goto (pc := 26) (tgt := 36) cx (dA ddX7_holds (i := 16) rfl) (by decide) ?_
      refine x_ireturn (pc := 36) cx (dA ddX7_holds (i := 21) rfl) (by first | exact Nat.le_of_ble_eq_true rfl | omega) (by first | exact Nat.le_of_ble_eq_true rfl | omega) ?_
      exact pCI.q hO (by unfold fHolds; rw [if_pos cr, (shX_at hr).trans e])
    · obtain ⟨e8, a, e7, hRw, rT, t5, rE, -, -⟩ := hO.1.shl hr e
      refine x_V1 (pc := 2) mX7_85 h0 (c_X7_rowAt hQ) cx (dA ddX7_holds (i := 2) rfl) (kR ?_)
      rw [e7, show va_rf (some a) = .ref a from rfl]
      refine x_astore_n (pc := 5) cx (dA ddX7_holds (i := 3) rfl) (by decide) rfl ?_
      refine x_aload_n (pc := 6) cx (dA ddX7_holds (i := 4) rfl) rfl ?_
      refine x_ifnull_s (pc := 7) cx (dA ddX7_holds (i := 5) rfl) ?_
      refine x_aload_n (pc := 10) cx (dA ddX7_holds (i := 6) rfl) rfl ?_
      refine gX7_103 (pc := 11) (congrArg Value.int rT) cx (dA ddX7_holds (i := 7) rfl) hRw.1 ?_
      refine x_ireturn (pc := 14) cx (dA ddX7_holds (i := 8) rfl) (by first | exact Nat.le_of_ble_eq_true rfl | omega) (by first | exact Nat.le_of_ble_eq_true rfl | omega) ?_
      exact pCI.q hO (by unfold fHolds; rw [if_pos cr, (shX_at hr).trans e])
    · obtain ⟨e7, a, e8, hR⟩ := hO.1.shr hr e
      refine x_V1 (pc := 2) mX7_85 h0 (c_X7_rowAt hQ) cx (dA ddX7_holds (i := 2) rfl) (kR ?_)
      rw [e7, show va_rf none = .null from rfl]
      refine x_astore_nN (pc := 5) cx (dA ddX7_holds (i := 3) rfl) (by decide) rfl ?_
      refine x_aload_nN (pc := 6) cx (dA ddX7_holds (i := 4) rfl) rfl ?_
      refine x_ifnull_n (pc := 7) (tgt := 15) cx (dA ddX7_holds (i := 5) rfl) (by decide) ?_
      refine x_aload_n (pc := 15) cx (dA ddX7_holds (i := 9) rfl) rfl ?_
      refine x_iload_n (pc := 16) cx (dA ddX7_holds (i := 10) rfl) rfl ?_
      refine x_V1 (pc := 17) mX7_99 h0 (c_X7_ruleAt hQ) cx (dA ddX7_holds (i := 11) rfl) (kR ?_)
      rw [e8, show va_rf (some a) = .ref a from rfl]
      refine x_astore_n (pc := 20) cx (dA ddX7_holds (i := 12) rfl) (by decide) rfl ?_
      refine x_aload_n (pc := 21) cx (dA ddX7_holds (i := 13) rfl) rfl ?_
      refine x_ifnonnull_s (pc := 22) (tgt := 29) cx (dA ddX7_holds (i := 14) rfl) (by decide) ?_
      refine x_bipush (pc := 29) (v := nI 10) cx (dA ddX7_holds (i := 17) rfl) (by decide) ?_
      refine x_aload_n (pc := 31) cx (dA ddX7_holds (i := 18) rfl) rfl ?_
      refine gX7_119 (pc := 32) (congrArg Value.int hR.1.2.1) cx (dA ddX7_holds (i := 19) rfl) hR.1.1 ?_
      refine x_iadd (pc := 35) cx (dA ddX7_holds (i := 20) rfl) ?_
      rw [nI_add]
      refine x_ireturn (pc := 36) cx (dA ddX7_holds (i := 21) rfl) (by first | exact Nat.le_of_ble_eq_true rfl | omega) (by first | exact Nat.le_of_ble_eq_true rfl | omega) ?_
      exact pCI.q hO (by unfold fHolds; rw [if_pos cr, (shX_at hr).trans e])
theorem c_X7_element {l : Launch} {Z : zP} {G : zG} {V : zV} {x : Nat} {col : Nat → Nat} {S : SX} (hRC : RC Z G V x col S) {r i : Int32} : CT l Z yX7_element cX7_element 4 (some .long) 8 0 0 [.ref x, .int r, .int i] G V (pCJ Z G V x col (fElement S r i)) := by
  refine CT.of (by decide +kernel) (Nat.le_of_ble_eq_true rfl) (fun X hX cx => ?_)
  subst hX
  show Wm Z X 4 G V 0 0 _ 0 [(0, some (.ref x)), (1, some (.int r)), (2, some (.int i))] []
  have hQ := hRC.1
  have h0 := hQ.1
  have hWd := hRC.2.2.2.2.1
  have c6 := hWd.2.1
  have hO := RO.refl hRC
  refine x_aload_n (pc := 0) cx (dA ddX7_element (i := 0) rfl) rfl ?_
  refine x_iload_n (pc := 1) cx (dA ddX7_element (i := 1) rfl) rfl ?_
  rcases (show ¬ oks r ∨ oks r from (Decidable.em (oks r)).symm) with cr | cr
  · have e7 : slA G (x + 37) r = none := if_neg cr
    have e8 : slA G (x + 38) r = none := if_neg cr
    refine x_V1 (pc := 2) mX7_85 h0 (c_X7_rowAt hQ) cx (dA ddX7_element (i := 2) rfl) (kR ?_)
    rw [e7, show va_rf none = .null from rfl]
    refine x_astore_nN (pc := 5) cx (dA ddX7_element (i := 3) rfl) (by decide) rfl ?_
    refine x_aload_nN (pc := 6) cx (dA ddX7_element (i := 4) rfl) rfl ?_
    refine x_ifnonnull_n (pc := 7) cx (dA ddX7_element (i := 5) rfl) ?_
    refine x_lconst (pc := 10) (v := lN 0) cx (dA ddX7_element (i := 6) rfl) rfl ?_
    refine x_goto (pc := 11) (tgt := 19) cx (dA ddX7_element (i := 7) rfl) (by decide) ?_
    refine x_lreturn (pc := 19) cx (dA ddX7_element (i := 11) rfl) (by first | exact Nat.le_of_ble_eq_true rfl | omega) (by first | exact Nat.le_of_ble_eq_true rfl | omega) ?_
    exact pCJ.q hO (if_neg cr)
  · obtain ⟨r, hr, rfl, tr⟩ := i32_in (n := 8) cr
    rcases sh3 (S.2.2.2.1 r) with e | ⟨q, e⟩ | ⟨q, e⟩
    · obtain ⟨e7, e8⟩ := hO.1.sh0 hr e
      refine x_V1 (pc := 2) mX7_85 h0 (c_X7_rowAt hQ) cx (dA ddX7_element (i := 2) rfl) (kR ?_)
      rw [e7, show va_rf none = .null from rfl]
      refine x_astore_nN (pc := 5) cx (dA ddX7_element (i := 3) rfl) (by decide) rfl ?_
      refine x_aload_nN (pc := 6) cx (dA ddX7_element (i := 4) rfl) rfl ?_
      refine x_ifnonnull_n (pc := 7) cx (dA ddX7_element (i := 5) rfl) ?_
      refine x_lconst (pc := 10) (v := lN 0) cx (dA ddX7_element (i := 6) rfl) rfl ?_
      refine x_goto (pc := 11) (tgt := 19) cx (dA ddX7_element (i := 7) rfl) (by decide) ?_
      refine x_lreturn (pc := 19) cx (dA ddX7_element (i := 11) rfl) (by first | exact Nat.le_of_ble_eq_true rfl | omega) (by first | exact Nat.le_of_ble_eq_true rfl | omega) ?_
      exact pCJ.q hO (by unfold fElement; rw [if_pos cr, (shX_at hr).trans e])
    · obtain ⟨e8, a, e7, hRw, rT, t5, rE, -, -⟩ := hO.1.shl hr e
      refine x_V1 (pc := 2) mX7_85 h0 (c_X7_rowAt hQ) cx (dA ddX7_element (i := 2) rfl) (kR ?_)
      rw [e7, show va_rf (some a) = .ref a from rfl]
      refine x_astore_n (pc := 5) cx (dA ddX7_element (i := 3) rfl) (by decide) rfl ?_
      refine x_aload_n (pc := 6) cx (dA ddX7_element (i := 4) rfl) rfl ?_
      refine x_ifnonnull_s (pc := 7) (tgt := 14) cx (dA ddX7_element (i := 5) rfl) (by decide) ?_
      refine x_aload_n (pc := 14) cx (dA ddX7_element (i := 8) rfl) rfl ?_
      refine x_iload_n (pc := 15) cx (dA ddX7_element (i := 9) rfl) rfl ?_
      refine x_V1 (pc := 16) mX7_115 hRw.1 (c_X2_valueAt hRw (x := i)) cx (dA ddX7_element (i := 10) rfl) (kJ ?_)
      have m125 := hRw.2.2.2
      refine x_lreturn (pc := 19) cx (dA ddX7_element (i := 11) rfl) (by first | exact Nat.le_of_ble_eq_true rfl | omega) (by first | exact Nat.le_of_ble_eq_true rfl | omega) ?_
      refine pCJ.q hO (Eq.trans (by unfold fElement; rw [if_pos cr, (shX_at hr).trans e]) (show (if 0 ≤ i.toInt ∧ i.toInt < (q.2.1 : Int) then (q.2.2 (tn i), S) else (lN 0, S)) = _ from ?_))
      by_cases ci : 0 ≤ i.toInt ∧ i.toInt < (q.2.1 : Int)
      · rw [if_pos ci]
        obtain ⟨j, hj, rfl, tj⟩ := i32_in ci
        rw [tj, atL_in hj (by omega), rE j hj]
      · rw [if_neg ci, atL_out (by rw [i32_lt, i32_le, toI_0, nI_toInt (by omega)]; omega)]
        rfl
    · obtain ⟨e7, a, e8, hR⟩ := hO.1.shr hr e
      refine x_V1 (pc := 2) mX7_85 h0 (c_X7_rowAt hQ) cx (dA ddX7_element (i := 2) rfl) (kR ?_)
      rw [e7, show va_rf none = .null from rfl]
      refine x_astore_nN (pc := 5) cx (dA ddX7_element (i := 3) rfl) (by decide) rfl ?_
      refine x_aload_nN (pc := 6) cx (dA ddX7_element (i := 4) rfl) rfl ?_
      refine x_ifnonnull_n (pc := 7) cx (dA ddX7_element (i := 5) rfl) ?_
      refine x_lconst (pc := 10) (v := lN 0) cx (dA ddX7_element (i := 6) rfl) rfl ?_
      refine x_goto (pc := 11) (tgt := 19) cx (dA ddX7_element (i := 7) rfl) (by decide) ?_
      refine x_lreturn (pc := 19) cx (dA ddX7_element (i := 11) rfl) (by first | exact Nat.le_of_ble_eq_true rfl | omega) (by first | exact Nat.le_of_ble_eq_true rfl | omega) ?_
      exact pCJ.q hO (by unfold fElement; rw [if_pos cr, (shX_at hr).trans e])
theorem c_X7_week {l : Launch} {Z : zP} {G : zG} {V : zV} {x : Nat} {col : Nat → Nat} {S : SX} (hRC : RC Z G V x col S) {w : Int32} : CT l Z yX7_week cX7_week 2 (some .int) 8 0 0 [.ref x, .int w] G V (pCI Z G V x col (fWeek S w)) := by
  refine CT.of (by decide +kernel) (Nat.le_of_ble_eq_true rfl) (fun X hX cx => ?_)
  subst hX
  show Wm Z X 2 G V 0 0 _ 0 [(0, some (.ref x)), (1, some (.int w))] []
  have hQ := hRC.1
  have h0 := hQ.1
  have hWd := hRC.2.2.2.2.1
  have c6 := hWd.2.1
  have hO := RO.refl hRC
  have eW : S.1.2.2.2 = none ∨ ∃ ws, S.1.2.2.2 = some ws := by cases S.1.2.2.2 with | none => exact Or.inl rfl | some ws => exact Or.inr ⟨ws, rfl⟩
  refine x_iload_n (pc := 0) cx (dA ddX7_week (i := 0) rfl) rfl ?_
  refine x_if_lt (pc := 1) (tgt := 9) cx (dA ddX7_week (i := 1) rfl) (by decide) (fun c1 => ?_) (fun c1 => ?_)
  · rw [i32_lt, toI_0] at c1
    refine x_aload_n (pc := 9) cx (dA ddX7_week (i := 5) rfl) rfl ?_
    refine x_bipush (pc := 10) (v := -2) cx (dA ddX7_week (i := 6) rfl) (by decide) ?_
    refine x_V1 (pc := 12) mX7_74 h0 (c_X7_refuse hQ (i := 0) (by decide) rfl) cx (dA ddX7_week (i := 7) rfl) (kI ?_)
    refine x_ireturn (pc := 15) cx (dA ddX7_week (i := 8) rfl) (by first | exact Nat.le_of_ble_eq_true rfl | omega) (by first | exact Nat.le_of_ble_eq_true rfl | omega) ?_
    first | exact pCI.r hO (by decide) (if_neg (fun q => by have := q; omega))
  · rw [i32_lt, toI_0] at c1
    refine x_iload_n (pc := 4) cx (dA ddX7_week (i := 2) rfl) rfl ?_
    refine x_iconst (pc := 5) (v := nI 5) cx (dA ddX7_week (i := 3) rfl) (by decide) ?_
    refine x_icmp_le (pc := 6) (tgt := 16) cx (dA ddX7_week (i := 4) rfl) (by decide) (fun c6 => ?_) (fun c6 => ?_)
    · rw [i32_le, show (nI 5).toInt = 5 from rfl] at c6
      have cw : 0 ≤ w.toInt ∧ w.toInt ≤ 5 := by omega
      obtain ⟨w, hw, rfl, tw⟩ := i32_in (x := w) (n := 6) (by omega)
      have hWk := hQ.2.1.2.2.2.2.2.1
      refine x_aload_n (pc := 16) cx (dA ddX7_week (i := 9) rfl) rfl ?_
      refine gX7_10 (pc := 17) (rfA hQ.2.1.1) cx (dA ddX7_week (i := 10) rfl) h0 ?_
      refine gX7_307 (pc := 20) (rfA hQ.2.1.2.2.2.2.1) cx (dA ddX7_week (i := 11) rfl) hQ.2.1.2.1 ?_
      rcases eW with e | ⟨ws, e⟩
      · have e9 := hWd.2.2.2.2.1 e
        refine x_V0 (pc := 23) mX7_314 hWk.1 (c_X5_isUnderWay_n hWk e9) cx (dA ddX7_week (i := 12) rfl) (kI ?_)
        refine x_if_eq (pc := 26) (tgt := 43) cx (dA ddX7_week (i := 13) rfl) (by decide) (fun c26 => ?_) (fun c26 => absurd rfl c26)
        refine x_aload_n (pc := 43) cx (dA ddX7_week (i := 20) rfl) rfl ?_
        refine x_bipush (pc := 44) (v := -5) cx (dA ddX7_week (i := 21) rfl) (by decide) ?_
        refine x_V1 (pc := 46) mX7_74 h0 (c_X7_refuse hQ (i := 3) (by decide) rfl) cx (dA ddX7_week (i := 22) rfl) (kI ?_)
        refine x_ireturn (pc := 49) cx (dA ddX7_week (i := 23) rfl) (by first | exact Nat.le_of_ble_eq_true rfl | omega) (by first | exact Nat.le_of_ble_eq_true rfl | omega) ?_
        exact pCI.r hO (by decide) (by unfold fWeek; rw [if_pos cw, e])
      · obtain ⟨q, e9, -, -, -, -, hWV, -⟩ := hWd.2.2.2.2.2 ws e
        refine x_V0 (pc := 23) mX7_314 hWk.1 (c_X5_isUnderWay_s hWk e9) cx (dA ddX7_week (i := 12) rfl) (kI ?_)
        refine x_if_eq (pc := 26) (tgt := 43) cx (dA ddX7_week (i := 13) rfl) (by decide) (fun c26 => absurd c26 (by decide)) (fun c26 => ?_)
        refine x_aload_n (pc := 29) cx (dA ddX7_week (i := 14) rfl) rfl ?_
        refine gX7_10 (pc := 30) (rfA hQ.2.1.1) cx (dA ddX7_week (i := 15) rfl) h0 ?_
        refine gX7_307 (pc := 33) (rfA hQ.2.1.2.2.2.2.1) cx (dA ddX7_week (i := 16) rfl) hQ.2.1.2.1 ?_
        refine x_iload_n (pc := 36) cx (dA ddX7_week (i := 17) rfl) rfl ?_
        refine x_V1 (pc := 37) mX7_333 hWk.1 (c_X5_number hWk hWV (i := w) hw) cx (dA ddX7_week (i := 18) rfl) (kI ?_)
        refine x_goto (pc := 40) (tgt := 49) cx (dA ddX7_week (i := 19) rfl) (by decide) ?_
        refine x_ireturn (pc := 49) cx (dA ddX7_week (i := 23) rfl) (by first | exact Nat.le_of_ble_eq_true rfl | omega) (by first | exact Nat.le_of_ble_eq_true rfl | omega) ?_
        exact pCI.q hO (by unfold fWeek; rw [if_pos cw, e, tw])
    · rw [i32_le, show (nI 5).toInt = 5 from rfl] at c6
      refine x_aload_n (pc := 9) cx (dA ddX7_week (i := 5) rfl) rfl ?_
      refine x_bipush (pc := 10) (v := -2) cx (dA ddX7_week (i := 6) rfl) (by decide) ?_
      refine x_V1 (pc := 12) mX7_74 h0 (c_X7_refuse hQ (i := 0) (by decide) rfl) cx (dA ddX7_week (i := 7) rfl) (kI ?_)
      refine x_ireturn (pc := 15) cx (dA ddX7_week (i := 8) rfl) (by first | exact Nat.le_of_ble_eq_true rfl | omega) (by first | exact Nat.le_of_ble_eq_true rfl | omega) ?_
      first | exact pCI.r hO (by decide) (if_neg (fun q => by have := q; omega))
theorem c_X7_status {l : Launch} {Z : zP} {G : zG} {V : zV} {x : Nat} {col : Nat → Nat} {S : SX} (hRC : RC Z G V x col S) {w : Int32} : CT l Z yX7_status cX7_status 3 (some .int) 8 0 0 [.ref x, .int w] G V (pCI Z G V x col (fStatus S w)) := by
  refine CT.of (by decide +kernel) (Nat.le_of_ble_eq_true rfl) (fun X hX cx => ?_)
  subst hX
  show Wm Z X 3 G V 0 0 _ 0 [(0, some (.ref x)), (1, some (.int w))] []
  have hQ := hRC.1
  have h0 := hQ.1
  have hWd := hRC.2.2.2.2.1
  have c6 := hWd.2.1
  have hO := RO.refl hRC
  refine x_iload_n (pc := 0) cx (dA ddX7_status (i := 0) rfl) rfl ?_
  by_cases c1_0 : w = 0
  · refine x_tabIn (pc := 1) (v := 0) (tgt := 32) cx (dA ddX7_status (i := 1) rfl) (by rw [c1_0]; decide) (by decide) (by decide) rfl (by decide) ?_
    refine x_aload_n (pc := 32) cx (dA ddX7_status (i := 2) rfl) rfl ?_
    refine gX7_10 (pc := 33) (rfA hQ.2.1.1) cx (dA ddX7_status (i := 3) rfl) h0 ?_
    refine gX7_345 (pc := 36) (congrArg Value.int hWd.1) cx (dA ddX7_status (i := 4) rfl) hQ.2.1.2.1 ?_
    refine x_ireturn (pc := 39) cx (dA ddX7_status (i := 5) rfl) (by first | exact Nat.le_of_ble_eq_true rfl | omega) (by first | exact Nat.le_of_ble_eq_true rfl | omega) ?_
    exact pCI.q hO (by unfold fStatus; rw [if_pos (by rw [c1_0]; rfl)])
  by_cases c1_1 : w = 1
  · refine x_tabIn (pc := 1) (v := 1) (tgt := 40) cx (dA ddX7_status (i := 1) rfl) (by rw [c1_1]; decide) (by decide) (by decide) rfl (by decide) ?_
    refine x_aload_n (pc := 40) cx (dA ddX7_status (i := 6) rfl) rfl ?_
    refine gX7_22 (pc := 41) (rfA hQ.2.2.2.1.1) cx (dA ddX7_status (i := 7) rfl) h0 ?_
    refine gX7_348 (pc := 44) (congrArg Value.int hRC.2.2.2.2.2.2.1.1) cx (dA ddX7_status (i := 8) rfl) hQ.2.2.2.1.2.1 ?_
    refine x_ireturn (pc := 47) cx (dA ddX7_status (i := 9) rfl) (by first | exact Nat.le_of_ble_eq_true rfl | omega) (by first | exact Nat.le_of_ble_eq_true rfl | omega) ?_
    exact pCI.q hO (by unfold fStatus; rw [if_neg (show ¬ w.toInt = 0 by rw [c1_1]; decide), if_pos (by rw [c1_1]; rfl)])
  by_cases c1_2 : w = 2
  · refine x_tabIn (pc := 1) (v := 2) (tgt := 48) cx (dA ddX7_status (i := 1) rfl) (by rw [c1_2]; decide) (by decide) (by decide) rfl (by decide) ?_
    refine x_aload_n (pc := 48) cx (dA ddX7_status (i := 10) rfl) rfl ?_
    refine gX7_10 (pc := 49) (rfA hQ.2.1.1) cx (dA ddX7_status (i := 11) rfl) h0 ?_
    refine gX7_350 (pc := 52) (congrArg Value.int hWd.2.2.2.1) cx (dA ddX7_status (i := 12) rfl) hQ.2.1.2.1 ?_
    refine x_ireturn (pc := 55) cx (dA ddX7_status (i := 13) rfl) (by first | exact Nat.le_of_ble_eq_true rfl | omega) (by first | exact Nat.le_of_ble_eq_true rfl | omega) ?_
    exact pCI.q hO (by unfold fStatus; rw [if_neg (show ¬ w.toInt = 0 by rw [c1_2]; decide), if_neg (show ¬ w.toInt = 1 by rw [c1_2]; decide), if_pos (by rw [c1_2]; rfl)])
  by_cases c1_3 : w = 3
  · refine x_tabIn (pc := 1) (v := 3) (tgt := 56) cx (dA ddX7_status (i := 1) rfl) (by rw [c1_3]; decide) (by decide) (by decide) rfl (by decide) ?_
    refine x_aload_n (pc := 56) cx (dA ddX7_status (i := 14) rfl) rfl ?_
    refine x_V0 (pc := 57) mX7_353 h0 (c_X7_shelvesInUse hQ) cx (dA ddX7_status (i := 15) rfl) (kI ?_)
    refine x_ireturn (pc := 60) cx (dA ddX7_status (i := 16) rfl) (by first | exact Nat.le_of_ble_eq_true rfl | omega) (by first | exact Nat.le_of_ble_eq_true rfl | omega) ?_
    exact pCI.q hO (by unfold fStatus; rw [if_neg (show ¬ w.toInt = 0 by rw [c1_3]; decide), if_neg (show ¬ w.toInt = 1 by rw [c1_3]; decide), if_neg (show ¬ w.toInt = 2 by rw [c1_3]; decide), if_pos (by rw [c1_3]; rfl), usA_us hRC 8 (Nat.le_refl _)])
  refine x_tabOut (pc := 1) (tgt := 61) cx (dA ddX7_status (i := 1) rfl) (by have t0 := lv_neT (a := 0) c1_0 (by decide); have t1 := lv_neT (a := 1) c1_1 (by decide); have t2 := lv_neT (a := 2) c1_2 (by decide); have t3 := lv_neT (a := 3) c1_3 (by decide); omega) (by decide) ?_
  refine x_iload_n (pc := 61) cx (dA ddX7_status (i := 17) rfl) rfl ?_
  refine x_bipush (pc := 62) (v := nI 12) cx (dA ddX7_status (i := 18) rfl) (by decide) ?_
  refine x_isub (pc := 64) cx (dA ddX7_status (i := 19) rfl) ?_
  refine x_istore_n (pc := 65) cx (dA ddX7_status (i := 20) rfl) (by decide) rfl ?_
  refine x_iload_n (pc := 66) cx (dA ddX7_status (i := 21) rfl) rfl ?_
  refine x_if_lt (pc := 67) (tgt := 88) cx (dA ddX7_status (i := 22) rfl) (by decide) (fun c67 => ?_) (fun c67 => ?_)
  · rw [i32_lt, toI_0] at c67
    refine x_iconst (pc := 88) (v := -1) cx (dA ddX7_status (i := 33) rfl) (by decide) ?_
    refine x_ireturn (pc := 89) cx (dA ddX7_status (i := 34) rfl) (by first | exact Nat.le_of_ble_eq_true rfl | omega) (by first | exact Nat.le_of_ble_eq_true rfl | omega) ?_
    exact pCI.q hO (by unfold fStatus; rw [if_neg (lv_neT (a := 0) c1_0 (by decide)), if_neg (lv_neT (a := 1) c1_1 (by decide)), if_neg (lv_neT (a := 2) c1_2 (by decide)), if_neg (lv_neT (a := 3) c1_3 (by decide)), if_neg (fun q => st12n q (by omega))])
  · rw [i32_lt, toI_0] at c67
    refine x_iload_n (pc := 70) cx (dA ddX7_status (i := 23) rfl) rfl ?_
    refine x_aload_n (pc := 71) cx (dA ddX7_status (i := 24) rfl) rfl ?_
    refine gX7_38 (pc := 72) (rfA hQ.2.2.2.2.2.2.1.1) cx (dA ddX7_status (i := 25) rfl) h0 ?_
    refine x_alen (pc := 75) cx (dA ddX7_status (i := 26) rfl) hQ.2.2.2.2.2.2.1.2 (by decide) ?_
    refine x_icmp_ge (pc := 76) (tgt := 88) cx (dA ddX7_status (i := 27) rfl) (by decide) (fun c76 => ?_) (fun c76 => ?_)
    · rw [i32_le, show (nI 5).toInt = 5 from rfl] at c76
      refine x_iconst (pc := 88) (v := -1) cx (dA ddX7_status (i := 33) rfl) (by decide) ?_
      refine x_ireturn (pc := 89) cx (dA ddX7_status (i := 34) rfl) (by first | exact Nat.le_of_ble_eq_true rfl | omega) (by first | exact Nat.le_of_ble_eq_true rfl | omega) ?_
      exact pCI.q hO (by unfold fStatus; rw [if_neg (lv_neT (a := 0) c1_0 (by decide)), if_neg (lv_neT (a := 1) c1_1 (by decide)), if_neg (lv_neT (a := 2) c1_2 (by decide)), if_neg (lv_neT (a := 3) c1_3 (by decide)), if_neg (fun q => st12n q (by omega))])
    · rw [i32_le, show (nI 5).toInt = 5 from rfl] at c76
      obtain ⟨j, hj, ej, tj⟩ := i32_in (x := w - nI 12) (n := 5) (by omega)
      have tw : w.toInt = 12 + (j : Int) := st12 ej hj
      have tw2 : tn w - 12 = j := by unfold tn; omega
      rw [ej]
      refine x_aload_n (pc := 79) cx (dA ddX7_status (i := 28) rfl) rfl ?_
      refine gX7_38 (pc := 80) (rfA hQ.2.2.2.2.2.2.1.1) cx (dA ddX7_status (i := 29) rfl) h0 ?_
      refine x_iload_n (pc := 83) cx (dA ddX7_status (i := 30) rfl) rfl ?_
      refine x_iaload (pc := 84) cx (dA ddX7_status (i := 31) rfl) hQ.2.2.2.2.2.2.1.2 (by omega) (by decide) ?_
      refine x_goto (pc := 85) (tgt := 89) cx (dA ddX7_status (i := 32) rfl) (by decide) ?_
      rw [hRC.2.2.2.2.2.2.2.2.2.1 j hj]
      refine x_ireturn (pc := 89) cx (dA ddX7_status (i := 34) rfl) (by first | exact Nat.le_of_ble_eq_true rfl | omega) (by first | exact Nat.le_of_ble_eq_true rfl | omega) ?_
      exact pCI.q hO (by unfold fStatus; rw [if_neg (lv_neT (a := 0) c1_0 (by decide)), if_neg (lv_neT (a := 1) c1_1 (by decide)), if_neg (lv_neT (a := 2) c1_2 (by decide)), if_neg (lv_neT (a := 3) c1_3 (by decide)), if_pos (by omega), tw2])
