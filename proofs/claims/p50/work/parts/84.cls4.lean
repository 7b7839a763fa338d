theorem usA_us {Z : zP} {G : zG} {V : zV} {x : Nat} {col : Nat → Nat} {S : SX} (h : RC Z G V x col S) : ∀ s, s ≤ 8 → usA G x s = usX S s
  | 0, _ => rfl
  | s + 1, hs => by
    have ih := usA_us h s (by omega)
    have g := h.2.2.2.2.2.2.2.1 s (by omega)
    show (if G.2.2.2 (x + 37) s = none ∧ G.2.2.2 (x + 38) s = none then usA G x s else usA G x s + 1) = (match S.2.2.2.1 s with | none => usX S s | some _ => usX S s + 1)
    rw [ih]
    rcases sh3 (S.2.2.2.1 s) with e | ⟨q, e⟩ | ⟨q, e⟩
    · rw [e, if_pos (g.1 e)]
    · obtain ⟨a, b, -⟩ := g.2.1 q e
      rw [e, if_neg (fun z => by rw [b] at z; cases z.1)]
    · obtain ⟨-, a, b, -⟩ := g.2.2 q e
      rw [e, if_neg (fun z => by rw [b] at z; cases z.2)]
theorem st12 {w : Int32} {j : Nat} (e : w - nI 12 = nI j) (hj : j < 5) : w.toInt = 12 + (j : Int) := by
  have h : w = nI j + nI 12 := by rw [← e]; exact (Int32.sub_add_cancel w (nI 12)).symm
  rw [h, nI_add, nI_toInt (by omega)]
  omega
theorem st12n {w : Int32} (h : 12 ≤ w.toInt ∧ w.toInt ≤ 16) (h2 : (w - nI 12).toInt < 0 ∨ 5 ≤ (w - nI 12).toInt) : False := by
  obtain ⟨j, hj, rfl, -⟩ := i32_in (x := w) (n := 17) (by omega)
  rw [nI_toInt (by omega)] at h
  rw [pk_sub (by omega), nI_toInt (by omega)] at h2
  omega
theorem c_X7_holds {l : Launch} {Z : zP} {G : zG} {V : zV} {x : Nat} {col : Nat → Nat} {S : SX} (hRC : RC Z G V x col S) {r : Int32} : CT l Z yX7_holds cX7_holds 4 (some .int) 8 0 0 [.ref x, .int r] G V (pCI Z G V x col (fHolds S r)) := by
  refine CT.of (by decide +kernel) (Nat.le_of_ble_eq_true rfl) (fun X hX cx => ?_)
  subst hX
  show Wm Z X 4 G V 0 0 _ 0 [(0, some (.ref x)), (1, some (.int r))] []
  have hQ := hRC.1
  have h0 := hQ.1
  have hWd := hRC.2.2.2.2.1
  have c6 := hWd.2.1
  have hO := RO.refl hRC
  refine x_aload_n (pc := 0) cx (dA ddX7_holds (i := 0) rfl) rfl ?_
  refine x_iload_n (pc := 1) cx (dA ddX7_holds (i := 1) rfl) rfl ?_
  rcases (show ¬ oks r ∨ oks r from (Decidable.em (oks r)).symm) with cr | cr
  · have e7 : slA G (x + 37) r = none := if_neg cr
    have e8 : slA G (x + 38) r = none := if_neg cr
    refine x_V1 (pc := 2) mX7_85 h0 (c_X7_rowAt hQ) cx (dA ddX7_holds (i := 2) rfl) (kR ?_)
    rw [e7, show va_rf none = .null from rfl]
    refine x_astore_nN (pc := 5) cx (dA ddX7_holds (i := 3) rfl) (by decide) rfl ?_
    refine x_aload_nN (pc := 6) cx (dA ddX7_holds (i := 4) rfl) rfl ?_
    refine x_ifnull_n (pc := 7) (tgt := 15) cx (dA ddX7_holds (i := 5) rfl) (by decide) ?_
    refine x_aload_n (pc := 15) cx (dA ddX7_holds (i := 9) rfl) rfl ?_
    refine x_iload_n (pc := 16) cx (dA ddX7_holds (i := 10) rfl) rfl ?_
    refine x_V1 (pc := 17) mX7_99 h0 (c_X7_ruleAt hQ) cx (dA ddX7_holds (i := 11) rfl) (kR ?_)
    rw [e8, show va_rf none = .null from rfl]
    refine x_astore_nN (pc := 20) cx (dA ddX7_holds (i := 12) rfl) (by decide) rfl ?_
    refine x_aload_nN (pc := 21) cx (dA ddX7_holds (i := 13) rfl) rfl ?_
    refine x_ifnonnull_n (pc := 22) cx (dA ddX7_holds (i := 14) rfl) ?_
    refine x_iconst (pc := 25) (v := -1) cx (dA ddX7_holds (i := 15) rfl) (by decide) ?_
    refine x_goto (pc := 26) (tgt := 36) cx (dA ddX7_holds (i := 16) rfl) (by decide) ?_
    refine x_ireturn (pc := 36) cx (dA ddX7_holds (i := 21) rfl) (by first | exact Nat.le_of_ble_eq_true rfl | omega) (by first | exact Nat.le_of_ble_eq_true rfl | omega) ?_
    exact pCI.q hO (if_neg cr)
  · obtain ⟨r, hr, rfl, tr⟩ := i32_in (n := 8) cr
    rcases sh3 (S.2.2.2.1 r) with e | ⟨q, e⟩ | ⟨q, e⟩
    · obtain ⟨e7, e8⟩ := hO.1.sh0 hr e
      refine x_V1 (pc := 2) mX7_85 h0 (c_X7_rowAt hQ) cx (dA ddX7_holds (i := 2) rfl) (kR ?_)
      rw [e7, show va_rf none = .null from rfl]
      refine x_astore_nN (pc := 5) cx (dA ddX7_holds (i := 3) rfl) (by decide) rfl ?_
      refine x_aload_nN (pc := 6) cx (dA ddX7_holds (i := 4) rfl) rfl ?_
      refine x_ifnull_n (pc := 7) (tgt := 15) cx (dA ddX7_holds (i := 5) rfl) (by decide) ?_
      refine x_aload_n (pc := 15) cx (dA ddX7_holds (i := 9) rfl) rfl ?_
      refine x_iload_n (pc := 16) cx (dA ddX7_holds (i := 10) rfl) rfl ?_
      refine x_V1 (pc := 17) mX7_99 h0 (c_X7_ruleAt hQ) cx (dA ddX7_holds (i := 11) rfl) (kR ?_)
      rw [e8, show va_rf none = .null from rfl]
      refine x_astore_nN (pc := 20) cx (dA ddX7_holds (i := 12) rfl) (by decide) rfl ?_
      refine x_aload_nN (pc := 21) cx (dA ddX7_holds (i := 13) rfl) rfl ?_
      refine x_ifnonnull_n (pc := 22) cx (dA ddX7_holds (i := 14) rfl) ?_
      refine x_iconst (pc := 25) (v := -1) cx (dA ddX7_holds (i := 15) rfl) (by decide) ?_
      refine x_goto (pc := 26) (tgt := 36) cx (dA ddX7_holds (i := 16) rfl) (by decide) ?_
      refine x_ireturn (pc := 36) cx (dA ddX7_holds (i := 21) rfl) (by first | exact Nat.le_of_ble_eq_true rfl | omega) (by first | exact Nat.le_of_ble_eq_true rfl | omega) ?_
      exact pCI.q hO (by unfold fHolds; rw [if_pos cr, (shX_at hr).trans e])
    · obtain ⟨e8, a, e7, hRw, rT, t5, rE, -, -⟩ := hO.1.shl hr e
      refine x_V1 (pc := 2) mX7_85 h0 (c_X7_rowAt hQ) cx (dA ddX7_holds (i := 2) rfl) (kR ?_)
      rw [e7, show va_rf (some a) = .ref a from rfl]
      refine x_astore_n (pc := 5) cx (dA ddX7_holds (i := 3) rfl) (by decide) rfl ?_
      refine x_aload_n (pc := 6) cx (dA ddX7_holds (i := 4) rfl) rfl ?_
      refine x_ifnull_s (pc := 7) cx (dA ddX7_holds (i := 5) rfl) ?_
      refine x_aload_n (pc := 10) cx (dA ddX7_holds (i := 6) rfl) rfl ?_
      refine gX7_103 (pc := 11) (congrArg Value.int rT) cx (dA ddX7_holds (i := 7) rfl) hRw.1 ?_
      refine x_ireturn (pc := 14) cx (dA ddX7_holds (i := 8) rfl) (by first | exact Nat.le_of_ble_eq_true rfl | omega) (by first | exact Nat.le_of_ble_eq_true rfl | omega) ?_
      exact pCI.q hO (by unfold fHolds; rw [if_pos cr, (shX_at hr).trans e])
    · obtain ⟨e7, a, e8, hR⟩ := hO.1.shr hr e
      refine x_V1 (pc := 2) mX7_85 h0 (c_X7_rowAt hQ) cx (dA ddX7_holds (i := 2) rfl) (kR ?_)
      rw [e7, show va_rf none = .null from rfl]
      refine x_astore_nN (pc := 5) cx (dA ddX7_holds (i := 3) rfl) (by decide) rfl ?_
      refine x_aload_nN (pc := 6) cx (dA ddX7_holds (i := 4) rfl) rfl ?_
      refine x_ifnull_n (pc := 7) (tgt := 15) cx (dA ddX7_holds (i := 5) rfl) (by decide) ?_
      refine x_aload_n (pc := 15) cx (dA ddX7_holds (i := 9) rfl) rfl ?_
      refine x_iload_n (pc := 16) cx (dA ddX7_holds (i := 10) rfl) rfl ?_
      refine x_V1 (pc := 17) mX7_99 h0 (c_X7_ruleAt hQ) cx (dA ddX7_holds (i := 11) rfl) (kR ?_)
      rw [e8, show va_rf (some a) = .ref a from rfl]
      refine x_astore_n (pc := 20) cx (dA ddX7_holds (i := 12) rfl) (by decide) rfl ?_
      refine x_aload_n (pc := 21) cx (dA ddX7_holds (i := 13) rfl) rfl ?_
      refine x_ifnonnull_s (pc := 22) (tgt := 29) cx (dA ddX7_holds (i := 14) rfl) (by decide) ?_
      refine x_bipush (pc := 29) (v := nI 10) cx (dA ddX7_holds (i := 17) rfl) (by decide) ?_
      refine x_aload_n (pc := 31) cx (dA ddX7_holds (i := 18) rfl) rfl ?_
      refine gX7_119 (pc := 32) (congrArg Value.int hR.1.2.1) cx (dA ddX7_holds (i := 19) rfl) hR.1.1 ?_
      refine x_iadd (pc := 35) cx (dA ddX7_holds (i := 20) rfl) ?_
      rw [nI_add]
      refine x_ireturn (pc := 36) cx (dA ddX7_holds (i := 21) rfl) (by first | exact Nat.le_of_ble_eq_true rfl | omega) (by first | exact Nat.le_of_ble_eq_true rfl | omega) ?_
      exact pCI.q hO (by unfold fHolds; rw [if_pos cr, (shX_at hr).trans e])
theorem c_X7_status {l : Launch} {Z : zP} {G : zG} {V : zV} {x : Nat} {col : Nat → Nat} {S : SX} (hRC : RC Z G V x col S) {w : Int32} : CT l Z yX7_status cX7_status 3 (some .int) 8 0 0 [.ref x, .int w] G V (pCI Z G V x col (fStatus S w)) := by
  refine CT.of (by decide +kernel) (Nat.le_of_ble_eq_true rfl) (fun X hX cx => ?_)
  subst hX
  show Wm Z X 3 G V 0 0 _ 0 [(0, some (.ref x)), (1, some (.int w))] []
  have hQ := hRC.1
  have h0 := hQ.1
  have hWd := hRC.2.2.2.2.1
  have c6 := hWd.2.1
  have hO := RO.refl hRC
  refine x_iload_n (pc := 0) cx (dA ddX7_status (i := 0) rfl) rfl ?_
  by_cases c1_0 : w = 0
  · refine x_tabIn (pc := 1) (v := 0) (tgt := 32) cx (dA ddX7_status (i := 1) rfl) (by rw [c1_0]; decide) (by decide) (by decide) rfl (by decide) ?_
    refine x_aload_n (pc := 32) cx (dA ddX7_status (i := 2) rfl) rfl ?_
    refine gX7_10 (pc := 33) (rfA hQ.2.1.1) cx (dA ddX7_status (i := 3) rfl) h0 ?_
    refine gX7_345 (pc := 36) (congrArg Value.int hWd.1) cx (dA ddX7_status (i := 4) rfl) hQ.2.1.2.1 ?_
    refine x_ireturn (pc := 39) cx (dA ddX7_status (i := 5) rfl) (by first | exact Nat.le_of_ble_eq_true rfl | omega) (by first | exact Nat.le_of_ble_eq_true rfl | omega) ?_
    exact pCI.q hO (by unfold fStatus; rw [if_pos (by rw [c1_0]; rfl)])
  by_cases c1_1 : w = 1
  · refine x_tabIn (pc := 1) (v := 1) (tgt := 40) cx (dA ddX7_status (i := 1) rfl) (by rw [c1_1]; decide) (by decide) (by decide) rfl (by decide) ?_
    refine x_aload_n (pc := 40) cx (dA ddX7_status (i := 6) rfl) rfl ?_
    refine gX7_22 (pc := 41) (rfA hQ.2.2.2.1.1) cx (dA ddX7_status (i := 7) rfl) h0 ?_
    refine gX7_348 (pc := 44) (congrArg Value.int hRC.2.2.2.2.2.2.1.1) cx (dA ddX7_status (i := 8) rfl) hQ.2.2.2.1.2.1 ?_
    refine x_ireturn (pc := 47) cx (dA ddX7_status (i := 9) rfl) (by first | exact Nat.le_of_ble_eq_true rfl | omega) (by first | exact Nat.le_of_ble_eq_true rfl | omega) ?_
    exact pCI.q hO (by unfold fStatus; rw [if_neg (show ¬ w.toInt = 0 by rw [c1_1]; decide), if_pos (by rw [c1_1]; rfl)])
  by_cases c1_2 : w = 2
  · refine x_tabIn (pc := 1) (v := 2) (tgt := 48) cx (dA ddX7_status (i := 1) rfl) (by rw [c1_2]; decide) (by decide) (by decide) rfl (by decide) ?_
    refine x_aload_n (pc := 48) cx (dA ddX7_status (i := 10) rfl) rfl ?_
    refine gX7_10 (pc := 49) (rfA hQ.2.1.1) cx (dA ddX7_status (i := 11) rfl) h0 ?_
    refine gX7_350 (pc := 52) (congrArg Value.int hWd.2.2.2.1) cx (dA ddX7_status (i := 12) rfl) hQ.2.1.2.1 ?_
    refine x_ireturn (pc := 55) cx (dA ddX7_status (i := 13) rfl) (by first | exact Nat.le_of_ble_eq_true rfl | omega) (by first | exact Nat.le_of_ble_eq_true rfl | omega) ?_
    exact pCI.q hO (by unfold fStatus; rw [if_neg (show ¬ w.toInt = 0 by rw [c1_2]; decide), if_neg (show ¬ w.toInt = 1 by rw [c1_2]; decide), if_pos (by rw [c1_2]; rfl)])
  by_cases c1_3 : w = 3
  · refine x_tabIn (pc := 1) (v := 3) (tgt := 56) cx (dA ddX7_status (i := 1) rfl) (by rw [c1_3]; decide) (by decide) (by decide) rfl (by decide) ?_
    refine x_aload_n (pc := 56) cx (dA ddX7_status (i := 14) rfl) rfl ?_
    refine x_V0 (pc := 57) mX7_353 h0 (c_X7_shelvesInUse hQ) cx (dA ddX7_status (i := 15) rfl) (kI ?_)
    refine x_ireturn (pc := 60) cx (dA ddX7_status (i := 16) rfl) (by first | exact Nat.le_of_ble_eq_true rfl | omega) (by first | exact Nat.le_of_ble_eq_true rfl | omega) ?_
    exact pCI.q hO (by unfold fStatus; rw [if_neg (show ¬ w.toInt = 0 by rw [c1_3]; decide), if_neg (show ¬ w.toInt = 1 by rw [c1_3]; decide), if_neg (show ¬ w.toInt = 2 by rw [c1_3]; decide), if_pos (by rw [c1_3]; rfl), usA_us hRC 8 (Nat.le_refl _)])
  refine x_tabOut (pc := 1) (tgt := 61) cx (dA ddX7_status (i := 1) rfl) (by have t0 := lv_neT (a := 0) c1_0 (by decide); have t1 := lv_neT (a := 1) c1_1 (by decide); have t2 := lv_neT (a := 2) c1_2 (by decide); have t3 := lv_neT (a := 3) c1_3 (by decide); omega) (by decide) ?_
  refine x_iload_n (pc := 61) cx (dA ddX7_status (i := 17) rfl) rfl ?_
  refine x_bipush (pc := 62) (v := nI 12) cx (dA ddX7_status (i := 18) rfl) (by decide) ?_
  refine x_isub (pc := 64) cx (dA ddX7_status (i := 19) rfl) ?_
  refine x_istore_n (pc := 65) cx (dA ddX7_status (i := 20) rfl) (by decide) rfl ?_
  refine x_iload_n (pc := 66) cx (dA ddX7_status (i := 21) rfl) rfl ?_
  refine x_if_lt (pc := 67) (tgt := 88) cx (dA ddX7_status (i := 22) rfl) (by decide) (fun c67 => ?_) (fun c67 => ?_)
  · rw [i32_lt, toI_0] at c67
    refine x_iconst (pc := 88) (v := -1) cx (dA ddX7_status (i := 33) rfl) (by decide) ?_
    refine x_ireturn (pc := 89) cx (dA ddX7_status (i := 34) rfl) (by first | exact Nat.le_of_ble_eq_true rfl | omega) (by first | exact Nat.le_of_ble_eq_true rfl | omega) ?_
    exact pCI.q hO (by unfold fStatus; rw [if_neg (lv_neT (a := 0) c1_0 (by decide)), if_neg (lv_neT (a := 1) c1_1 (by decide)), if_neg (lv_neT (a := 2) c1_2 (by decide)), if_neg (lv_neT (a := 3) c1_3 (by decide)), if_neg (fun q => st12n q (by omega))])
  · rw [i32_lt, toI_0] at c67
    refine x_iload_n (pc := 70) cx (dA ddX7_status (i := 23) rfl) rfl ?_
    refine x_aload_n (pc := 71) cx (dA ddX7_status (i := 24) rfl) rfl ?_
    refine gX7_38 (pc := 72) (rfA hQ.2.2.2.2.2.2.1.1) cx (dA ddX7_status (i := 25) rfl) h0 ?_
    refine x_alen (pc := 75) cx (dA ddX7_status (i := 26) rfl) hQ.2.2.2.2.2.2.1.2 (by decide) ?_
    refine x_icmp_ge (pc := 76) (tgt := 88) cx (dA ddX7_status (i := 27) rfl) (by decide) (fun c76 => ?_) (fun c76 => ?_)
    · rw [i32_le, show (nI 5).toInt = 5 from rfl] at c76
      refine x_iconst (pc := 88) (v := -1) cx (dA ddX7_status (i := 33) rfl) (by decide) ?_
      refine x_ireturn (pc := 89) cx (dA ddX7_status (i := 34) rfl) (by first | exact Nat.le_of_ble_eq_true rfl | omega) (by first | exact Nat.le_of_ble_eq_true rfl | omega) ?_
      exact pCI.q hO (by unfold fStatus; rw [if_neg (lv_neT (a := 0) c1_0 (by decide)), if_neg (lv_neT (a := 1) c1_1 (by decide)), if_neg (lv_neT (a := 2) c1_2 (by decide)), if_neg (lv_neT (a := 3) c1_3 (by decide)), if_neg (fun q => st12n q (by omega))])
    · rw [i32_le, show (nI 5).toInt = 5 from rfl] at c76
      obtain ⟨j, hj, ej, tj⟩ := i32_in (x := w - nI 12) (n := 5) (by omega)
      have tw : w.toInt = 12 + (j : Int) := st12 ej hj
      have tw2 : tn w - 12 = j := by unfold tn; omega
      rw [ej]
      refine x_aload_n (pc := 79) cx (dA ddX7_status (i := 28) rfl) rfl ?_
      refine gX7_38 (pc := 80) (rfA hQ.2.2.2.2.2.2.1.1) cx (dA ddX7_status (i := 29) rfl) h0 ?_
      refine x_iload_n (pc := 83) cx (dA ddX7_status (i := 30) rfl) rfl ?_
      refine x_iaload (pc := 84) cx (dA ddX7_status (i := 31) rfl) hQ.2.2.2.2.2.2.1.2 (by omega) (by decide) ?_
      refine x_goto (pc := 85) (tgt := 89) cx (dA ddX7_status (i := 32) rfl) (by decide) ?_
      rw [hRC.2.2.2.2.2.2.2.2.2.1 j hj]
      refine x_ireturn (pc := 89) cx (dA ddX7_status (i := 34) rfl) (by first | exact Nat.le_of_ble_eq_true rfl | omega) (by first | exact Nat.le_of_ble_eq_true rfl | omega) ?_
      exact pCI.q hO (by unfold fStatus; rw [if_neg (lv_neT (a := 0) c1_0 (by decide)), if_neg (lv_neT (a := 1) c1_1 (by decide)), if_neg (lv_neT (a := 2) c1_2 (by decide)), if_neg (lv_neT (a := 3) c1_3 (by decide)), if_pos (by omega), tw2])
