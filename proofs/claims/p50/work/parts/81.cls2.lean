theorem c_X7_load {l : Launch} {Z : zP} {G : zG} {V : zV} {x : Nat} {col : Nat → Nat} {S : SX} (hRC : RC Z G V x col S) {h d t r : Int32} : CT l Z yX7_load cX7_load 7 (some .int) 8 0 0 [.ref x, .int h, .int d, .int t, .int r] G V (pCI Z G V x col (fLoad S h d t r)) := by
  refine CT.of (by decide +kernel) (Nat.le_of_ble_eq_true rfl) (fun X hX cx => ?_)
  subst hX
  show Wm Z X 7 G V 0 0 _ 0 [(0, some (.ref x)), (1, some (.int h)), (2, some (.int d)), (3, some (.int t)), (4, some (.int r))] []
  have hQ := hRC.1
  have h0 := hQ.1
  have hWd := hRC.2.2.2.2.1
  have c6 := hWd.2.1
  have hO := RO.refl hRC
  refine x_aload_n (pc := 0) cx (dA ddX7_load (i := 0) rfl) rfl ?_
  refine x_iload_n (pc := 1) cx (dA ddX7_load (i := 1) rfl) rfl ?_
  by_cases ch : okc S h
  · obtain ⟨i, hi, rfl, ti⟩ := i32_in ch
    have i6 : i < 6 := by omega
    have eX : hX S (nI i) = S.1.2.1 i := hX_at (by omega)
    have hP := (hQ.2.2.2.2.2.2.2.2.2.2.2.2 i i6).2
    obtain ⟨-, hN, zN⟩ := hWd.2.2.1 i hi
    have hB := hN.1
    have b4 := hB.1
    have n125 := st125 b4
    have h06 := hN.2.1
    refine x_V1 (pc := 2) mX7_183 h0 (hO.po hi) cx (dA ddX7_load (i := 2) rfl) (kRx fun V2 h2 => ?_)
    obtain ⟨hO, hT⟩ := hO.tu i6 zN h2
    rw [show va_rf (some (x + 70 + 12 * i)) = .ref (x + 70 + 12 * i) from rfl]
    refine x_astore (pc := 5) cx (dA ddX7_load (i := 3) rfl) (by decide) rfl ?_
    refine x_aload (pc := 7) cx (dA ddX7_load (i := 4) rfl) rfl ?_
    refine x_ifnull_s (pc := 9) cx (dA ddX7_load (i := 5) rfl) ?_
    refine x_aload (pc := 12) cx (dA ddX7_load (i := 6) rfl) rfl ?_
    refine x_iload_n (pc := 14) cx (dA ddX7_load (i := 7) rfl) rfl ?_
    refine x_iload_n (pc := 15) cx (dA ddX7_load (i := 8) rfl) rfl ?_
    refine x_V2 (pc := 16) mX7_208 hP.1 (c_X1_hasDay hP hT.1) cx (dA ddX7_load (i := 9) rfl) (kI ?_)
    refine x_if_eq (pc := 19) (tgt := 30) cx (dA ddX7_load (i := 10) rfl) (by decide) (fun c19 => ?_) (fun c19 => ?_)
    · have cP : ¬ (okl1 (hX S (nI i)) d ∧ okt (hX S (nI i)) t) := by rw [eX]; exact b2i_eq c19
      refine x_aload_n (pc := 30) cx (dA ddX7_load (i := 14) rfl) rfl ?_
      refine x_bipush (pc := 31) (v := -2) cx (dA ddX7_load (i := 15) rfl) (by decide) ?_
      refine x_V1 (pc := 33) mX7_74 h0 (c_X7_refuse hQ (i := 0) (by decide) rfl) cx (dA ddX7_load (i := 16) rfl) (kI ?_)
      refine x_ireturn (pc := 36) cx (dA ddX7_load (i := 17) rfl) (by first | exact Nat.le_of_ble_eq_true rfl | omega) (by first | exact Nat.le_of_ble_eq_true rfl | omega) ?_
      first | exact pCI.r hO (by decide) (if_neg (fun q => ch q.1)) | exact pCI.r hO (by decide) (if_neg (fun q => cP ⟨q.2.1, q.2.2.1⟩)) | exact pCI.r hO (by decide) (if_neg (fun q => cr q.2.2.2))
    · have cP := b2i_ne c19
      obtain ⟨d, hd, rfl, td⟩ := i32_in (x := d) (n := S.1.2.1 i 0 + 1) ⟨by have := cP.1.1; omega, by have := cP.1.2; omega⟩
      obtain ⟨t, ht, rfl, tt⟩ := i32_in (x := t) (n := 5 ^ S.1.2.1 i 4) cP.2
      have cP : okl1 (hX S (nI i)) (nI d) ∧ okt (hX S (nI i)) (nI t) := by rw [eX]; exact cP
      have d1 : 1 ≤ d := by have := cP.1.1; rw [nI_toInt (by omega)] at this; omega
      refine x_iload (pc := 22) cx (dA ddX7_load (i := 11) rfl) rfl ?_
      refine x_S1 (pc := 24) mX7_70 c_X7_isShelf cx (dA ddX7_load (i := 12) rfl) (kI ?_)
      refine x_if_ne (pc := 27) (tgt := 37) cx (dA ddX7_load (i := 13) rfl) (by decide) (fun c27 => ?_) (fun c27 => ?_)
      · have cr0 := b2i_ne c27
        obtain ⟨r, hr, rfl, tr⟩ := i32_in (x := r) (n := 8) cr0
        have cr : oks (nI r) := cr0
        refine x_aload_n (pc := 37) cx (dA ddX7_load (i := 18) rfl) rfl ?_
        refine x_aload (pc := 38) cx (dA ddX7_load (i := 19) rfl) rfl ?_
        refine x_iload (pc := 40) cx (dA ddX7_load (i := 20) rfl) rfl ?_
        rcases sh3 (S.2.2.2.1 r) with e | ⟨q, e⟩ | ⟨q, e⟩
        · obtain ⟨e7, e8⟩ := hO.1.sh0 hr e
          refine x_V2 (pc := 42) mX7_245 h0 (c_X7_ruleFor_n hQ hP hT.1 e8) cx (dA ddX7_load (i := 21) rfl) (kR ?_)
          rw [show va_rf none = .null from rfl]
          refine x_astoreN (pc := 45) cx (dA ddX7_load (i := 22) rfl) (by decide) rfl ?_
          refine x_aloadN (pc := 47) cx (dA ddX7_load (i := 23) rfl) rfl ?_
          refine x_ifnonnull_n (pc := 49) cx (dA ddX7_load (i := 24) rfl) ?_
          refine x_aload_n (pc := 52) cx (dA ddX7_load (i := 25) rfl) rfl ?_
          refine x_aload_n (pc := 53) cx (dA ddX7_load (i := 26) rfl) rfl ?_
          refine x_iload (pc := 54) cx (dA ddX7_load (i := 27) rfl) rfl ?_
          refine x_V1 (pc := 56) mX7_89 h0 (c_X7_lackOnShelf hQ) cx (dA ddX7_load (i := 28) rfl) (kI ?_)
          rw [if_pos ⟨e7, e8⟩]
          refine x_V1 (pc := 59) mX7_74 h0 (c_X7_refuse hQ (i := 2) (by decide) rfl) cx (dA ddX7_load (i := 29) rfl) (kI ?_)
          refine x_goto (pc := 62) (tgt := 74) cx (dA ddX7_load (i := 30) rfl) (by decide) ?_
          refine x_ireturn (pc := 74) cx (dA ddX7_load (i := 36) rfl) (by first | exact Nat.le_of_ble_eq_true rfl | omega) (by first | exact Nat.le_of_ble_eq_true rfl | omega) ?_
          exact pCI.r hO (by decide) (by unfold fLoad; rw [if_pos ⟨ch, cP.1, cP.2, cr⟩]; exact byI_n ((shX_at hr).trans e))
        · obtain ⟨e8, a, e7, hRw, rT, t5, rE, -, -⟩ := hO.1.shl hr e
          refine x_V2 (pc := 42) mX7_245 h0 (c_X7_ruleFor_n hQ hP hT.1 e8) cx (dA ddX7_load (i := 21) rfl) (kR ?_)
          rw [show va_rf none = .null from rfl]
          refine x_astoreN (pc := 45) cx (dA ddX7_load (i := 22) rfl) (by decide) rfl ?_
          refine x_aloadN (pc := 47) cx (dA ddX7_load (i := 23) rfl) rfl ?_
          refine x_ifnonnull_n (pc := 49) cx (dA ddX7_load (i := 24) rfl) ?_
          refine x_aload_n (pc := 52) cx (dA ddX7_load (i := 25) rfl) rfl ?_
          refine x_aload_n (pc := 53) cx (dA ddX7_load (i := 26) rfl) rfl ?_
          refine x_iload (pc := 54) cx (dA ddX7_load (i := 27) rfl) rfl ?_
          refine x_V1 (pc := 56) mX7_89 h0 (c_X7_lackOnShelf hQ) cx (dA ddX7_load (i := 28) rfl) (kI ?_)
          rw [if_neg (fun z => by rw [e7] at z; cases z.1)]
          refine x_V1 (pc := 59) mX7_74 h0 (c_X7_refuse hQ (i := 1) (by decide) rfl) cx (dA ddX7_load (i := 29) rfl) (kI ?_)
          refine x_goto (pc := 62) (tgt := 74) cx (dA ddX7_load (i := 30) rfl) (by decide) ?_
          refine x_ireturn (pc := 74) cx (dA ddX7_load (i := 36) rfl) (by first | exact Nat.le_of_ble_eq_true rfl | omega) (by first | exact Nat.le_of_ble_eq_true rfl | omega) ?_
          exact pCI.r hO (by decide) (by unfold fLoad; rw [if_pos ⟨ch, cP.1, cP.2, cr⟩]; exact byI_r ((shX_at hr).trans e))
        · obtain ⟨e7, a, e8, hR⟩ := hO.1.shr hr e
          obtain ⟨K, hC⟩ := hT.2.1
          refine x_V2 (pc := 42) mX7_245 h0 (c_X7_ruleFor hQ hP hT.1 hC hR.1 e8) cx (dA ddX7_load (i := 21) rfl) (kRx fun V2 h2 => ?_)
          obtain ⟨K2, hk, hk4, h2⟩ := h2
          obtain ⟨hO, hT⟩ := hO.pw i6 zN hT h2
          have hC := h2.2.1
          obtain ⟨-, a2, e82, hR⟩ := hO.1.shr hr e
          rw [e8] at e82
          cases e82
          rw [show va_rf (some a) = .ref a from rfl]
          refine x_astore (pc := 45) cx (dA ddX7_load (i := 22) rfl) (by decide) rfl ?_
          refine x_aload (pc := 47) cx (dA ddX7_load (i := 23) rfl) rfl ?_
          refine x_ifnonnull_s (pc := 49) (tgt := 65) cx (dA ddX7_load (i := 24) rfl) (by decide) ?_
          refine x_aload (pc := 65) cx (dA ddX7_load (i := 31) rfl) rfl ?_
          refine x_aload (pc := 67) cx (dA ddX7_load (i := 32) rfl) rfl ?_
          refine x_iload_n (pc := 69) cx (dA ddX7_load (i := 33) rfl) rfl ?_
          refine x_iload_n (pc := 70) cx (dA ddX7_load (i := 34) rfl) rfl ?_
          refine x_V3 (pc := 71) mX7_249 hP.1 (c_X1_loadBy hP hT.1 hR.1 (d := d) (by omega) ht (fun e s hs => (hC.2.2.2 d d1 (by have := hk4 e; omega) s hs).2)) cx (dA ddX7_load (i := 35) rfl) (kI ?_)
          refine x_ireturn (pc := 74) cx (dA ddX7_load (i := 36) rfl) (by first | exact Nat.le_of_ble_eq_true rfl | omega) (by first | exact Nat.le_of_ble_eq_true rfl | omega) ?_
          exact pCI.q hO (by unfold fLoad; rw [if_pos ⟨ch, cP.1, cP.2, cr⟩, byI_q ((shX_at hr).trans e)]; simp only [hX, ti, td, tt, ruR])
      · have cr := b2i_eq c27
        refine x_aload_n (pc := 30) cx (dA ddX7_load (i := 14) rfl) rfl ?_
        refine x_bipush (pc := 31) (v := -2) cx (dA ddX7_load (i := 15) rfl) (by decide) ?_
        refine x_V1 (pc := 33) mX7_74 h0 (c_X7_refuse hQ (i := 0) (by decide) rfl) cx (dA ddX7_load (i := 16) rfl) (kI ?_)
        refine x_ireturn (pc := 36) cx (dA ddX7_load (i := 17) rfl) (by first | exact Nat.le_of_ble_eq_true rfl | omega) (by first | exact Nat.le_of_ble_eq_true rfl | omega) ?_
        first | exact pCI.r hO (by decide) (if_neg (fun q => ch q.1)) | exact pCI.r hO (by decide) (if_neg (fun q => cP ⟨q.2.1, q.2.2.1⟩)) | exact pCI.r hO (by decide) (if_neg (fun q => cr q.2.2.2))
  · refine x_V1 (pc := 2) mX7_183 h0 (hO.pn ch) cx (dA ddX7_load (i := 2) rfl) (kR ?_)
    rw [show va_rf none = .null from rfl]
    refine x_astoreN (pc := 5) cx (dA ddX7_load (i := 3) rfl) (by decide) rfl ?_
    refine x_aloadN (pc := 7) cx (dA ddX7_load (i := 4) rfl) rfl ?_
    refine x_ifnull_n (pc := 9) (tgt := 30) cx (dA ddX7_load (i := 5) rfl) (by decide) ?_
    refine x_aload_n (pc := 30) cx (dA ddX7_load (i := 14) rfl) rfl ?_
    refine x_bipush (pc := 31) (v := -2) cx (dA ddX7_load (i := 15) rfl) (by decide) ?_
    refine x_V1 (pc := 33) mX7_74 h0 (c_X7_refuse hQ (i := 0) (by decide) rfl) cx (dA ddX7_load (i := 16) rfl) (kI ?_)
    refine x_ireturn (pc := 36) cx (dA ddX7_load (i := 17) rfl) (by first | exact Nat.le_of_ble_eq_true rfl | omega) (by first | exact Nat.le_of_ble_eq_true rfl | omega) ?_
    first | exact pCI.r hO (by decide) (if_neg (fun q => ch q.1)) | exact pCI.r hO (by decide) (if_neg (fun q => cP ⟨q.2.1, q.2.2.1⟩)) | exact pCI.r hO (by decide) (if_neg (fun q => cr q.2.2.2))
theorem c_X7_mean {l : Launch} {Z : zP} {G : zG} {V : zV} {x : Nat} {col : Nat → Nat} {S : SX} (hRC : RC Z G V x col S) {h d t r : Int32} : CT l Z yX7_mean cX7_mean 7 (some .long) 8 0 0 [.ref x, .int h, .int d, .int t, .int r] G V (pCJ Z G V x col (fMean S h d t r)) := by
  refine CT.of (by decide +kernel) (Nat.le_of_ble_eq_true rfl) (fun X hX cx => ?_)
  subst hX
  show Wm Z X 7 G V 0 0 _ 0 [(0, some (.ref x)), (1, some (.int h)), (2, some (.int d)), (3, some (.int t)), (4, some (.int r))] []
  have hQ := hRC.1
  have h0 := hQ.1
  have hWd := hRC.2.2.2.2.1
  have c6 := hWd.2.1
  have hO := RO.refl hRC
  refine x_aload_n (pc := 0) cx (dA ddX7_mean (i := 0) rfl) rfl ?_
  refine x_iload_n (pc := 1) cx (dA ddX7_mean (i := 1) rfl) rfl ?_
  by_cases ch : okc S h
  · obtain ⟨i, hi, rfl, ti⟩ := i32_in ch
    have i6 : i < 6 := by omega
    have eX : hX S (nI i) = S.1.2.1 i := hX_at (by omega)
    have hP := (hQ.2.2.2.2.2.2.2.2.2.2.2.2 i i6).2
    obtain ⟨-, hN, zN⟩ := hWd.2.2.1 i hi
    have hB := hN.1
    have b4 := hB.1
    have n125 := st125 b4
    have h06 := hN.2.1
    refine x_V1 (pc := 2) mX7_183 h0 (hO.po hi) cx (dA ddX7_mean (i := 2) rfl) (kRx fun V2 h2 => ?_)
    obtain ⟨hO, hT⟩ := hO.tu i6 zN h2
    rw [show va_rf (some (x + 70 + 12 * i)) = .ref (x + 70 + 12 * i) from rfl]
    refine x_astore (pc := 5) cx (dA ddX7_mean (i := 3) rfl) (by decide) rfl ?_
    refine x_aload (pc := 7) cx (dA ddX7_mean (i := 4) rfl) rfl ?_
    refine x_ifnull_s (pc := 9) cx (dA ddX7_mean (i := 5) rfl) ?_
    refine x_aload (pc := 12) cx (dA ddX7_mean (i := 6) rfl) rfl ?_
    refine x_iload_n (pc := 14) cx (dA ddX7_mean (i := 7) rfl) rfl ?_
    refine x_iload_n (pc := 15) cx (dA ddX7_mean (i := 8) rfl) rfl ?_
    refine x_V2 (pc := 16) mX7_203 hP.1 (c_X1_hasPlace hP hT.1) cx (dA ddX7_mean (i := 9) rfl) (kI ?_)
    refine x_if_eq (pc := 19) (tgt := 30) cx (dA ddX7_mean (i := 10) rfl) (by decide) (fun c19 => ?_) (fun c19 => ?_)
    · have cP : ¬ (okl (hX S (nI i)) d ∧ okt (hX S (nI i)) t) := by rw [eX]; exact b2i_eq c19
      refine x_aload_n (pc := 30) cx (dA ddX7_mean (i := 14) rfl) rfl ?_
      refine x_bipush (pc := 31) (v := -2) cx (dA ddX7_mean (i := 15) rfl) (by decide) ?_
      refine x_V1 (pc := 33) mX7_74 h0 (c_X7_refuse hQ (i := 0) (by decide) rfl) cx (dA ddX7_mean (i := 16) rfl) (kI ?_)
      refine x_i2l (pc := 36) cx (dA ddX7_mean (i := 17) rfl) ?_
      refine x_lreturn (pc := 37) cx (dA ddX7_mean (i := 18) rfl) (by first | exact Nat.le_of_ble_eq_true rfl | omega) (by first | exact Nat.le_of_ble_eq_true rfl | omega) ?_
      first | exact pCJ.r hO (by decide) (if_neg (fun q => ch q.1)) | exact pCJ.r hO (by decide) (if_neg (fun q => cP ⟨q.2.1, q.2.2.1⟩)) | exact pCJ.r hO (by decide) (if_neg (fun q => cr q.2.2.2))
    · have cP := b2i_ne c19
      obtain ⟨d, hd, rfl, td⟩ := i32_in (x := d) (n := S.1.2.1 i 0 + 1) ⟨cP.1.1, by have := cP.1.2; omega⟩
      obtain ⟨t, ht, rfl, tt⟩ := i32_in (x := t) (n := 5 ^ S.1.2.1 i 4) cP.2
      have cP : okl (hX S (nI i)) (nI d) ∧ okt (hX S (nI i)) (nI t) := by rw [eX]; exact cP
      refine x_iload (pc := 22) cx (dA ddX7_mean (i := 11) rfl) rfl ?_
      refine x_S1 (pc := 24) mX7_70 c_X7_isShelf cx (dA ddX7_mean (i := 12) rfl) (kI ?_)
      refine x_if_ne (pc := 27) (tgt := 38) cx (dA ddX7_mean (i := 13) rfl) (by decide) (fun c27 => ?_) (fun c27 => ?_)
      · have cr0 := b2i_ne c27
        obtain ⟨r, hr, rfl, tr⟩ := i32_in (x := r) (n := 8) cr0
        have cr : oks (nI r) := cr0
        refine x_aload_n (pc := 38) cx (dA ddX7_mean (i := 19) rfl) rfl ?_
        refine x_aload (pc := 39) cx (dA ddX7_mean (i := 20) rfl) rfl ?_
        refine x_iload (pc := 41) cx (dA ddX7_mean (i := 21) rfl) rfl ?_
        rcases sh3 (S.2.2.2.1 r) with e | ⟨q, e⟩ | ⟨q, e⟩
        · obtain ⟨e7, e8⟩ := hO.1.sh0 hr e
          refine x_V2 (pc := 43) mX7_245 h0 (c_X7_ruleFor_n hQ hP hT.1 e8) cx (dA ddX7_mean (i := 22) rfl) (kR ?_)
          rw [show va_rf none = .null from rfl]
          refine x_astoreN (pc := 46) cx (dA ddX7_mean (i := 23) rfl) (by decide) rfl ?_
          refine x_aloadN (pc := 48) cx (dA ddX7_mean (i := 24) rfl) rfl ?_
          refine x_ifnonnull_n (pc := 50) cx (dA ddX7_mean (i := 25) rfl) ?_
          refine x_aload_n (pc := 53) cx (dA ddX7_mean (i := 26) rfl) rfl ?_
          refine x_aload_n (pc := 54) cx (dA ddX7_mean (i := 27) rfl) rfl ?_
          refine x_iload (pc := 55) cx (dA ddX7_mean (i := 28) rfl) rfl ?_
          refine x_V1 (pc := 57) mX7_89 h0 (c_X7_lackOnShelf hQ) cx (dA ddX7_mean (i := 29) rfl) (kI ?_)
          rw [if_pos ⟨e7, e8⟩]
          refine x_V1 (pc := 60) mX7_74 h0 (c_X7_refuse hQ (i := 2) (by decide) rfl) cx (dA ddX7_mean (i := 30) rfl) (kI ?_)
          refine x_i2l (pc := 63) cx (dA ddX7_mean (i := 31) rfl) ?_
          refine x_goto (pc := 64) (tgt := 76) cx (dA ddX7_mean (i := 32) rfl) (by decide) ?_
          refine x_lreturn (pc := 76) cx (dA ddX7_mean (i := 38) rfl) (by first | exact Nat.le_of_ble_eq_true rfl | omega) (by first | exact Nat.le_of_ble_eq_true rfl | omega) ?_
          exact pCJ.r hO (by decide) (by unfold fMean; rw [if_pos ⟨ch, cP.1, cP.2, cr⟩]; exact byJ_n ((shX_at hr).trans e))
        · obtain ⟨e8, a, e7, hRw, rT, t5, rE, -, -⟩ := hO.1.shl hr e
          refine x_V2 (pc := 43) mX7_245 h0 (c_X7_ruleFor_n hQ hP hT.1 e8) cx (dA ddX7_mean (i := 22) rfl) (kR ?_)
          rw [show va_rf none = .null from rfl]
          refine x_astoreN (pc := 46) cx (dA ddX7_mean (i := 23) rfl) (by decide) rfl ?_
          refine x_aloadN (pc := 48) cx (dA ddX7_mean (i := 24) rfl) rfl ?_
          refine x_ifnonnull_n (pc := 50) cx (dA ddX7_mean (i := 25) rfl) ?_
          refine x_aload_n (pc := 53) cx (dA ddX7_mean (i := 26) rfl) rfl ?_
          refine x_aload_n (pc := 54) cx (dA ddX7_mean (i := 27) rfl) rfl ?_
          refine x_iload (pc := 55) cx (dA ddX7_mean (i := 28) rfl) rfl ?_
          refine x_V1 (pc := 57) mX7_89 h0 (c_X7_lackOnShelf hQ) cx (dA ddX7_mean (i := 29) rfl) (kI ?_)
          rw [if_neg (fun z => by rw [e7] at z; cases z.1)]
          refine x_V1 (pc := 60) mX7_74 h0 (c_X7_refuse hQ (i := 1) (by decide) rfl) cx (dA ddX7_mean (i := 30) rfl) (kI ?_)
          refine x_i2l (pc := 63) cx (dA ddX7_mean (i := 31) rfl) ?_
          refine x_goto (pc := 64) (tgt := 76) cx (dA ddX7_mean (i := 32) rfl) (by decide) ?_
          refine x_lreturn (pc := 76) cx (dA ddX7_mean (i := 38) rfl) (by first | exact Nat.le_of_ble_eq_true rfl | omega) (by first | exact Nat.le_of_ble_eq_true rfl | omega) ?_
          exact pCJ.r hO (by decide) (by unfold fMean; rw [if_pos ⟨ch, cP.1, cP.2, cr⟩]; exact byJ_r ((shX_at hr).trans e))
        · obtain ⟨e7, a, e8, hR⟩ := hO.1.shr hr e
          obtain ⟨K, hC⟩ := hT.2.1
          refine x_V2 (pc := 43) mX7_245 h0 (c_X7_ruleFor hQ hP hT.1 hC hR.1 e8) cx (dA ddX7_mean (i := 22) rfl) (kRx fun V2 h2 => ?_)
          obtain ⟨K2, hk, hk4, h2⟩ := h2
          obtain ⟨hO, hT⟩ := hO.pw i6 zN hT h2
          have hC := h2.2.1
          obtain ⟨-, a2, e82, hR⟩ := hO.1.shr hr e
          rw [e8] at e82
          cases e82
          rw [show va_rf (some a) = .ref a from rfl]
          refine x_astore (pc := 46) cx (dA ddX7_mean (i := 23) rfl) (by decide) rfl ?_
          refine x_aload (pc := 48) cx (dA ddX7_mean (i := 24) rfl) rfl ?_
          refine x_ifnonnull_s (pc := 50) (tgt := 67) cx (dA ddX7_mean (i := 25) rfl) (by decide) ?_
          refine x_aload (pc := 67) cx (dA ddX7_mean (i := 33) rfl) rfl ?_
          refine x_aload (pc := 69) cx (dA ddX7_mean (i := 34) rfl) rfl ?_
          refine x_iload_n (pc := 71) cx (dA ddX7_mean (i := 35) rfl) rfl ?_
          refine x_iload_n (pc := 72) cx (dA ddX7_mean (i := 36) rfl) rfl ?_
          refine x_V3 (pc := 73) mX7_253 hP.1 (c_X1_costBy hP hT.1 hC hR.1 (z := d) (by omega) ht (fun e => by have := hk4 e; omega)) cx (dA ddX7_mean (i := 37) rfl) (kJx fun V2 h2 => ?_)
          obtain ⟨hO, hT⟩ := hO.px i6 zN hT h2
          refine x_lreturn (pc := 76) cx (dA ddX7_mean (i := 38) rfl) (by first | exact Nat.le_of_ble_eq_true rfl | omega) (by first | exact Nat.le_of_ble_eq_true rfl | omega) ?_
          exact pCJ.q hO (by unfold fMean; rw [if_pos ⟨ch, cP.1, cP.2, cr⟩, byJ_q ((shX_at hr).trans e)]; simp only [hX, ti, td, tt];  rw [rC_s])
      · have cr := b2i_eq c27
        refine x_aload_n (pc := 30) cx (dA ddX7_mean (i := 14) rfl) rfl ?_
        refine x_bipush (pc := 31) (v := -2) cx (dA ddX7_mean (i := 15) rfl) (by decide) ?_
        refine x_V1 (pc := 33) mX7_74 h0 (c_X7_refuse hQ (i := 0) (by decide) rfl) cx (dA ddX7_mean (i := 16) rfl) (kI ?_)
        refine x_i2l (pc := 36) cx (dA ddX7_mean (i := 17) rfl) ?_
        refine x_lreturn (pc := 37) cx (dA ddX7_mean (i := 18) rfl) (by first | exact Nat.le_of_ble_eq_true rfl | omega) (by first | exact Nat.le_of_ble_eq_true rfl | omega) ?_
        first | exact pCJ.r hO (by decide) (if_neg (fun q => ch q.1)) | exact pCJ.r hO (by decide) (if_neg (fun q => cP ⟨q.2.1, q.2.2.1⟩)) | exact pCJ.r hO (by decide) (if_neg (fun q => cr q.2.2.2))
  · refine x_V1 (pc := 2) mX7_183 h0 (hO.pn ch) cx (dA ddX7_mean (i := 2) rfl) (kR ?_)
    rw [show va_rf none = .null from rfl]
    refine x_astoreN (pc := 5) cx (dA ddX7_mean (i := 3) rfl) (by decide) rfl ?_
    refine x_aloadN (pc := 7) cx (dA ddX7_mean (i := 4) rfl) rfl ?_
    refine x_ifnull_n (pc := 9) (tgt := 30) cx (dA ddX7_mean (i := 5) rfl) (by decide) ?_
    refine x_aload_n (pc := 30) cx (dA ddX7_mean (i := 14) rfl) rfl ?_
    refine x_bipush (pc := 31) (v := -2) cx (dA ddX7_mean (i := 15) rfl) (by decide) ?_
    refine x_V1 (pc := 33) mX7_74 h0 (c_X7_refuse hQ (i := 0) (by decide) rfl) cx (dA ddX7_mean (i := 16) rfl) (kI ?_)
    refine x_i2l (pc := 36) cx (dA ddX7_mean (i := 17) rfl) ?_
    refine x_lreturn (pc := 37) cx (dA ddX7_mean (i := 18) rfl) (by first | exact Nat.le_of_ble_eq_true rfl | omega) (by first | exact Nat.le_of_ble_eq_true rfl | omega) ?_
    first | exact pCJ.r hO (by decide) (if_neg (fun q => ch q.1)) | exact pCJ.r hO (by decide) (if_neg (fun q => cP ⟨q.2.1, q.2.2.1⟩)) | exact pCJ.r hO (by decide) (if_neg (fun q => cr q.2.2.2))
theorem c_X7_lose {l : Launch} {Z : zP} {G : zG} {V : zV} {x : Nat} {col : Nat → Nat} {S : SX} (hRC : RC Z G V x col S) {h d t r : Int32} : CT l Z yX7_lose cX7_lose 7 (some .long) 8 0 0 [.ref x, .int h, .int d, .int t, .int r] G V (pCJ Z G V x col (fLose S h d t r)) := by
  refine CT.of (by decide +kernel) (Nat.le_of_ble_eq_true rfl) (fun X hX cx => ?_)
  subst hX
  show Wm Z X 7 G V 0 0 _ 0 [(0, some (.ref x)), (1, some (.int h)), (2, some (.int d)), (3, some (.int t)), (4, some (.int r))] []
  have hQ := hRC.1
  have h0 := hQ.1
  have hWd := hRC.2.2.2.2.1
  have c6 := hWd.2.1
  have hO := RO.refl hRC
  refine x_aload_n (pc := 0) cx (dA ddX7_lose (i := 0) rfl) rfl ?_
  refine x_iload_n (pc := 1) cx (dA ddX7_lose (i := 1) rfl) rfl ?_
  by_cases ch : okc S h
  · obtain ⟨i, hi, rfl, ti⟩ := i32_in ch
    have i6 : i < 6 := by omega
    have eX : hX S (nI i) = S.1.2.1 i := hX_at (by omega)
    have hP := (hQ.2.2.2.2.2.2.2.2.2.2.2.2 i i6).2
    obtain ⟨-, hN, zN⟩ := hWd.2.2.1 i hi
    have hB := hN.1
    have b4 := hB.1
    have n125 := st125 b4
    have h06 := hN.2.1
    refine x_V1 (pc := 2) mX7_183 h0 (hO.po hi) cx (dA ddX7_lose (i := 2) rfl) (kRx fun V2 h2 => ?_)
    obtain ⟨hO, hT⟩ := hO.tu i6 zN h2
    rw [show va_rf (some (x + 70 + 12 * i)) = .ref (x + 70 + 12 * i) from rfl]
    refine x_astore (pc := 5) cx (dA ddX7_lose (i := 3) rfl) (by decide) rfl ?_
    refine x_aload (pc := 7) cx (dA ddX7_lose (i := 4) rfl) rfl ?_
    refine x_ifnull_s (pc := 9) cx (dA ddX7_lose (i := 5) rfl) ?_
    refine x_aload (pc := 12) cx (dA ddX7_lose (i := 6) rfl) rfl ?_
    refine x_iload_n (pc := 14) cx (dA ddX7_lose (i := 7) rfl) rfl ?_
    refine x_iload_n (pc := 15) cx (dA ddX7_lose (i := 8) rfl) rfl ?_
    refine x_V2 (pc := 16) mX7_203 hP.1 (c_X1_hasPlace hP hT.1) cx (dA ddX7_lose (i := 9) rfl) (kI ?_)
    refine x_if_eq (pc := 19) (tgt := 30) cx (dA ddX7_lose (i := 10) rfl) (by decide) (fun c19 => ?_) (fun c19 => ?_)
    · have cP : ¬ (okl (hX S (nI i)) d ∧ okt (hX S (nI i)) t) := by rw [eX]; exact b2i_eq c19
      refine x_aload_n (pc := 30) cx (dA ddX7_lose (i := 14) rfl) rfl ?_
      refine x_bipush (pc := 31) (v := -2) cx (dA ddX7_lose (i := 15) rfl) (by decide) ?_
      refine x_V1 (pc := 33) mX7_74 h0 (c_X7_refuse hQ (i := 0) (by decide) rfl) cx (dA ddX7_lose (i := 16) rfl) (kI ?_)
      refine x_i2l (pc := 36) cx (dA ddX7_lose (i := 17) rfl) ?_
      refine x_lreturn (pc := 37) cx (dA ddX7_lose (i := 18) rfl) (by first | exact Nat.le_of_ble_eq_true rfl | omega) (by first | exact Nat.le_of_ble_eq_true rfl | omega) ?_
      first | exact pCJ.r hO (by decide) (if_neg (fun q => ch q.1)) | exact pCJ.r hO (by decide) (if_neg (fun q => cP ⟨q.2.1, q.2.2.1⟩)) | exact pCJ.r hO (by decide) (if_neg (fun q => cr q.2.2.2))
    · have cP := b2i_ne c19
      obtain ⟨d, hd, rfl, td⟩ := i32_in (x := d) (n := S.1.2.1 i 0 + 1) ⟨cP.1.1, by have := cP.1.2; omega⟩
      obtain ⟨t, ht, rfl, tt⟩ := i32_in (x := t) (n := 5 ^ S.1.2.1 i 4) cP.2
      have cP : okl (hX S (nI i)) (nI d) ∧ okt (hX S (nI i)) (nI t) := by rw [eX]; exact cP
      refine x_iload (pc := 22) cx (dA ddX7_lose (i := 11) rfl) rfl ?_
      refine x_S1 (pc := 24) mX7_70 c_X7_isShelf cx (dA ddX7_lose (i := 12) rfl) (kI ?_)
      refine x_if_ne (pc := 27) (tgt := 38) cx (dA ddX7_lose (i := 13) rfl) (by decide) (fun c27 => ?_) (fun c27 => ?_)
      · have cr0 := b2i_ne c27
        obtain ⟨r, hr, rfl, tr⟩ := i32_in (x := r) (n := 8) cr0
        have cr : oks (nI r) := cr0
        refine x_aload_n (pc := 38) cx (dA ddX7_lose (i := 19) rfl) rfl ?_
        refine x_aload (pc := 39) cx (dA ddX7_lose (i := 20) rfl) rfl ?_
        refine x_iload (pc := 41) cx (dA ddX7_lose (i := 21) rfl) rfl ?_
        rcases sh3 (S.2.2.2.1 r) with e | ⟨q, e⟩ | ⟨q, e⟩
        · obtain ⟨e7, e8⟩ := hO.1.sh0 hr e
          refine x_V2 (pc := 43) mX7_245 h0 (c_X7_ruleFor_n hQ hP hT.1 e8) cx (dA ddX7_lose (i := 22) rfl) (kR ?_)
          rw [show va_rf none = .null from rfl]
          refine x_astoreN (pc := 46) cx (dA ddX7_lose (i := 23) rfl) (by decide) rfl ?_
          refine x_aloadN (pc := 48) cx (dA ddX7_lose (i := 24) rfl) rfl ?_
          refine x_ifnonnull_n (pc := 50) cx (dA ddX7_lose (i := 25) rfl) ?_
          refine x_aload_n (pc := 53) cx (dA ddX7_lose (i := 26) rfl) rfl ?_
          refine x_aload_n (pc := 54) cx (dA ddX7_lose (i := 27) rfl) rfl ?_
          refine x_iload (pc := 55) cx (dA ddX7_lose (i := 28) rfl) rfl ?_
          refine x_V1 (pc := 57) mX7_89 h0 (c_X7_lackOnShelf hQ) cx (dA ddX7_lose (i := 29) rfl) (kI ?_)
          rw [if_pos ⟨e7, e8⟩]
          refine x_V1 (pc := 60) mX7_74 h0 (c_X7_refuse hQ (i := 2) (by decide) rfl) cx (dA ddX7_lose (i := 30) rfl) (kI ?_)
          refine x_i2l (pc := 63) cx (dA ddX7_lose (i := 31) rfl) ?_
          refine x_lreturn (pc := 64) cx (dA ddX7_lose (i := 32) rfl) (by first | exact Nat.le_of_ble_eq_true rfl | omega) (by first | exact Nat.le_of_ble_eq_true rfl | omega) ?_
          exact pCJ.r hO (by decide) (by unfold fLose; rw [if_pos ⟨ch, cP.1, cP.2, cr⟩]; exact byJ_n ((shX_at hr).trans e))
        · obtain ⟨e8, a, e7, hRw, rT, t5, rE, -, -⟩ := hO.1.shl hr e
          refine x_V2 (pc := 43) mX7_245 h0 (c_X7_ruleFor_n hQ hP hT.1 e8) cx (dA ddX7_lose (i := 22) rfl) (kR ?_)
          rw [show va_rf none = .null from rfl]
          refine x_astoreN (pc := 46) cx (dA ddX7_lose (i := 23) rfl) (by decide) rfl ?_
          refine x_aloadN (pc := 48) cx (dA ddX7_lose (i := 24) rfl) rfl ?_
          refine x_ifnonnull_n (pc := 50) cx (dA ddX7_lose (i := 25) rfl) ?_
          refine x_aload_n (pc := 53) cx (dA ddX7_lose (i := 26) rfl) rfl ?_
          refine x_aload_n (pc := 54) cx (dA ddX7_lose (i := 27) rfl) rfl ?_
          refine x_iload (pc := 55) cx (dA ddX7_lose (i := 28) rfl) rfl ?_
          refine x_V1 (pc := 57) mX7_89 h0 (c_X7_lackOnShelf hQ) cx (dA ddX7_lose (i := 29) rfl) (kI ?_)
          rw [if_neg (fun z => by rw [e7] at z; cases z.1)]
          refine x_V1 (pc := 60) mX7_74 h0 (c_X7_refuse hQ (i := 1) (by decide) rfl) cx (dA ddX7_lose (i := 30) rfl) (kI ?_)
          refine x_i2l (pc := 63) cx (dA ddX7_lose (i := 31) rfl) ?_
          refine x_lreturn (pc := 64) cx (dA ddX7_lose (i := 32) rfl) (by first | exact Nat.le_of_ble_eq_true rfl | omega) (by first | exact Nat.le_of_ble_eq_true rfl | omega) ?_
          exact pCJ.r hO (by decide) (by unfold fLose; rw [if_pos ⟨ch, cP.1, cP.2, cr⟩]; exact byJ_r ((shX_at hr).trans e))
        · obtain ⟨e7, a, e8, hR⟩ := hO.1.shr hr e
          obtain ⟨K, hC⟩ := hT.2.1
          refine x_V2 (pc := 43) mX7_245 h0 (c_X7_ruleFor hQ hP hT.1 hC hR.1 e8) cx (dA ddX7_lose (i := 22) rfl) (kRx fun V2 h2 => ?_)
          obtain ⟨K2, hk, hk4, h2⟩ := h2
          obtain ⟨hO, hT⟩ := hO.pw i6 zN hT h2
          have hC := h2.2.1
          obtain ⟨-, a2, e82, hR⟩ := hO.1.shr hr e
          rw [e8] at e82
          cases e82
          rw [show va_rf (some a) = .ref a from rfl]
          refine x_astore (pc := 46) cx (dA ddX7_lose (i := 23) rfl) (by decide) rfl ?_
          refine x_aload (pc := 48) cx (dA ddX7_lose (i := 24) rfl) rfl ?_
          refine x_ifnonnull_s (pc := 50) (tgt := 65) cx (dA ddX7_lose (i := 25) rfl) (by decide) ?_
          refine x_aload (pc := 65) cx (dA ddX7_lose (i := 33) rfl) rfl ?_
          refine x_aload (pc := 67) cx (dA ddX7_lose (i := 34) rfl) rfl ?_
          refine x_iload_n (pc := 69) cx (dA ddX7_lose (i := 35) rfl) rfl ?_
          refine x_iload_n (pc := 70) cx (dA ddX7_lose (i := 36) rfl) rfl ?_
          refine x_V3 (pc := 71) mX7_253 hP.1 (c_X1_costBy hP hT.1 hC hR.1 (z := d) (by omega) ht (fun e => by have := hk4 e; omega)) cx (dA ddX7_lose (i := 37) rfl) (kJx fun V2 h2 => ?_)
          obtain ⟨hO, hT⟩ := hO.px i6 zN hT h2
          refine x_aload (pc := 74) cx (dA ddX7_lose (i := 38) rfl) rfl ?_
          refine x_iload_n (pc := 76) cx (dA ddX7_lose (i := 39) rfl) rfl ?_
          refine x_iload_n (pc := 77) cx (dA ddX7_lose (i := 40) rfl) rfl ?_
          obtain ⟨K, hC⟩ := hT.2.1
          refine x_V2 (pc := 78) mX7_205 hP.1 (c_X1_leastCost hP hT.1 hC (z := d) (by omega) ht) cx (dA ddX7_lose (i := 41) rfl) (kJx fun V2 h2 => ?_)
          obtain ⟨hO, hT⟩ := hO.px i6 zN hT h2
          refine x_lsub (pc := 81) cx (dA ddX7_lose (i := 42) rfl) ?_
          refine x_lreturn (pc := 82) cx (dA ddX7_lose (i := 43) rfl) (by first | exact Nat.le_of_ble_eq_true rfl | omega) (by first | exact Nat.le_of_ble_eq_true rfl | omega) ?_
          exact pCJ.q hO (by unfold fLose; rw [if_pos ⟨ch, cP.1, cP.2, cr⟩, byJ_q ((shX_at hr).trans e)]; simp only [hX, ti, td, tt];  rw [rC_s])
      · have cr := b2i_eq c27
        refine x_aload_n (pc := 30) cx (dA ddX7_lose (i := 14) rfl) rfl ?_
        refine x_bipush (pc := 31) (v := -2) cx (dA ddX7_lose (i := 15) rfl) (by decide) ?_
        refine x_V1 (pc := 33) mX7_74 h0 (c_X7_refuse hQ (i := 0) (by decide) rfl) cx (dA ddX7_lose (i := 16) rfl) (kI ?_)
        refine x_i2l (pc := 36) cx (dA ddX7_lose (i := 17) rfl) ?_
        refine x_lreturn (pc := 37) cx (dA ddX7_lose (i := 18) rfl) (by first | exact Nat.le_of_ble_eq_true rfl | omega) (by first | exact Nat.le_of_ble_eq_true rfl | omega) ?_
        first | exact pCJ.r hO (by decide) (if_neg (fun q => ch q.1)) | exact pCJ.r hO (by decide) (if_neg (fun q => cP ⟨q.2.1, q.2.2.1⟩)) | exact pCJ.r hO (by decide) (if_neg (fun q => cr q.2.2.2))
  · refine x_V1 (pc := 2) mX7_183 h0 (hO.pn ch) cx (dA ddX7_lose (i := 2) rfl) (kR ?_)
    rw [show va_rf none = .null from rfl]
    refine x_astoreN (pc := 5) cx (dA ddX7_lose (i := 3) rfl) (by decide) rfl ?_
    refine x_aloadN (pc := 7) cx (dA ddX7_lose (i := 4) rfl) rfl ?_
    refine x_ifnull_n (pc := 9) (tgt := 30) cx (dA ddX7_lose (i := 5) rfl) (by decide) ?_
    refine x_aload_n (pc := 30) cx (dA ddX7_lose (i := 14) rfl) rfl ?_
    refine x_bipush (pc := 31) (v := -2) cx (dA ddX7_lose (i := 15) rfl) (by decide) ?_
    refine x_V1 (pc := 33) mX7_74 h0 (c_X7_refuse hQ (i := 0) (by decide) rfl) cx (dA ddX7_lose (i := 16) rfl) (kI ?_)
    refine x_i2l (pc := 36) cx (dA ddX7_lose (i := 17) rfl) ?_
    refine x_lreturn (pc := 37) cx (dA ddX7_lose (i := 18) rfl) (by first | exact Nat.le_of_ble_eq_true rfl | omega) (by first | exact Nat.le_of_ble_eq_true rfl | omega) ?_
    first | exact pCJ.r hO (by decide) (if_neg (fun q => ch q.1)) | exact pCJ.r hO (by decide) (if_neg (fun q => cP ⟨q.2.1, q.2.2.1⟩)) | exact pCJ.r hO (by decide) (if_neg (fun q => cr q.2.2.2))
theorem c_X7_reach {l : Launch} {Z : zP} {G : zG} {V : zV} {x : Nat} {col : Nat → Nat} {S : SX} (hRC : RC Z G V x col S) {h d r : Int32} : CT l Z yX7_reach cX7_reach 6 (some .int) 8 0 0 [.ref x, .int h, .int d, .int r] G V (pCI Z G V x col (fReach S h d r)) := by
  refine CT.of (by decide +kernel) (Nat.le_of_ble_eq_true rfl) (fun X hX cx => ?_)
  subst hX
  show Wm Z X 6 G V 0 0 _ 0 [(0, some (.ref x)), (1, some (.int h)), (2, some (.int d)), (3, some (.int r))] []
  have hQ := hRC.1
  have h0 := hQ.1
  have hWd := hRC.2.2.2.2.1
  have c6 := hWd.2.1
  have hO := RO.refl hRC
  refine x_aload_n (pc := 0) cx (dA ddX7_reach (i := 0) rfl) rfl ?_
  refine x_iload_n (pc := 1) cx (dA ddX7_reach (i := 1) rfl) rfl ?_
  by_cases ch : okc S h
  · obtain ⟨i, hi, rfl, ti⟩ := i32_in ch
    have i6 : i < 6 := by omega
    have eX : hX S (nI i) = S.1.2.1 i := hX_at (by omega)
    have hP := (hQ.2.2.2.2.2.2.2.2.2.2.2.2 i i6).2
    obtain ⟨-, hN, zN⟩ := hWd.2.2.1 i hi
    have hB := hN.1
    have b4 := hB.1
    have n125 := st125 b4
    have h06 := hN.2.1
    refine x_V1 (pc := 2) mX7_183 h0 (hO.po hi) cx (dA ddX7_reach (i := 2) rfl) (kRx fun V2 h2 => ?_)
    obtain ⟨hO, hT⟩ := hO.tu i6 zN h2
    rw [show va_rf (some (x + 70 + 12 * i)) = .ref (x + 70 + 12 * i) from rfl]
    refine x_astore (pc := 5) cx (dA ddX7_reach (i := 3) rfl) (by decide) rfl ?_
    refine x_aload (pc := 7) cx (dA ddX7_reach (i := 4) rfl) rfl ?_
    refine x_ifnull_s (pc := 9) cx (dA ddX7_reach (i := 5) rfl) ?_
    refine x_aload (pc := 12) cx (dA ddX7_reach (i := 6) rfl) rfl ?_
    refine x_iload_n (pc := 14) cx (dA ddX7_reach (i := 7) rfl) rfl ?_
    refine x_iconst (pc := 15) (v := nI 0) cx (dA ddX7_reach (i := 8) rfl) (by decide) ?_
    refine x_V2 (pc := 16) mX7_203 hP.1 (c_X1_hasPlace hP hT.1) cx (dA ddX7_reach (i := 9) rfl) (kI ?_)
    refine x_if_eq (pc := 19) (tgt := 29) cx (dA ddX7_reach (i := 10) rfl) (by decide) (fun c19 => ?_) (fun c19 => ?_)
    · have cP : ¬ okl (hX S (nI i)) d := by rw [eX]; exact fun q => b2i_eq c19 ⟨q, z0t _⟩
      refine x_aload_n (pc := 29) cx (dA ddX7_reach (i := 14) rfl) rfl ?_
      refine x_bipush (pc := 30) (v := -2) cx (dA ddX7_reach (i := 15) rfl) (by decide) ?_
      refine x_V1 (pc := 32) mX7_74 h0 (c_X7_refuse hQ (i := 0) (by decide) rfl) cx (dA ddX7_reach (i := 16) rfl) (kI ?_)
      refine x_ireturn (pc := 35) cx (dA ddX7_reach (i := 17) rfl) (by first | exact Nat.le_of_ble_eq_true rfl | omega) (by first | exact Nat.le_of_ble_eq_true rfl | omega) ?_
      first | exact pCI.r hO (by decide) (if_neg (fun q => ch q.1)) | exact pCI.r hO (by decide) (if_neg (fun q => cP q.2.1)) | exact pCI.r hO (by decide) (if_neg (fun q => cr q.2.2))
    · have cP := b2i_ne c19
      obtain ⟨d, hd, rfl, td⟩ := i32_in (x := d) (n := S.1.2.1 i 0 + 1) ⟨cP.1.1, by have := cP.1.2; omega⟩
      have cP : okl (hX S (nI i)) (nI d) := by rw [eX]; exact cP.1
      refine x_iload_n (pc := 22) cx (dA ddX7_reach (i := 11) rfl) rfl ?_
      refine x_S1 (pc := 23) mX7_70 c_X7_isShelf cx (dA ddX7_reach (i := 12) rfl) (kI ?_)
      refine x_if_ne (pc := 26) (tgt := 36) cx (dA ddX7_reach (i := 13) rfl) (by decide) (fun c26 => ?_) (fun c26 => ?_)
      · have cr0 := b2i_ne c26
        obtain ⟨r, hr, rfl, tr⟩ := i32_in (x := r) (n := 8) cr0
        have cr : oks (nI r) := cr0
        refine x_aload_n (pc := 36) cx (dA ddX7_reach (i := 18) rfl) rfl ?_
        refine x_aload (pc := 37) cx (dA ddX7_reach (i := 19) rfl) rfl ?_
        refine x_iload_n (pc := 39) cx (dA ddX7_reach (i := 20) rfl) rfl ?_
        rcases sh3 (S.2.2.2.1 r) with e | ⟨q, e⟩ | ⟨q, e⟩
        · obtain ⟨e7, e8⟩ := hO.1.sh0 hr e
          refine x_V2 (pc := 40) mX7_245 h0 (c_X7_ruleFor_n hQ hP hT.1 e8) cx (dA ddX7_reach (i := 21) rfl) (kR ?_)
          rw [show va_rf none = .null from rfl]
          refine x_astoreN (pc := 43) cx (dA ddX7_reach (i := 22) rfl) (by decide) rfl ?_
          refine x_aloadN (pc := 45) cx (dA ddX7_reach (i := 23) rfl) rfl ?_
          refine x_ifnonnull_n (pc := 47) cx (dA ddX7_reach (i := 24) rfl) ?_
          refine x_aload_n (pc := 50) cx (dA ddX7_reach (i := 25) rfl) rfl ?_
          refine x_aload_n (pc := 51) cx (dA ddX7_reach (i := 26) rfl) rfl ?_
          refine x_iload_n (pc := 52) cx (dA ddX7_reach (i := 27) rfl) rfl ?_
          refine x_V1 (pc := 53) mX7_89 h0 (c_X7_lackOnShelf hQ) cx (dA ddX7_reach (i := 28) rfl) (kI ?_)
          rw [if_pos ⟨e7, e8⟩]
          refine x_V1 (pc := 56) mX7_74 h0 (c_X7_refuse hQ (i := 2) (by decide) rfl) cx (dA ddX7_reach (i := 29) rfl) (kI ?_)
          refine x_goto (pc := 59) (tgt := 70) cx (dA ddX7_reach (i := 30) rfl) (by decide) ?_
          refine x_ireturn (pc := 70) cx (dA ddX7_reach (i := 35) rfl) (by first | exact Nat.le_of_ble_eq_true rfl | omega) (by first | exact Nat.le_of_ble_eq_true rfl | omega) ?_
          exact pCI.r hO (by decide) (by unfold fReach; rw [if_pos ⟨ch, cP, cr⟩]; exact byI_n ((shX_at hr).trans e))
        · obtain ⟨e8, a, e7, hRw, rT, t5, rE, -, -⟩ := hO.1.shl hr e
          refine x_V2 (pc := 40) mX7_245 h0 (c_X7_ruleFor_n hQ hP hT.1 e8) cx (dA ddX7_reach (i := 21) rfl) (kR ?_)
          rw [show va_rf none = .null from rfl]
          refine x_astoreN (pc := 43) cx (dA ddX7_reach (i := 22) rfl) (by decide) rfl ?_
          refine x_aloadN (pc := 45) cx (dA ddX7_reach (i := 23) rfl) rfl ?_
          refine x_ifnonnull_n (pc := 47) cx (dA ddX7_reach (i := 24) rfl) ?_
          refine x_aload_n (pc := 50) cx (dA ddX7_reach (i := 25) rfl) rfl ?_
          refine x_aload_n (pc := 51) cx (dA ddX7_reach (i := 26) rfl) rfl ?_
          refine x_iload_n (pc := 52) cx (dA ddX7_reach (i := 27) rfl) rfl ?_
          refine x_V1 (pc := 53) mX7_89 h0 (c_X7_lackOnShelf hQ) cx (dA ddX7_reach (i := 28) rfl) (kI ?_)
          rw [if_neg (fun z => by rw [e7] at z; cases z.1)]
          refine x_V1 (pc := 56) mX7_74 h0 (c_X7_refuse hQ (i := 1) (by decide) rfl) cx (dA ddX7_reach (i := 29) rfl) (kI ?_)
          refine x_goto (pc := 59) (tgt := 70) cx (dA ddX7_reach (i := 30) rfl) (by decide) ?_
          refine x_ireturn (pc := 70) cx (dA ddX7_reach (i := 35) rfl) (by first | exact Nat.le_of_ble_eq_true rfl | omega) (by first | exact Nat.le_of_ble_eq_true rfl | omega) ?_
          exact pCI.r hO (by decide) (by unfold fReach; rw [if_pos ⟨ch, cP, cr⟩]; exact byI_r ((shX_at hr).trans e))
        · obtain ⟨e7, a, e8, hR⟩ := hO.1.shr hr e
          obtain ⟨K, hC⟩ := hT.2.1
          refine x_V2 (pc := 40) mX7_245 h0 (c_X7_ruleFor hQ hP hT.1 hC hR.1 e8) cx (dA ddX7_reach (i := 21) rfl) (kRx fun V2 h2 => ?_)
          obtain ⟨K2, hk, hk4, h2⟩ := h2
          obtain ⟨hO, hT⟩ := hO.pw i6 zN hT h2
          have hC := h2.2.1
          obtain ⟨-, a2, e82, hR⟩ := hO.1.shr hr e
          rw [e8] at e82
          cases e82
          rw [show va_rf (some a) = .ref a from rfl]
          refine x_astore (pc := 43) cx (dA ddX7_reach (i := 22) rfl) (by decide) rfl ?_
          refine x_aload (pc := 45) cx (dA ddX7_reach (i := 23) rfl) rfl ?_
          refine x_ifnonnull_s (pc := 47) (tgt := 62) cx (dA ddX7_reach (i := 24) rfl) (by decide) ?_
          refine x_aload (pc := 62) cx (dA ddX7_reach (i := 31) rfl) rfl ?_
          refine x_aload (pc := 64) cx (dA ddX7_reach (i := 32) rfl) rfl ?_
          refine x_iload_n (pc := 66) cx (dA ddX7_reach (i := 33) rfl) rfl ?_
          refine x_V2 (pc := 67) mX7_260 hP.1 (c_X1_statesBy hP hT.1 hC hR.1 (z := d) (by omega) (fun e => by have := hk4 e; omega)) cx (dA ddX7_reach (i := 34) rfl) (kI ?_)
          refine x_ireturn (pc := 70) cx (dA ddX7_reach (i := 35) rfl) (by first | exact Nat.le_of_ble_eq_true rfl | omega) (by first | exact Nat.le_of_ble_eq_true rfl | omega) ?_
          exact pCI.q (hO.ch i6 zN hT) (by unfold fReach; rw [if_pos ⟨ch, cP, cr⟩, byI_q ((shX_at hr).trans e)]; simp only [hX, ti, td]; rfl)
      · have cr := b2i_eq c26
        refine x_aload_n (pc := 29) cx (dA ddX7_reach (i := 14) rfl) rfl ?_
        refine x_bipush (pc := 30) (v := -2) cx (dA ddX7_reach (i := 15) rfl) (by decide) ?_
        refine x_V1 (pc := 32) mX7_74 h0 (c_X7_refuse hQ (i := 0) (by decide) rfl) cx (dA ddX7_reach (i := 16) rfl) (kI ?_)
        refine x_ireturn (pc := 35) cx (dA ddX7_reach (i := 17) rfl) (by first | exact Nat.le_of_ble_eq_true rfl | omega) (by first | exact Nat.le_of_ble_eq_true rfl | omega) ?_
        first | exact pCI.r hO (by decide) (if_neg (fun q => ch q.1)) | exact pCI.r hO (by decide) (if_neg (fun q => cP q.2.1)) | exact pCI.r hO (by decide) (if_neg (fun q => cr q.2.2))
  · refine x_V1 (pc := 2) mX7_183 h0 (hO.pn ch) cx (dA ddX7_reach (i := 2) rfl) (kR ?_)
    rw [show va_rf none = .null from rfl]
    refine x_astoreN (pc := 5) cx (dA ddX7_reach (i := 3) rfl) (by decide) rfl ?_
    refine x_aloadN (pc := 7) cx (dA ddX7_reach (i := 4) rfl) rfl ?_
    refine x_ifnull_n (pc := 9) (tgt := 29) cx (dA ddX7_reach (i := 5) rfl) (by decide) ?_
    refine x_aload_n (pc := 29) cx (dA ddX7_reach (i := 14) rfl) rfl ?_
    refine x_bipush (pc := 30) (v := -2) cx (dA ddX7_reach (i := 15) rfl) (by decide) ?_
    refine x_V1 (pc := 32) mX7_74 h0 (c_X7_refuse hQ (i := 0) (by decide) rfl) cx (dA ddX7_reach (i := 16) rfl) (kI ?_)
    refine x_ireturn (pc := 35) cx (dA ddX7_reach (i := 17) rfl) (by first | exact Nat.le_of_ble_eq_true rfl | omega) (by first | exact Nat.le_of_ble_eq_true rfl | omega) ?_
    first | exact pCI.r hO (by decide) (if_neg (fun q => ch q.1)) | exact pCI.r hO (by decide) (if_neg (fun q => cP q.2.1)) | exact pCI.r hO (by decide) (if_neg (fun q => cr q.2.2))
theorem c_X7_boxes {l : Launch} {Z : zP} {G : zG} {V : zV} {x : Nat} {col : Nat → Nat} {S : SX} (hRC : RC Z G V x col S) {h r : Int32} : CT l Z yX7_boxes cX7_boxes 5 (some .long) 8 0 0 [.ref x, .int h, .int r] G V (pCJ Z G V x col (fBoxes S h r)) := by
  refine CT.of (by decide +kernel) (Nat.le_of_ble_eq_true rfl) (fun X hX cx => ?_)
  subst hX
  show Wm Z X 5 G V 0 0 _ 0 [(0, some (.ref x)), (1, some (.int h)), (2, some (.int r))] []
  have hQ := hRC.1
  have h0 := hQ.1
  have hWd := hRC.2.2.2.2.1
  have c6 := hWd.2.1
  have hO := RO.refl hRC
  refine x_aload_n (pc := 0) cx (dA ddX7_boxes (i := 0) rfl) rfl ?_
  refine x_iload_n (pc := 1) cx (dA ddX7_boxes (i := 1) rfl) rfl ?_
  by_cases ch : okc S h
  · obtain ⟨i, hi, rfl, ti⟩ := i32_in ch
    have i6 : i < 6 := by omega
    have eX : hX S (nI i) = S.1.2.1 i := hX_at (by omega)
    have hP := (hQ.2.2.2.2.2.2.2.2.2.2.2.2 i i6).2
    obtain ⟨-, hN, zN⟩ := hWd.2.2.1 i hi
    have hB := hN.1
    have b4 := hB.1
    have n125 := st125 b4
    have h06 := hN.2.1
    refine x_V1 (pc := 2) mX7_183 h0 (hO.po hi) cx (dA ddX7_boxes (i := 2) rfl) (kRx fun V2 h2 => ?_)
    obtain ⟨hO, hT⟩ := hO.tu i6 zN h2
    rw [show va_rf (some (x + 70 + 12 * i)) = .ref (x + 70 + 12 * i) from rfl]
    refine x_astore_n (pc := 5) cx (dA ddX7_boxes (i := 3) rfl) (by decide) rfl ?_
    refine x_aload_n (pc := 6) cx (dA ddX7_boxes (i := 4) rfl) rfl ?_
    refine x_ifnull_s (pc := 7) cx (dA ddX7_boxes (i := 5) rfl) ?_
    refine x_iload_n (pc := 10) cx (dA ddX7_boxes (i := 6) rfl) rfl ?_
    refine x_S1 (pc := 11) mX7_70 c_X7_isShelf cx (dA ddX7_boxes (i := 7) rfl) (kI ?_)
    refine x_if_ne (pc := 14) (tgt := 25) cx (dA ddX7_boxes (i := 8) rfl) (by decide) (fun c14 => ?_) (fun c14 => ?_)
    · have cr0 := b2i_ne c14
      obtain ⟨r, hr, rfl, tr⟩ := i32_in (x := r) (n := 8) cr0
      have cr : oks (nI r) := cr0
      refine x_aload_n (pc := 25) cx (dA ddX7_boxes (i := 14) rfl) rfl ?_
      refine x_aload_n (pc := 26) cx (dA ddX7_boxes (i := 15) rfl) rfl ?_
      refine x_iload_n (pc := 27) cx (dA ddX7_boxes (i := 16) rfl) rfl ?_
      rcases sh3 (S.2.2.2.1 r) with e | ⟨q, e⟩ | ⟨q, e⟩
      · obtain ⟨e7, e8⟩ := hO.1.sh0 hr e
        refine x_V2 (pc := 28) mX7_245 h0 (c_X7_ruleFor_n hQ hP hT.1 e8) cx (dA ddX7_boxes (i := 17) rfl) (kR ?_)
        rw [show va_rf none = .null from rfl]
        refine x_astoreN (pc := 31) cx (dA ddX7_boxes (i := 18) rfl) (by decide) rfl ?_
        refine x_aloadN (pc := 33) cx (dA ddX7_boxes (i := 19) rfl) rfl ?_
        refine x_ifnonnull_n (pc := 35) cx (dA ddX7_boxes (i := 20) rfl) ?_
        refine x_aload_n (pc := 38) cx (dA ddX7_boxes (i := 21) rfl) rfl ?_
        refine x_aload_n (pc := 39) cx (dA ddX7_boxes (i := 22) rfl) rfl ?_
        refine x_iload_n (pc := 40) cx (dA ddX7_boxes (i := 23) rfl) rfl ?_
        refine x_V1 (pc := 41) mX7_89 h0 (c_X7_lackOnShelf hQ) cx (dA ddX7_boxes (i := 24) rfl) (kI ?_)
        rw [if_pos ⟨e7, e8⟩]
        refine x_V1 (pc := 44) mX7_74 h0 (c_X7_refuse hQ (i := 2) (by decide) rfl) cx (dA ddX7_boxes (i := 25) rfl) (kI ?_)
        refine x_i2l (pc := 47) cx (dA ddX7_boxes (i := 26) rfl) ?_
        refine x_goto (pc := 48) (tgt := 57) cx (dA ddX7_boxes (i := 27) rfl) (by decide) ?_
        refine x_lreturn (pc := 57) cx (dA ddX7_boxes (i := 31) rfl) (by first | exact Nat.le_of_ble_eq_true rfl | omega) (by first | exact Nat.le_of_ble_eq_true rfl | omega) ?_
        exact pCJ.r hO (by decide) (by unfold fBoxes; rw [if_pos ⟨ch, cr⟩]; exact byJ_n ((shX_at hr).trans e))
      · obtain ⟨e8, a, e7, hRw, rT, t5, rE, -, -⟩ := hO.1.shl hr e
        refine x_V2 (pc := 28) mX7_245 h0 (c_X7_ruleFor_n hQ hP hT.1 e8) cx (dA ddX7_boxes (i := 17) rfl) (kR ?_)
        rw [show va_rf none = .null from rfl]
        refine x_astoreN (pc := 31) cx (dA ddX7_boxes (i := 18) rfl) (by decide) rfl ?_
        refine x_aloadN (pc := 33) cx (dA ddX7_boxes (i := 19) rfl) rfl ?_
        refine x_ifnonnull_n (pc := 35) cx (dA ddX7_boxes (i := 20) rfl) ?_
        refine x_aload_n (pc := 38) cx (dA ddX7_boxes (i := 21) rfl) rfl ?_
        refine x_aload_n (pc := 39) cx (dA ddX7_boxes (i := 22) rfl) rfl ?_
        refine x_iload_n (pc := 40) cx (dA ddX7_boxes (i := 23) rfl) rfl ?_
        refine x_V1 (pc := 41) mX7_89 h0 (c_X7_lackOnShelf hQ) cx (dA ddX7_boxes (i := 24) rfl) (kI ?_)
        rw [if_neg (fun z => by rw [e7] at z; cases z.1)]
        refine x_V1 (pc := 44) mX7_74 h0 (c_X7_refuse hQ (i := 1) (by decide) rfl) cx (dA ddX7_boxes (i := 25) rfl) (kI ?_)
        refine x_i2l (pc := 47) cx (dA ddX7_boxes (i := 26) rfl) ?_
        refine x_goto (pc := 48) (tgt := 57) cx (dA ddX7_boxes (i := 27) rfl) (by decide) ?_
        refine x_lreturn (pc := 57) cx (dA ddX7_boxes (i := 31) rfl) (by first | exact Nat.le_of_ble_eq_true rfl | omega) (by first | exact Nat.le_of_ble_eq_true rfl | omega) ?_
        exact pCJ.r hO (by decide) (by unfold fBoxes; rw [if_pos ⟨ch, cr⟩]; exact byJ_r ((shX_at hr).trans e))
      · obtain ⟨e7, a, e8, hR⟩ := hO.1.shr hr e
        obtain ⟨K, hC⟩ := hT.2.1
        refine x_V2 (pc := 28) mX7_245 h0 (c_X7_ruleFor hQ hP hT.1 hC hR.1 e8) cx (dA ddX7_boxes (i := 17) rfl) (kRx fun V2 h2 => ?_)
        obtain ⟨K2, hk, hk4, h2⟩ := h2
        obtain ⟨hO, hT⟩ := hO.pw i6 zN hT h2
        have hC := h2.2.1
        obtain ⟨-, a2, e82, hR⟩ := hO.1.shr hr e
        rw [e8] at e82
        cases e82
        rw [show va_rf (some a) = .ref a from rfl]
        refine x_astore (pc := 31) cx (dA ddX7_boxes (i := 18) rfl) (by decide) rfl ?_
        refine x_aload (pc := 33) cx (dA ddX7_boxes (i := 19) rfl) rfl ?_
        refine x_ifnonnull_s (pc := 35) (tgt := 51) cx (dA ddX7_boxes (i := 20) rfl) (by decide) ?_
        refine x_aload_n (pc := 51) cx (dA ddX7_boxes (i := 28) rfl) rfl ?_
        refine x_aload (pc := 52) cx (dA ddX7_boxes (i := 29) rfl) rfl ?_
        refine x_V1 (pc := 54) mX7_268 hP.1 (c_X1_boxesBy hP hT.1 hC hR.1 (fun e => by have := hk4 e; omega)) cx (dA ddX7_boxes (i := 30) rfl) (kJ ?_)
        refine x_lreturn (pc := 57) cx (dA ddX7_boxes (i := 31) rfl) (by first | exact Nat.le_of_ble_eq_true rfl | omega) (by first | exact Nat.le_of_ble_eq_true rfl | omega) ?_
        exact pCJ.q (hO.ch i6 zN hT) (by unfold fBoxes; rw [if_pos ⟨ch, cr⟩, byJ_q ((shX_at hr).trans e)]; simp only [hX, ti]; rfl)
    · have cr := b2i_eq c14
      refine x_aload_n (pc := 17) cx (dA ddX7_boxes (i := 9) rfl) rfl ?_
      refine x_bipush (pc := 18) (v := -2) cx (dA ddX7_boxes (i := 10) rfl) (by decide) ?_
      refine x_V1 (pc := 20) mX7_74 h0 (c_X7_refuse hQ (i := 0) (by decide) rfl) cx (dA ddX7_boxes (i := 11) rfl) (kI ?_)
      refine x_i2l (pc := 23) cx (dA ddX7_boxes (i := 12) rfl) ?_
      refine x_lreturn (pc := 24) cx (dA ddX7_boxes (i := 13) rfl) (by first | exact Nat.le_of_ble_eq_true rfl | omega) (by first | exact Nat.le_of_ble_eq_true rfl | omega) ?_
      first | exact pCJ.r hO (by decide) (if_neg (fun q => ch q.1)) | exact pCJ.r hO (by decide) (if_neg (fun q => cr q.2))
  · refine x_V1 (pc := 2) mX7_183 h0 (hO.pn ch) cx (dA ddX7_boxes (i := 2) rfl) (kR ?_)
    rw [show va_rf none = .null from rfl]
    refine x_astore_nN (pc := 5) cx (dA ddX7_boxes (i := 3) rfl) (by decide) rfl ?_
    refine x_aload_nN (pc := 6) cx (dA ddX7_boxes (i := 4) rfl) rfl ?_
    refine x_ifnull_n (pc := 7) (tgt := 17) cx (dA ddX7_boxes (i := 5) rfl) (by decide) ?_
    refine x_aload_n (pc := 17) cx (dA ddX7_boxes (i := 9) rfl) rfl ?_
    refine x_bipush (pc := 18) (v := -2) cx (dA ddX7_boxes (i := 10) rfl) (by decide) ?_
    refine x_V1 (pc := 20) mX7_74 h0 (c_X7_refuse hQ (i := 0) (by decide) rfl) cx (dA ddX7_boxes (i := 11) rfl) (kI ?_)
    refine x_i2l (pc := 23) cx (dA ddX7_boxes (i := 12) rfl) ?_
    refine x_lreturn (pc := 24) cx (dA ddX7_boxes (i := 13) rfl) (by first | exact Nat.le_of_ble_eq_true rfl | omega) (by first | exact Nat.le_of_ble_eq_true rfl | omega) ?_
    first | exact pCJ.r hO (by decide) (if_neg (fun q => ch q.1)) | exact pCJ.r hO (by decide) (if_neg (fun q => cr q.2))
