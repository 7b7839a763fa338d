theorem c_X7_load {l : Launch} {Z : zP} {G : zG} {V : zV} {x : Nat} {col : Nat → Nat} {S : SX} (hRC : RC Z G V x col S) {h d t r : Int32} : CT l Z yX7_load cX7_load 7 (some .int) 8 0 0 [.ref x, .int h, .int d, .int t, .int r] G V (pCI Z G V x col (fLoad S h d t r)) := by
  refine CT.of (by decide +kernel) (Nat.le_of_ble_eq_true rfl) (fun X hX cx => ?_)
  subst hX
  show Wm Z X 7 G V 0 0 _ 0 [(0, some (.ref x)), (1, some (.int h)), (2, some (.int d)), (3, some (.int t)), (4, some (.int r))] []
  have hQ := hRC.1
  have h0 := hQ.1
  have hWd := hRC.2.2.2.2.1
  have c6 := hWd.2.1
  have hO := RO.refl hRC
  refine x_aload_n (pc := 0) cx (dA ddX7_load (i := 0) rfl) rfl ?_
  refine x_iload_n (pc := 1) cx (dA ddX7_load (i := 1) rfl) rfl ?_
  by_cases ch : okc S h
  · obtain ⟨i, hi, rfl, ti⟩ := i32_in ch
    have i6 : i < 6 := by omega
    have eX : hX S (nI i) = S.1.2.1 i := hX_at (by omega)
    have hP := (hQ.2.2.2.2.2.2.2.2.2.2.2.2 i i6).2
    obtain ⟨-, hN, zN⟩ := hWd.2.2.1 i hi
    have hB := hN.1
    have b4 := hB.1
    have n125 := st125 b4
    have h06 := hN.2.1
    refine x_V1 (pc := 2) mX7_183 h0 (hO.po hi) cx (dA ddX7_load (i := 2) rfl) (kRx fun V2 h2 => ?_)
    obtain ⟨hO, hT⟩ := hO.tu i6 zN h2
    rw [show va_rf (some (x + 70 + 12 * i)) = .ref (x + 70 + 12 * i) from rfl]
    refine x_astore (pc := 5) cx (dA ddX7_load (i := 3) rfl) (by decide) rfl ?_
    refine x_aload (pc := 7) cx (dA ddX7_load (i := 4) rfl) rfl ?_
    refine x_ifnull_s (pc := 9) cx (dA ddX7_load (i := 5) rfl) ?_
    refine x_aload (pc := 12) cx (dA ddX7_load (i := 6) rfl) rfl ?_
    refine x_iload_n (pc := 14) cx (dA ddX7_load (i := 7) rfl) rfl ?_
    refine x_iload_n (pc := 15) cx (dA ddX7_load (i := 8) rfl) rfl ?_
    refine x_V2 (pc := 16) mX7_208 hP.1 (c_X1_hasDay hP hT.1) cx (dA ddX7_load (i := 9) rfl) (kI ?_)
    refine x_if_eq (pc := 19) (tgt := 30) cx (dA ddX7_load (i := 10) rfl) (by decide) (fun c19 => ?_) (fun c19 => ?_)
    · have cP : ¬ (okl1 (hX S (nI i)) d ∧ okt (hX S (nI i)) t) := by rw [eX]; exact b2i_eq c19
      refine x_aload_n (pc := 30) cx (dA ddX7_load (i := 14) rfl) rfl ?_
      refine x_bipush (pc := 31) (v := -2) cx (dA ddX7_load (i := 15) rfl) (by decide) ?_
      refine x_V1 (pc := 33) mX7_74 h0 (c_X7_refuse hQ (i := 0) (by decide) rfl) cx (dA ddX7_load (i := 16) rfl) (kI ?_)
      refine x_ireturn (pc := 36) cx (dA ddX7_load (i := 17) rfl) (by first | exact Nat.le_of_ble_eq_true rfl | omega) (by first | exact Nat.le_of_ble_eq_true rfl | omega) ?_
      first | exact pCI.r hO (by decide) (if_neg (fun q => ch q.1)) | exact pCI.r hO (by decide) (if_neg (fun q => cP ⟨q.2.1, q.2.2.1⟩)) | exact pCI.r hO (by decide) (if_neg (fun q => cr q.2.2.2))
    · have cP := b2i_ne c19
      obtain ⟨d, hd, rfl, td⟩ := i32_in (x := d) (n := S.1.2.1 i 0 + 1) ⟨by have := cP.1.1; omega, by have := cP.1.2; omega⟩
      obtain ⟨t, ht, rfl, tt⟩ := i32_in (x := t) (n := 5 ^ S.1.2.1 i 4) cP.2
      have cP : okl1 (hX S (nI i)) (nI d) ∧ okt (hX S (nI i)) (nI t) := by rw [eX]; exact cP
      have d1 : 1 ≤ d := by have := cP.1.1; rw [nI_toInt (by omega)] at this; omega
      refine x_iload (pc := 22) cx (dA ddX7_load (i := 11) rfl) rfl ?_
      refine x_S1 (pc := 24) mX7_70 c_X7_isShelf cx (dA ddX7_load (i := 12) rfl) (kI ?_)
      refine x_if_ne (pc := 27) (tgt := 37) cx (dA ddX7_load (i := 13) rfl) (by decide) (fun c27 => ?_) (fun c27 => ?_)
      · have cr0 := b2i_ne c27
        obtain ⟨r, hr, rfl, tr⟩ := i32_in (x := r) (n := 8) cr0
        have cr : oks (nI r) := cr0
        refine x_aload_n (pc := 37) cx (dA ddX7_load (i := 18) rfl) rfl ?_
        refine x_aload (pc := 38) cx (dA ddX7_load (i := 19) rfl) rfl ?_
        refine x_iload (pc := 40) cx (dA ddX7_load (i := 20) rfl) rfl ?_
        rcases sh3 (S.2.2.2.1 r) with e | ⟨q, e⟩ | ⟨q, e⟩
        · obtain ⟨e7, e8⟩ := hO.1.sh0 hr e
          refine x_V2 (pc := 42) mX7_245 h0 (c_X7_ruleFor_n hQ hP hT.1 e8) cx (dA ddX7_load (i := 21) rfl) (kR ?_)
          rw [show va_rf none = .null from rfl]
          refine x_astoreN (pc := 45) cx (dA ddX7_load (i := 22) rfl) (by decide) rfl ?_
          refine x_aloadN (pc := 47) cx (dA ddX7_load (i := 23) rfl) rfl ?_
          refine x_ifnonnull_n (pc := 49) cx (dA ddX7_load (i := 24) rfl) ?_
          refine x_aload_n (pc := 52) cx (dA ddX7_load (i := 25) rfl) rfl ?_
          refine x_aload_n (pc := 53) cx (dA ddX7_load (i := 26) rfl) rfl ?_
          refine x_iload (pc := 54) cx (dA ddX7_load (i := 27) rfl) rfl ?_
          refine x_V1 (pc := 56) mX7_89 h0 (c_X7_lackOnShelf hQ) cx (dA ddX7_load (i := 28) rfl) (kI ?_)
          rw [if_pos ⟨e7, e8⟩]
          refine x_V1 (pc := 59) mX7_74 h0 (c_X7_refuse hQ (i := 2) (by decide) rfl) cx (dA ddX7_load (i := 29) rfl) (kI ?_)
          refine x_goto (pc := 62) (tgt := 74) cx (dA ddX7_load (i := 30) rfl) (by decide) ?_
          refine x_ireturn (pc := 74) cx (dA ddX7_load (i := 36) rfl) (by first | exact Nat.le_of_ble_eq_true rfl | omega) (by first | exact Nat.le_of_ble_eq_true rfl | omega) ?_
          exact pCI.r hO (by decide) (by unfold fLoad; rw [if_pos ⟨ch, cP.1, cP.2, cr⟩]; exact byI_n ((shX_at hr).trans e))
        · obtain ⟨e8, a, e7, hRw, rT, t5, rE, -, -⟩ := hO.1.shl hr e
          refine x_V2 (pc := 42) mX7_245 h0 (c_X7_ruleFor_n hQ hP hT.1 e8) cx (dA ddX7_load (i := 21) rfl) (kR ?_)
          rw [show va_rf none = .null from rfl]
          refine x_astoreN (pc := 45) cx (dA ddX7_load (i := 22) rfl) (by decide) rfl ?_
          refine x_aloadN (pc := 47) cx (dA ddX7_load (i := 23) rfl) rfl ?_
          refine x_ifnonnull_n (pc := 49) cx (dA ddX7_load (i := 24) rfl) ?_
          refine x_aload_n (pc := 52) cx (dA ddX7_load (i := 25) rfl) rfl ?_
          refine x_aload_n (pc := 53) cx (dA ddX7_load (i := 26) rfl) rfl ?_
          refine x_iload (pc := 54) cx (dA ddX7_load (i := 27) rfl) rfl ?_
          refine x_V1 (pc := 56) mX7_89 h0 (c_X7_lackOnShelf hQ) cx (dA ddX7_load (i := 28) rfl) (kI ?_)
          rw [if_neg (fun z => by rw [e7] at z; cases z.1)]
          refine x_V1 (pc := 59) mX7_74 h0 (c_X7_refuse hQ (i := 1) (by decide) rfl) cx (dA ddX7_load (i := 29) rfl) (kI ?_)
          refine x_goto (pc := 62) (tgt := 74) cx (dA ddX7_load (i := 30) rfl) (by decide) ?_
          refine x_ireturn (pc := 74) cx (dA ddX7_load (i := 36) rfl) (by first | exact Nat.le_of_ble_eq_true rfl | omega) (by first | exact Nat.le_of_ble_eq_true rfl | omega) ?_
          exact pCI.r hO (by decide) (by unfold fLoad; rw [if_pos ⟨ch, cP.1, cP.2, cr⟩]; exact byI_r ((shX_at hr).trans e))
        · obtain ⟨e7, a, e8, hR⟩ := hO.1.shr hr e
          obtain ⟨K, hC⟩ := hT.2.1
          refine x_V2 (pc := 42) mX7_245 h0 (c_X7_ruleFor hQ hP hT.1 hC hR.1 e8) cx (dA ddX7_load (i := 21) rfl) (kRx fun V2 h2 => ?_)
          obtain ⟨K2, hk, hk4, h2⟩ := h2
          obtain ⟨hO, hT⟩ := hO.pw i6 zN hT h2
          have hC := h2.2.1
          obtain ⟨-, a2, e82, hR⟩ := hO.1.shr hr e
          rw [e8] at e82
          cases e82
          rw [show va_rf (some a) = .ref a from rfl]
          refine x_astore (pc := 45) cx (dA ddX7_load (i := 22) rfl) (by decide) rfl ?_
          refine x_aload (pc := 47) cx (dA ddX7_load (i := 23) rfl) rfl ?_
          refine x_ifnonnull_s (pc := 49) (tgt := 65) cx (dA ddX7_load (i := 24) rfl) (by decide) ?_
          refine x_aload (pc := 65) cx (dA ddX7_load (i := 31) rfl) rfl ?_
          refine x_aload (pc := 67) cx (dA ddX7_load (i := 32) rfl) rfl ?_
          refine x_iload_n (pc := 69) cx (dA ddX7_load (i := 33) rfl) rfl ?_
          refine x_iload_n (pc := 70) cx (dA ddX7_load (i := 34) rfl) rfl ?_
          refine x_V3 (pc := 71) mX7_249 hP.1 (c_X1_loadBy hP hT.1 hR.1 (d := d) (by omega) ht (fun e s hs => (hC.2.2.2 d d1 (by have := hk4 e; omega) s hs).2)) cx (dA ddX7_load (i := 35) rfl) (kI ?_)
          refine x_ireturn (pc := 74) cx (dA ddX7_load (i := 36) rfl) (by first | exact Nat.le_of_ble_eq_true rfl | omega) (by first | exact Nat.le_of_ble_eq_true rfl | omega) ?_
          exact pCI.q hO (by unfold fLoad; rw [if_pos ⟨ch, cP.1, cP.2, cr⟩, byI_q ((shX_at hr).trans e)]; simp only [hX, ti, td, tt, ruR])
      · have cr := b2i_eq c27
        refine x_aload_n (pc := 30) cx (dA ddX7_load (i := 14) rfl) rfl ?_
        refine x_bipush (pc := 31) (v := -2) cx (dA ddX7_load (i := 15) rfl) (by decide) ?_
        refine x_V1 (pc := 33) mX7_74 h0 (c_X7_refuse hQ (i := 0) (by decide) rfl) cx (dA ddX7_load (i := 16) rfl) (kI ?_)
        refine x_ireturn (pc := 36) cx (dA ddX7_load (i := 17) rfl) (by first | exact Nat.le_of_ble_eq_true rfl | omega) (by first | exact Nat.le_of_ble_eq_true rfl | omega) ?_
        first | exact pCI.r hO (by decide) (if_neg (fun q => ch q.1)) | exact pCI.r hO (by decide) (if_neg (fun q => cP ⟨q.2.1, q.2.2.1⟩)) | exact pCI.r hO (by decide) (if_neg (fun q => cr q.2.2.2))
  · refine x_V1 (pc := 2) mX7_183 h0 (hO.pn ch) cx (dA ddX7_load (i := 2) rfl) (kR ?_)
    rw [show va_rf none = .null from rfl]
    refine x_astoreN (pc := 5) cx (dA ddX7_load (i := 3) rfl) (by decide) rfl ?_
    refine x_aloadN (pc := 7) cx (dA ddX7_load (i := 4) rfl) rfl ?_
    refine x_ifnull_n (pc := 9) (tgt := 30) cx (dA ddX7_load (i := 5) rfl) (by decide) ?_
    refine x_aload_n (pc := 30) cx (dA ddX7_load (i := 14) rfl) rfl ?_
    refine x_bipush (pc := 31) (v := -2) cx (dA ddX7_load (i := 15) rfl) (by decide) ?_
    refine x_V1 (pc := 33) mX7_74 h0 (c_X7_refuse hQ (i := 0) (by decide) rfl) cx (dA ddX7_load (i := 16) rfl) (kI ?_)
    refine x_ireturn (pc := 36) cx (dA ddX7_load (i := 17) rfl) (by first | exact Nat.le_of_ble_eq_true rfl | omega) (by first | exact Nat.le_of_ble_eq_true rfl | omega) ?_
    first | exact pCI.r hO (by decide) (if_neg (fun q => ch q.1)) | exact pCI.r hO (by decide) (if_neg (fun q => cP ⟨q.2.1, q.2.2.1⟩)) | exact pCI.r hO (by decide) (if_neg (fun q => cr q.2.2.2))
theorem c_X7_mean {l : Launch} {Z : zP} {G : zG} {V : zV} {x : Nat} {col : Nat → Nat} {S : SX} (hRC : RC Z G V x col S) {h d t r : Int32} : CT l Z yX7_mean cX7_mean 7 (some .long) 8 0 0 [.ref x, .int h, .int d, .int t, .int r] G V (pCJ Z G V x col (fMean S h d t r)) := by
  refine CT.of (by decide +kernel) (Nat.le_of_ble_eq_true rfl) (fun X hX cx => ?_)
  subst hX
  show Wm Z X 7 G V 0 0 _ 0 [(0, some (.ref x)), (1, some (.int h)), (2, some (.int d)), (3, some (.int t)), (4, some (.int r))] []
  have hQ := hRC.1
  have h0 := hQ.1
  have hWd := hRC.2.2.2.2.1
  have c6 := hWd.2.1
  have hO := RO.refl hRC
  refine x_aload_n (pc := 0) cx (dA ddX7_mean (i := 0) rfl) rfl ?_
  refine x_iload_n (pc := 1) cx (dA ddX7_mean (i := 1) rfl) rfl ?_
  by_cases ch : okc S h
  · obtain ⟨i, hi, rfl, ti⟩ := i32_in ch
    have i6 : i < 6 := by omega
    have eX : hX S (nI i) = S.1.2.1 i := hX_at (by omega)
    have hP := (hQ.2.2.2.2.2.2.2.2.2.2.2.2 i i6).2
    obtain ⟨-, hN, zN⟩ := hWd.2.2.1 i hi
    have hB := hN.1
    have b4 := hB.1
    have n125 := st125 b4
    have h06 := hN.2.1
    refine x_V1 (pc := 2) mX7_183 h0 (hO.po hi) cx (dA ddX7_mean (i := 2) rfl) (kRx fun V2 h2 => ?_)
    obtain ⟨hO, hT⟩ := hO.tu i6 zN h2
    rw [show va_rf (some (x + 70 + 12 * i)) = .ref (x + 70 + 12 * i) from rfl]
    refine x_astore (pc := 5) cx (dA ddX7_mean (i := 3) rfl) (by decide) rfl ?_
    refine x_aload (pc := 7) cx (dA ddX7_mean (i := 4) rfl) rfl ?_
    refine x_ifnull_s (pc := 9) cx (dA ddX7_mean (i := 5) rfl) ?_
    refine x_aload (pc := 12) cx (dA ddX7_mean (i := 6) rfl) rfl ?_
    refine x_iload_n (pc := 14) cx (dA ddX7_mean (i := 7) rfl) rfl ?_
    refine x_iload_n (pc := 15) cx (dA ddX7_mean (i := 8) rfl) rfl ?_
    refine x_V2 (pc := 16) mX7_203 hP.1 (c_X1_hasPlace hP hT.1) cx (dA ddX7_mean (i := 9) rfl) (kI ?_)
    refine x_if_eq (pc := 19) (tgt := 30) cx (dA ddX7_mean (i := 10) rfl) (by decide) (fun c19 => ?_) (fun c19 => ?_)
    · have cP : ¬ (okl (hX S (nI i)) d ∧ okt (hX S (nI i)) t) := by rw [eX]; exact b2i_eq c19
      refine x_aload_n (pc := 30) cx (dA ddX7_mean (i := 14) rfl) rfl ?_
      refine x_bipush (pc := 31) (v := -2) cx (dA ddX7_mean (i := 15) rfl) (by decide) ?_
      refine x_V1 (pc := 33) mX7_74 h0 (c_X7_refuse hQ (i := 0) (by decide) rfl) cx (dA ddX7_mean (i := 16) rfl) (kI ?_)
      refine x_i2l (pc := 36) cx (dA ddX7_mean (i := 17) rfl) ?_
      refine x_lreturn (pc := 37) cx (dA ddX7_mean (i := 18) rfl) (by first | exact Nat.le_of_ble_eq_true rfl | omega) (by first | exact Nat.le_of_ble_eq_true rfl | omega) ?_
      first | exact pCJ.r hO (by decide) (if_neg (fun q => ch q.1)) | exact pCJ.r hO (by decide) (if_neg (fun q => cP ⟨q.2.1, q.2.2.1⟩)) | exact pCJ.r hO (by decide) (if_neg (fun q => cr q.2.2.2))
    · have cP := b2i_ne c19
      obtain ⟨d, hd, rfl, td⟩ := i32_in (x := d) (n := S.1.2.1 i 0 + 1) ⟨cP.1.1, by have := cP.1.2; omega⟩
      obtain ⟨t, ht, rfl, tt⟩ := i32_in (x := t) (n := 5 ^ S.1.2.1 i 4) cP.2
      have cP : okl (hX S (nI i)) (nI d) ∧ okt (hX S (nI i)) (nI t) := by rw [eX]; exact cP
      refine x_iload (pc := 22) cx (dA ddX7_mean (i := 11) rfl) rfl ?_
      refine x_S1 (pc := 24) mX7_70 c_X7_isShelf cx (dA ddX7_mean (i := 12) rfl) (kI ?_)
      refine x_if_ne (pc := 27) (tgt := 38) cx (dA ddX7_mean (i := 13) rfl) (by decide) (fun c27 => ?_) (fun c27 => ?_)
      · have cr0 := b2i_ne c27
        obtain ⟨r, hr, rfl, tr⟩ := i32_in (x := r) (n := 8) cr0
        have cr : oks (nI r) := cr0
        refine x_aload_n (pc := 38) cx (dA ddX7_mean (i := 19) rfl) rfl ?_
        refine x_aload (pc := 39) cx (dA ddX7_mean (i := 20) rfl) rfl ?_
        refine x_iload (pc := 41) cx (dA ddX7_mean (i := 21) rfl) rfl ?_
        rcases sh3 (S.2.2.2.1 r) with e | ⟨q, e⟩ | ⟨q, e⟩
        · obtain ⟨e7, e8⟩ := hO.1.sh0 hr e
          refine x_V2 (pc := 43) mX7_245 h0 (c_X7_ruleFor_n hQ hP hT.1 e8) cx (dA ddX7_mean (i := 22) rfl) (kR ?_)
          rw [show va_rf none = .null from rfl]
          refine x_astoreN (pc := 46) cx (dA ddX7_mean (i := 23) rfl) (by decide) rfl ?_
          refine x_aloadN (pc := 48) cx (dA ddX7_mean (i := 24) rfl) rfl ?_
          refine x_ifnonnull_n (pc := 50) cx (dA ddX7_mean (i := 25) rfl) ?_
          refine x_aload_n (pc := 53) cx (dA ddX7_mean (i := 26) rfl) rfl ?_
          refine x_aload_n (pc := 54) cx (dA ddX7_mean (i := 27) rfl) rfl ?_
          refine x_iload (pc := 55) cx (dA ddX7_mean (i := 28) rfl) rfl ?_
          refine x_V1 (pc := 57) mX7_89 h0 (c_X7_lackOnShelf hQ) cx (dA ddX7_mean (i := 29) rfl) (kI ?_)
          rw [if_pos ⟨e7, e8⟩]
          refine x_V1 (pc := 60) mX7_74 h0 (c_X7_refuse hQ (i := 2) (by decide) rfl) cx (dA ddX7_mean (i := 30) rfl) (kI ?_)
          refine x_i2l (pc := 63) cx (dA ddX7_mean (i := 31) rfl) ?_
          refine x_goto (pc := 64) (tgt := 76) cx (dA ddX7_mean (i := 32) rfl) (by decide) ?_
          refine x_lreturn (pc := 76) cx (dA ddX7_mean (i := 38) rfl) (by first | exact Nat.le_of_ble_eq_true rfl | omega) (by first | exact Nat.le_of_ble_eq_true rfl | omega) ?_
          exact pCJ.r hO (by decide) (by unfold fMean; rw [if_pos ⟨ch, cP.1, cP.2, cr⟩]; exact byJ_n ((shX_at hr).trans e))
        · obtain ⟨e8, a, e7, hRw, rT, t5, rE, -, -⟩ := hO.1.shl hr e
          refine x_V2 (pc := 43) mX7_245 h0 (c_X7_ruleFor_n hQ hP hT.1 e8) cx (dA ddX7_mean (i := 22) rfl) (kR ?_)
          rw [show va_rf none = .null from rfl]
          refine x_astoreN (pc := 46) cx (dA ddX7_mean (i := 23) rfl) (by decide) rfl ?_
          refine x_aloadN (pc := 48) cx (dA ddX7_mean (i := 24) rfl) rfl ?_
          refine x_ifnonnull_n (pc := 50) cx (dA ddX7_mean (i := 25) rfl) ?_
          refine x_aload_n (pc := 53) cx (dA ddX7_mean (i := 26) rfl) rfl ?_
          refine x_aload_n (pc := 54) cx (dA ddX7_mean (i := 27) rfl) rfl ?_
          refine x_iload (pc := 55) cx (dA ddX7_mean (i := 28) rfl) rfl ?_
          refine x_V1 (pc := 57) mX7_89 h0 (c_X7_lackOnShelf hQ) cx (dA ddX7_mean (i := 29) rfl) (kI ?_)
          rw [if_neg (fun z => by rw [e7] at z; cases z.1)]
          refine x_V1 (pc := 60) mX7_74 h0 (c_X7_refuse hQ (i := 1) (by decide) rfl) cx (dA ddX7_mean (i := 30) rfl) (kI ?_)
          refine x_i2l (pc := 63) cx (dA ddX7_mean (i := 31) rfl) ?_
          refine x_goto (pc := 64) (tgt := 76) cx (dA ddX7_mean (i := 32) rfl) (by decide) ?_
          refine x_lreturn (pc := 76) cx (dA ddX7_mean (i := 38) rfl) (by first | exact Nat.le_of_ble_eq_true rfl | omega) (by first | exact Nat.le_of_ble_eq_true rfl | omega) ?_
          exact pCJ.r hO (by decide) (by unfold fMean; rw [if_pos ⟨ch, cP.1, cP.2, cr⟩]; exact byJ_r ((shX_at hr).trans e))
        · obtain ⟨e7, a, e8, hR⟩ := hO.1.shr hr e
          obtain ⟨K, hC⟩ := hT.2.1
          refine x_V2 (pc := 43) mX7_245 h0 (c_X7_ruleFor hQ hP hT.1 hC hR.1 e8) cx (dA ddX7_mean (i := 22) rfl) (kRx fun V2 h2 => ?_)
          obtain ⟨K2, hk, hk4, h2⟩ := h2
          obtain ⟨hO, hT⟩ := hO.pw i6 zN hT h2
          have hC := h2.2.1
          obtain ⟨-, a2, e82, hR⟩ := hO.1.shr hr e
          rw [e8] at e82
          cases e82
          rw [show va_rf (some a) = .ref a from rfl]
          refine x_astore (pc := 46) cx (dA ddX7_mean (i := 23) rfl) (by decide) rfl ?_
          refine x_aload (pc := 48) cx (dA ddX7_mean (i := 24) rfl) rfl ?_
          refine x_ifnonnull_s (pc := 50) (tgt := 67) cx (dA ddX7_mean (i := 25) rfl) (by decide) ?_
          refine x_aload (pc := 67) cx (dA ddX7_mean (i := 33) rfl) rfl ?_
          refine x_aload (pc := 69) cx (dA ddX7_mean (i := 34) rfl) rfl ?_
          refine x_iload_n (pc := 71) cx (dA ddX7_mean (i := 35) rfl) rfl ?_
          refine x_iload_n (pc := 72) cx (dA ddX7_mean (i := 36) rfl) rfl ?_
          refine x_V3 (pc := 73) mX7_253 hP.1 (c_X1_costBy hP hT.1 hC hR.1 (z := d) (by omega) ht (fun e => by have := hk4 e; omega)) cx (dA ddX7_mean (i := 37) rfl) (kJx fun V2 h2 => ?_)
          obtain ⟨hO, hT⟩ := hO.px i6 zN hT h2
          refine x_lreturn (pc := 76) cx (dA ddX7_mean (i := 38) rfl) (by first | exact Nat.le_of_ble_eq_true rfl | omega) (by first | exact Nat.le_of_ble_eq_true rfl | omega) ?_
          exact pCJ.q hO (by unfold fMean; rw [if_pos ⟨ch, cP.1, cP.2, cr⟩, byJ_q ((shX_at hr).trans e)]; simp only [hX, ti, td, tt];  rw [rC_s])
      · have cr := b2i_eq c27
        refine x_aload_n (pc := 30) cx (dA ddX7_mean (i := 14) rfl) rfl ?_
        refine x_bipush (pc := 31) (v := -2) cx (dA ddX7_mean (i := 15) rfl) (by decide) ?_
        refine x_V1 (pc := 33) mX7_74 h0 (c_X7_refuse hQ (i := 0) (by decide) rfl) cx (dA ddX7_mean (i := 16) rfl) (kI ?_)
        refine x_i2l (pc := 36) cx (dA ddX7_mean (i := 17) rfl) ?_
        refine x_lreturn (pc := 37) cx (dA ddX7_mean (i := 18) rfl) (by first | exact Nat.le_of_ble_eq_true rfl | omega) (by first | exact Nat.le_of_ble_eq_true rfl | omega) ?_
        first | exact pCJ.r hO (by decide) (if_neg (fun q => ch q.1)) | exact pCJ.r hO (by decide) (if_neg (fun q => cP ⟨q.2.1, q.2.2.1⟩)) | exact pCJ.r hO (by decide) (if_neg (fun q => cr q.2.2.2))
  · refine x_V1 (pc := 2) mX7_183 h0 (hO.pn ch) cx (dA ddX7_mean (i := 2) rfl) (kR ?_)
    rw [show va_rf none = .null from rfl]
    refine x_astoreN (pc := 5) cx (dA ddX7_mean (i := 3) rfl) (by decide) rfl ?_
    refine x_aloadN (pc := 7) cx (dA ddX7_mean (i := 4) rfl) rfl ?_
    refine x_ifnull_n (pc := 9) (tgt := 30) cx (dA ddX7_mean (i := 5) rfl) (by decide) ?_
    refine x_aload_n (pc := 30) cx (dA ddX7_mean (i := 14) rfl) rfl ?_
    refine x_bipush (pc := 31) (v := -2) cx (dA ddX7_mean (i := 15) rfl) (by decide) ?_
    refine x_V1 (pc := 33) mX7_74 h0 (c_X7_refuse hQ (i := 0) (by decide) rfl) cx (dA ddX7_mean (i := 16) rfl) (kI ?_)
    refine x_i2l (pc := 36) cx (dA ddX7_mean (i := 17) rfl) ?_
    refine x_lreturn (pc := 37) cx (dA ddX7_mean (i := 18) rfl) (by first | exact Nat.le_of_ble_eq_true rfl | omega) (by first | exact Nat.le_of_ble_eq_true rfl | omega) ?_
    first | exact pCJ.r hO (by decide) (if_neg (fun q => ch q.1)) | exact pCJ.r hO (by decide) (if_neg (fun q => cP ⟨q.2.1, q.2.2.1⟩)) | exact pCJ.r hO (by decide) (if_neg (fun q => cr q.2.2.2))
theorem c_X7_lose {l : Launch} {Z : zP} {G : zG} {V : zV} {x : Nat} {col : Nat → Nat} {S : SX} (hRC : RC Z G V x col S) {h d t r : Int32} : CT l Z yX7_lose cX7_lose 7 (some .long) 8 0 0 [.ref x, .int h, .int d, .int t, .int r] G V (pCJ Z G V x col (fLose S h d t r)) := by
  refine CT.of (by decide +kernel) (Nat.le_of_ble_eq_true rfl) (fun X hX cx => ?_)
  subst hX
  show Wm Z X 7 G V 0 0 _ 0 [(0, some (.ref x)), (1, some (.int h)), (2, some (.int d)), (3, some (.int t)), (4, some (.int r))] []
  have hQ := hRC.1
  have h0 := hQ.1
  have hWd := hRC.2.2.2.2.1
  have c6 := hWd.2.1
  have hO := RO.refl hRC
  refine x_aload_n (pc := 0) cx (dA ddX7_lose (i := 0) rfl) rfl ?_
  refine x_iload_n (pc := 1) cx (dA ddX7_lose (i := 1) rfl) rfl ?_
  by_cases ch : okc S h
  · obtain ⟨i, hi, rfl, ti⟩ := i32_in ch
    have i6 : i < 6 := by omega
    have eX : hX S (nI i) = S.1.2.1 i := hX_at (by omega)
    have hP := (hQ.2.2.2.2.2.2.2.2.2.2.2.2 i i6).2
    obtain ⟨-, hN, zN⟩ := hWd.2.2.1 i hi
    have hB := hN.1
    have b4 := hB.1
    have n125 := st125 b4
    have h06 := hN.2.1
    refine x_V1 (pc := 2) mX7_183 h0 (hO.po hi) cx (dA ddX7_lose (i := 2) rfl) (kRx fun V2 h2 => ?_)
    obtain ⟨hO, hT⟩ := hO.tu i6 zN h2
    rw [show va_rf (some (x + 70 + 12 * i)) = .ref (x + 70 + 12 * i) from rfl]
    refine x_astore (pc := 5) cx (dA ddX7_lose (i := 3) rfl) (by decide) rfl ?_
    refine x_aload (pc := 7) cx (dA ddX7_lose (i := 4) rfl) rfl ?_
    refine x_ifnull_s (pc := 9) cx (dA ddX7_lose (i := 5) rfl) ?_
    refine x_aload (pc := 12) cx (dA ddX7_lose (i := 6) rfl) rfl ?_
    refine x_iload_n (pc := 14) cx (dA ddX7_lose (i := 7) rfl) rfl ?_
    refine x_iload_n (pc := 15) cx (dA ddX7_lose (i := 8) rfl) rfl ?_
    refine x_V2 (pc := 16) mX7_203 hP.1 (c_X1_hasPlace hP hT.1) cx (dA ddX7_lose (i := 9) rfl) (kI ?_)
    refine x_if_eq (pc := 19) (tgt := 30) cx (dA ddX7_lose (i := 10) rfl) (by decide) (fun c19 => ?_) (fun c19 => ?_)
    · have cP : ¬ (okl (hX S (nI i)) d ∧ okt (hX S (nI i)) t) := by rw [eX]; exact b2i_eq c19
      refine x_aload_n (pc := 30) cx (dA ddX7_lose (i := 14) rfl) rfl ?_
      refine x_bipush (pc := 31) (v := -2) cx (dA ddX7_lose (i := 15) rfl) (by decide) ?_
      refine x_V1 (pc := 33) mX7_74 h0 (c_X7_refuse hQ (i := 0) (by decide) rfl) cx (dA ddX7_lose (i := 16) rfl) (kI ?_)
      refine x_i2l (pc := 36) cx (dA ddX7_lose (i := 17) rfl) ?_
      refine x_lreturn (pc := 37) cx (dA ddX7_lose (i := 18) rfl) (by first | exact Nat.le_of_ble_eq_true rfl | omega) (by first | exact Nat.le_of_ble_eq_true rfl | omega) ?_
      first | exact pCJ.r hO (by decide) (if_neg (fun q => ch q.1)) | exact pCJ.r hO (by decide) (if_neg (fun q => cP ⟨q.2.1, q.2.2.1⟩)) | exact pCJ.r hO (by decide) (if_neg (fun q => cr q.2.2.2))
    · have cP := b2i_ne c19
      obtain ⟨d, hd, rfl, td⟩ := i32_in (x := d) (n := S.1.2.1 i 0 + 1) ⟨cP.1.1, by have := cP.1.2; omega⟩
      obtain ⟨t, ht, rfl, tt⟩ := i32_in (x := t) (n := 5 ^ S.1.2.1 i 4) cP.2
      have cP : okl (hX S (nI i)) (nI d) ∧ okt (hX S (nI i)) (nI t) := by rw [eX]; exact cP
      refine x_iload (pc := 22) cx (dA ddX7_lose (i := 11) rfl) rfl ?_
      refine x_S1 (pc := 24) mX7_70 c_X7_isShelf cx (dA ddX7_lose (i := 12) rfl) (kI ?_)
      refine x_if_ne (pc := 27) (tgt := 38) cx (dA ddX7_lose (i := 13) rfl) (by decide) (fun c27 => ?_) (fun c27 => ?_)
      · have cr0 := b2i_ne c27
        obtain ⟨r, hr, rfl, tr⟩ := i32_in (x := r) (n := 8) cr0
        have cr : oks (nI r) := cr0
        refine x_aload_n (pc := 38) cx (dA ddX7_lose (i := 19) rfl) rfl ?_
        refine x_aload (pc := 39) cx (dA ddX7_lose (i := 20) rfl) rfl ?_
        refine x_iload (pc := 41) cx (dA ddX7_lose (i := 21) rfl) rfl ?_
        rcases sh3 (S.2.2.2.1 r) with e | ⟨q, e⟩ | ⟨q, e⟩
        · obtain ⟨e7, e8⟩ := hO.1.sh0 hr e
          refine x_V2 (pc := 43) mX7_245 h0 (c_X7_ruleFor_n hQ hP hT.1 e8) cx (dA ddX7_lose (i := 22) rfl) (kR ?_)
          rw [show va_rf none = .null from rfl]
          refine x_astoreN (pc := 46) cx (dA ddX7_lose (i := 23) rfl) (by decide) rfl ?_
          refine x_aloadN (pc := 48) cx (dA ddX7_lose (i := 24) rfl) rfl ?_
          refine x_ifnonnull_n (pc := 50) cx (dA ddX7_lose (i := 25) rfl) ?_
          refine x_aload_n (pc := 53) cx (dA ddX7_lose (i := 26) rfl) rfl ?_
          refine x_aload_n (pc := 54) cx (dA ddX7_lose (i := 27) rfl) rfl ?_
          refine x_iload (pc := 55) cx (dA ddX7_lose (i := 28) rfl) rfl ?_
          refine x_V1 (pc := 57) mX7_89 h0 (c_X7_lackOnShelf hQ) cx (dA ddX7_lose (i := 29) rfl) (kI ?_)
          rw [if_pos ⟨e7, e8⟩]
          refine x_V1 (pc := 60) mX7_74 h0 (c_X7_refuse hQ (i := 2) (by decide) rfl) cx (dA ddX7_lose (i := 30) rfl) (kI ?_)
          refine x_i2l (pc := 63) cx (dA ddX7_lose (i := 31) rfl) ?_
          refine x_lreturn (pc := 64) cx (dA ddX7_lose (i := 32) rfl) (by first | exact Nat.le_of_ble_eq_true rfl | omega) (by first | exact Nat.le_of_ble_eq_true rfl | omega) ?_
          exact pCJ.r hO (by decide) (by unfold fLose; rw [if_pos ⟨ch, cP.1, cP.2, cr⟩]; exact byJ_n ((shX_at hr).trans e))
        · obtain ⟨e8, a, e7, hRw, rT, t5, rE, -, -⟩ := hO.1.shl hr e
          refine x_V2 (pc := 43) mX7_245 h0 (c_X7_ruleFor_n hQ hP hT.1 e8) cx (dA ddX7_lose (i := 22) rfl) (kR ?_)
          rw [show va_rf none = .null from rfl]
          refine x_astoreN (pc := 46) cx (dA ddX7_lose (i := 23) rfl) (by decide) rfl ?_
          refine x_aloadN (pc := 48) cx (dA ddX7_lose (i := 24) rfl) rfl ?_
          refine x_ifnonnull_n (pc := 50) cx (dA ddX7_lose (i := 25) rfl) ?_
          refine x_aload_n (pc := 53) cx (dA ddX7_lose (i := 26) rfl) rfl ?_
          refine x_aload_n (pc := 54) cx (dA ddX7_lose (i := 27) rfl) rfl ?_
          refine x_iload (pc := 55) cx (dA ddX7_lose (i := 28) rfl) rfl ?_
          refine x_V1 (pc := 57) mX7_89 h0 (c_X7_lackOnShelf hQ) cx (dA ddX7_lose (i := 29) rfl) (kI ?_)
          rw [if_neg (fun z => by rw [e7] at z; cases z.1)]
          refine x_V1 (pc := 60) mX7_74 h0 (c_X7_refuse hQ (i := 1) (by decide) rfl) cx (dA ddX7_lose (i := 30) rfl) (kI ?_)
          refine x_i2l (pc := 63) cx (dA ddX7_lose (i := 31) rfl) ?_
          refine x_lreturn (pc := 64) cx (dA ddX7_lose (i := 32) rfl) (by first | exact Nat.le_of_ble_eq_true rfl | omega) (by first | exact Nat.le_of_ble_eq_true rfl | omega) ?_
          exact pCJ.r hO (by decide) (by unfold fLose; rw [if_pos ⟨ch, cP.1, cP.2, cr⟩]; exact byJ_r ((shX_at hr).trans e))
        · obtain ⟨e7, a, e8, hR⟩ := hO.1.shr hr e
          obtain ⟨K, hC⟩ := hT.2.1
          refine x_V2 (pc := 43) mX7_245 h0 (c_X7_ruleFor hQ hP hT.1 hC hR.1 e8) cx (dA ddX7_lose (i := 22) rfl) (kRx fun V2 h2 => ?_)
          obtain ⟨K2, hk, hk4, h2⟩ := h2
          obtain ⟨hO, hT⟩ := hO.pw i6 zN hT h2
          have hC := h2.2.1
          obtain ⟨-, a2, e82, hR⟩ := hO.1.shr hr e
          rw [e8] at e82
          cases e82
          rw [show va_rf (some a) = .ref a from rfl]
          refine x_astore (pc := 46) cx (dA ddX7_lose (i := 23) rfl) (by decide) rfl ?_
          refine x_aload (pc := 48) cx (dA ddX7_lose (i := 24) rfl) rfl ?_
          refine x_ifnonnull_s (pc := 50) (tgt := 65) cx (dA ddX7_lose (i := 25) rfl) (by decide) ?_
          refine x_aload (pc := 65) cx (dA ddX7_lose (i := 33) rfl) rfl ?_
          refine x_aload (pc := 67) cx (dA ddX7_lose (i := 34) rfl) rfl ?_
          refine x_iload_n (pc := 69) cx (dA ddX7_lose (i := 35) rfl) rfl ?_
          refine x_iload_n (pc := 70) cx (dA ddX7_lose (i := 36) rfl) rfl ?_
          refine x_V3 (pc := 71) mX7_253 hP.1 (c_X1_costBy hP hT.1 hC hR.1 (z := d) (by omega) ht (fun e => by have := hk4 e; omega)) cx (dA ddX7_lose (i := 37) rfl) (kJx fun V2 h2 => ?_)
          obtain ⟨hO, hT⟩ := hO.px i6 zN hT h2
          refine x_aload (pc := 74) cx (dA ddX7_lose (i := 38) rfl) rfl ?_
          refine x_iload_n (pc := 76) cx (dA ddX7_lose (i := 39) rfl) rfl ?_
          refine x_iload_n (pc := 77) cx (dA ddX7_lose (i := 40) rfl) rfl ?_
          obtain ⟨K, hC⟩ := hT.2.1
          refine x_V2 (pc := 78) mX7_205 hP.1 (c_X1_leastCost hP hT.1 hC (z := d) (by omega) ht) cx (dA ddX7_lose (i := 41) rfl) (kJx fun V2 h2 => ?_)
          obtain ⟨hO, hT⟩ := hO.px i6 zN hT h2
          refine x_lsub (pc := 81) cx (dA ddX7_lose (i := 42) rfl) ?_
          refine x_lreturn (pc := 82) cx (dA ddX7_lose (i := 43) rfl) (by first | exact Nat.le_of_ble_eq_true rfl | omega) (by first | exact Nat.le_of_ble_eq_true rfl | omega) ?_
          exact pCJ.q hO (by unfold fLose; rw [if_pos ⟨ch, cP.1, cP.2, cr⟩, byJ_q ((shX_at hr).trans e)]; simp only [hX, ti, td, tt];  rw [rC_s])
      · have cr := b2i_eq c27
        refine x_aload_n (pc := 30) cx (dA ddX7_lose (i := 14) rfl) rfl ?_
        refine x_bipush (pc := 31) (v := -2) cx (dA ddX7_lose (i := 15) rfl) (by decide) ?_
        refine x_V1 (pc := 33) mX7_74 h0 (c_X7_refuse hQ (i := 0) (by decide) rfl) cx (dA ddX7_lose (i := 16) rfl) (kI ?_)
        refine x_i2l (pc := 36) cx (dA ddX7_lose (i := 17) rfl) ?_
        refine x_lreturn (pc := 37) cx (dA ddX7_lose (i := 18) rfl) (by first | exact Nat.le_of_ble_eq_true rfl | omega) (by first | exact Nat.le_of_ble_eq_true rfl | omega) ?_
        first | exact pCJ.r hO (by decide) (if_neg (fun q => ch q.1)) | exact pCJ.r hO (by decide) (if_neg (fun q => cP ⟨q.2.1, q.2.2.1⟩)) | exact pCJ.r hO (by decide) (if_neg (fun q => cr q.2.2.2))
  · refine x_V1 (pc := 2) mX7_183 h0 (hO.pn ch) cx (dA ddX7_lose (i := 2) rfl) (kR ?_)
    rw [show va_rf none = .null from rfl]
    refine x_astoreN (pc := 5) cx (dA ddX7_lose (i := 3) rfl) (by decide) rfl ?_
    refine x_aloadN (pc := 7) cx (dA ddX7_lose (i := 4) rfl) rfl ?_
    refine x_ifnull_n (pc := 9) (tgt := 30) cx (dA ddX7_lose (i := 5) rfl) (by decide) ?_
    refine x_aload_n (pc := 30) cx (dA ddX7_lose (i := 14) rfl) rfl ?_
    refine x_bipush (pc := 31) (v := -2) cx (dA ddX7_lose (i := 15) rfl) (by decide) ?_
    refine x_V1 (pc := 33) mX7_74 h0 (c_X7_refuse hQ (i := 0) (by decide) rfl) cx (dA ddX7_lose (i := 16) rfl) (kI ?_)
    refine x_i2l (pc := 36) cx (dA ddX7_lose (i := 17) rfl) ?_
    refine x_lreturn (pc := 37) cx (dA ddX7_lose (i := 18) rfl) (by first | exact Nat.le_of_ble_eq_true rfl | omega) (by first | exact Nat.le_of_ble_eq_true rfl | omega) ?_
    first | exact pCJ.r hO (by decide) (if_neg (fun q => ch q.1)) | exact pCJ.r hO (by decide) (if_neg (fun q => cP ⟨q.2.1, q.2.2.1⟩)) | exact pCJ.r hO (by decide) (if_neg (fun q => cr q.2.2.2))
theorem c_X7_chance {l : Launch} {Z : zP} {G : zG} {V : zV} {x : Nat} {col : Nat → Nat} {S : SX} (hRC : RC Z G V x col S) {h d t r : Int32} : CT l Z yX7_chance cX7_chance 7 (some .long) 8 0 0 [.ref x, .int h, .int d, .int t, .int r] G V (pCJ Z G V x col (fChance S h d t r)) := by
  refine CT.of (by decide +kernel) (Nat.le_of_ble_eq_true rfl) (fun X hX cx => ?_)
  subst hX
  show Wm Z X 7 G V 0 0 _ 0 [(0, some (.ref x)), (1, some (.int h)), (2, some (.int d)), (3, some (.int t)), (4, some (.int r))] []
  have hQ := hRC.1
  have h0 := hQ.1
  have hWd := hRC.2.2.2.2.1
  have c6 := hWd.2.1
  have hO := RO.refl hRC
  refine x_aload_n (pc := 0) cx (dA ddX7_chance (i := 0) rfl) rfl ?_
  refine x_iload_n (pc := 1) cx (dA ddX7_chance (i := 1) rfl) rfl ?_
  by_cases ch : okc S h
  · obtain ⟨i, hi, rfl, ti⟩ := i32_in ch
    have i6 : i < 6 := by omega
    have eX : hX S (nI i) = S.1.2.1 i := hX_at (by omega)
    have hP := (hQ.2.2.2.2.2.2.2.2.2.2.2.2 i i6).2
    obtain ⟨-, hN, zN⟩ := hWd.2.2.1 i hi
    have hB := hN.1
    have b4 := hB.1
    have n125 := st125 b4
    have h06 := hN.2.1
    refine x_V1 (pc := 2) mX7_183 h0 (hO.po hi) cx (dA ddX7_chance (i := 2) rfl) (kRx fun V2 h2 => ?_)
    obtain ⟨hO, hT⟩ := hO.tu i6 zN h2
    rw [show va_rf (some (x + 70 + 12 * i)) = .ref (x + 70 + 12 * i) from rfl]
    refine x_astore (pc := 5) cx (dA ddX7_chance (i := 3) rfl) (by decide) rfl ?_
    refine x_aload (pc := 7) cx (dA ddX7_chance (i := 4) rfl) rfl ?_
    refine x_ifnull_s (pc := 9) cx (dA ddX7_chance (i := 5) rfl) ?_
    refine x_aload (pc := 12) cx (dA ddX7_chance (i := 6) rfl) rfl ?_
    refine x_iload_n (pc := 14) cx (dA ddX7_chance (i := 7) rfl) rfl ?_
    refine x_iload_n (pc := 15) cx (dA ddX7_chance (i := 8) rfl) rfl ?_
    refine x_V2 (pc := 16) mX7_203 hP.1 (c_X1_hasPlace hP hT.1) cx (dA ddX7_chance (i := 9) rfl) (kI ?_)
    refine x_if_eq (pc := 19) (tgt := 30) cx (dA ddX7_chance (i := 10) rfl) (by decide) (fun c19 => ?_) (fun c19 => ?_)
    · have cP : ¬ (okl (hX S (nI i)) d ∧ okt (hX S (nI i)) t) := by rw [eX]; exact b2i_eq c19
      refine x_aload_n (pc := 30) cx (dA ddX7_chance (i := 14) rfl) rfl ?_
      refine x_bipush (pc := 31) (v := -2) cx (dA ddX7_chance (i := 15) rfl) (by decide) ?_
      refine x_V1 (pc := 33) mX7_74 h0 (c_X7_refuse hQ (i := 0) (by decide) rfl) cx (dA ddX7_chance (i := 16) rfl) (kI ?_)
      refine x_i2l (pc := 36) cx (dA ddX7_chance (i := 17) rfl) ?_
      refine x_lreturn (pc := 37) cx (dA ddX7_chance (i := 18) rfl) (by first | exact Nat.le_of_ble_eq_true rfl | omega) (by first | exact Nat.le_of_ble_eq_true rfl | omega) ?_
      first | exact pCJ.r hO (by decide) (if_neg (fun q => ch q.1)) | exact pCJ.r hO (by decide) (if_neg (fun q => cP ⟨q.2.1, q.2.2.1⟩)) | exact pCJ.r hO (by decide) (if_neg (fun q => cr q.2.2.2))
    · have cP := b2i_ne c19
      obtain ⟨d, hd, rfl, td⟩ := i32_in (x := d) (n := S.1.2.1 i 0 + 1) ⟨cP.1.1, by have := cP.1.2; omega⟩
      obtain ⟨t, ht, rfl, tt⟩ := i32_in (x := t) (n := 5 ^ S.1.2.1 i 4) cP.2
      have cP : okl (hX S (nI i)) (nI d) ∧ okt (hX S (nI i)) (nI t) := by rw [eX]; exact cP
      refine x_iload (pc := 22) cx (dA ddX7_chance (i := 11) rfl) rfl ?_
      refine x_S1 (pc := 24) mX7_70 c_X7_isShelf cx (dA ddX7_chance (i := 12) rfl) (kI ?_)
      refine x_if_ne (pc := 27) (tgt := 38) cx (dA ddX7_chance (i := 13) rfl) (by decide) (fun c27 => ?_) (fun c27 => ?_)
      · have cr0 := b2i_ne c27
        obtain ⟨r, hr, rfl, tr⟩ := i32_in (x := r) (n := 8) cr0
        have cr : oks (nI r) := cr0
        refine x_aload_n (pc := 38) cx (dA ddX7_chance (i := 19) rfl) rfl ?_
        refine x_aload (pc := 39) cx (dA ddX7_chance (i := 20) rfl) rfl ?_
        refine x_iload (pc := 41) cx (dA ddX7_chance (i := 21) rfl) rfl ?_
        rcases sh3 (S.2.2.2.1 r) with e | ⟨q, e⟩ | ⟨q, e⟩
        · obtain ⟨e7, e8⟩ := hO.1.sh0 hr e
          refine x_V2 (pc := 43) mX7_245 h0 (c_X7_ruleFor_n hQ hP hT.1 e8) cx (dA ddX7_chance (i := 22) rfl) (kR ?_)
          rw [show va_rf none = .null from rfl]
          refine x_astoreN (pc := 46) cx (dA ddX7_chance (i := 23) rfl) (by decide) rfl ?_
          refine x_aloadN (pc := 48) cx (dA ddX7_chance (i := 24) rfl) rfl ?_
          refine x_ifnonnull_n (pc := 50) cx (dA ddX7_chance (i := 25) rfl) ?_
          refine x_aload_n (pc := 53) cx (dA ddX7_chance (i := 26) rfl) rfl ?_
          refine x_aload_n (pc := 54) cx (dA ddX7_chance (i := 27) rfl) rfl ?_
          refine x_iload (pc := 55) cx (dA ddX7_chance (i := 28) rfl) rfl ?_
          refine x_V1 (pc := 57) mX7_89 h0 (c_X7_lackOnShelf hQ) cx (dA ddX7_chance (i := 29) rfl) (kI ?_)
          rw [if_pos ⟨e7, e8⟩]
          refine x_V1 (pc := 60) mX7_74 h0 (c_X7_refuse hQ (i := 2) (by decide) rfl) cx (dA ddX7_chance (i := 30) rfl) (kI ?_)
          refine x_i2l (pc := 63) cx (dA ddX7_chance (i := 31) rfl) ?_
          refine x_goto (pc := 64) (tgt := 76) cx (dA ddX7_chance (i := 32) rfl) (by decide) ?_
          refine x_lreturn (pc := 76) cx (dA ddX7_chance (i := 38) rfl) (by first | exact Nat.le_of_ble_eq_true rfl | omega) (by first | exact Nat.le_of_ble_eq_true rfl | omega) ?_
          exact pCJ.r hO (by decide) (by unfold fChance; rw [if_pos ⟨ch, cP.1, cP.2, cr⟩]; exact byJ_n ((shX_at hr).trans e))
        · obtain ⟨e8, a, e7, hRw, rT, t5, rE, -, -⟩ := hO.1.shl hr e
          refine x_V2 (pc := 43) mX7_245 h0 (c_X7_ruleFor_n hQ hP hT.1 e8) cx (dA ddX7_chance (i := 22) rfl) (kR ?_)
          rw [show va_rf none = .null from rfl]
          refine x_astoreN (pc := 46) cx (dA ddX7_chance (i := 23) rfl) (by decide) rfl ?_
          refine x_aloadN (pc := 48) cx (dA ddX7_chance (i := 24) rfl) rfl ?_
          refine x_ifnonnull_n (pc := 50) cx (dA ddX7_chance (i := 25) rfl) ?_
          refine x_aload_n (pc := 53) cx (dA ddX7_chance (i := 26) rfl) rfl ?_
          refine x_aload_n (pc := 54) cx (dA ddX7_chance (i := 27) rfl) rfl ?_
          refine x_iload (pc := 55) cx (dA ddX7_chance (i := 28) rfl) rfl ?_
          refine x_V1 (pc := 57) mX7_89 h0 (c_X7_lackOnShelf hQ) cx (dA ddX7_chance (i := 29) rfl) (kI ?_)
          rw [if_neg (fun z => by rw [e7] at z; cases z.1)]
          refine x_V1 (pc := 60) mX7_74 h0 (c_X7_refuse hQ (i := 1) (by decide) rfl) cx (dA ddX7_chance (i := 30) rfl) (kI ?_)
          refine x_i2l (pc := 63) cx (dA ddX7_chance (i := 31) rfl) ?_
          refine x_goto (pc := 64) (tgt := 76) cx (dA ddX7_chance (i := 32) rfl) (by decide) ?_
          refine x_lreturn (pc := 76) cx (dA ddX7_chance (i := 38) rfl) (by first | exact Nat.le_of_ble_eq_true rfl | omega) (by first | exact Nat.le_of_ble_eq_true rfl | omega) ?_
          exact pCJ.r hO (by decide) (by unfold fChance; rw [if_pos ⟨ch, cP.1, cP.2, cr⟩]; exact byJ_r ((shX_at hr).trans e))
        · obtain ⟨e7, a, e8, hR⟩ := hO.1.shr hr e
          obtain ⟨K, hC⟩ := hT.2.1
          refine x_V2 (pc := 43) mX7_245 h0 (c_X7_ruleFor hQ hP hT.1 hC hR.1 e8) cx (dA ddX7_chance (i := 22) rfl) (kRx fun V2 h2 => ?_)
          obtain ⟨K2, hk, hk4, h2⟩ := h2
          obtain ⟨hO, hT⟩ := hO.pw i6 zN hT h2
          have hC := h2.2.1
          obtain ⟨-, a2, e82, hR⟩ := hO.1.shr hr e
          rw [e8] at e82
          cases e82
          rw [show va_rf (some a) = .ref a from rfl]
          refine x_astore (pc := 46) cx (dA ddX7_chance (i := 23) rfl) (by decide) rfl ?_
          refine x_aload (pc := 48) cx (dA ddX7_chance (i := 24) rfl) rfl ?_
          refine x_ifnonnull_s (pc := 50) (tgt := 67) cx (dA ddX7_chance (i := 25) rfl) (by decide) ?_
          refine x_aload (pc := 67) cx (dA ddX7_chance (i := 33) rfl) rfl ?_
          refine x_aload (pc := 69) cx (dA ddX7_chance (i := 34) rfl) rfl ?_
          refine x_iload_n (pc := 71) cx (dA ddX7_chance (i := 35) rfl) rfl ?_
          refine x_iload_n (pc := 72) cx (dA ddX7_chance (i := 36) rfl) rfl ?_
          refine x_V3 (pc := 73) mX7_257 hP.1 (c_X1_chanceBy hP hT.1 hC hR.1 (z := d) (by omega) (fun e => by have := hk4 e; omega) ht) cx (dA ddX7_chance (i := 37) rfl) (kJ ?_)
          refine x_lreturn (pc := 76) cx (dA ddX7_chance (i := 38) rfl) (by first | exact Nat.le_of_ble_eq_true rfl | omega) (by first | exact Nat.le_of_ble_eq_true rfl | omega) ?_
          exact pCJ.q (hO.ch i6 zN hT) (by unfold fChance; rw [if_pos ⟨ch, cP.1, cP.2, cr⟩, byJ_q ((shX_at hr).trans e)]; simp only [hX, ti, td, tt]; rfl)
      · have cr := b2i_eq c27
        refine x_aload_n (pc := 30) cx (dA ddX7_chance (i := 14) rfl) rfl ?_
        refine x_bipush (pc := 31) (v := -2) cx (dA ddX7_chance (i := 15) rfl) (by decide) ?_
        refine x_V1 (pc := 33) mX7_74 h0 (c_X7_refuse hQ (i := 0) (by decide) rfl) cx (dA ddX7_chance (i := 16) rfl) (kI ?_)
        refine x_i2l (pc := 36) cx (dA ddX7_chance (i := 17) rfl) ?_
        refine x_lreturn (pc := 37) cx (dA ddX7_chance (i := 18) rfl) (by first | exact Nat.le_of_ble_eq_true rfl | omega) (by first | exact Nat.le_of_ble_eq_true rfl | omega) ?_
        first | exact pCJ.r hO (by decide) (if_neg (fun q => ch q.1)) | exact pCJ.r hO (by decide) (if_neg (fun q => cP ⟨q.2.1, q.2.2.1⟩)) | exact pCJ.r hO (by decide) (if_neg (fun q => cr q.2.2.2))
  · refine x_V1 (pc := 2) mX7_183 h0 (hO.pn ch) cx (dA ddX7_chance (i := 2) rfl) (kR ?_)
    rw [show va_rf none = .null from rfl]
    refine x_astoreN (pc := 5) cx (dA ddX7_chance (i := 3) rfl) (by decide) rfl ?_
    refine x_aloadN (pc := 7) cx (dA ddX7_chance (i := 4) rfl) rfl ?_
    refine x_ifnull_n (pc := 9) (tgt := 30) cx (dA ddX7_chance (i := 5) rfl) (by decide) ?_
    refine x_aload_n (pc := 30) cx (dA ddX7_chance (i := 14) rfl) rfl ?_
    refine x_bipush (pc := 31) (v := -2) cx (dA ddX7_chance (i := 15) rfl) (by decide) ?_
    refine x_V1 (pc := 33) mX7_74 h0 (c_X7_refuse hQ (i := 0) (by decide) rfl) cx (dA ddX7_chance (i := 16) rfl) (kI ?_)
    refine x_i2l (pc := 36) cx (dA ddX7_chance (i := 17) rfl) ?_
    refine x_lreturn (pc := 37) cx (dA ddX7_chance (i := 18) rfl) (by first | exact Nat.le_of_ble_eq_true rfl | omega) (by first | exact Nat.le_of_ble_eq_true rfl | omega) ?_
    first | exact pCJ.r hO (by decide) (if_neg (fun q => ch q.1)) | exact pCJ.r hO (by decide) (if_neg (fun q => cP ⟨q.2.1, q.2.2.1⟩)) | exact pCJ.r hO (by decide) (if_neg (fun q => cr q.2.2.2))
theorem c_X7_reach {l : Launch} {Z : zP} {G : zG} {V : zV} {x : Nat} {col : Nat → Nat} {S : SX} (hRC : RC Z G V x col S) {h d r : Int32} : CT l Z yX7_reach cX7_reach 6 (some .int) 8 0 0 [.ref x, .int h, .int d, .int r] G V (pCI Z G V x col (fReach S h d r)) := by
  refine CT.of (by decide +kernel) (Nat.le_of_ble_eq_true rfl) (fun X hX cx => ?_)
  subst hX
  show Wm Z X 6 G V 0 0 _ 0 [(0, some (.ref x)), (1, some (.int h)), (2, some (.int d)), (3, some (.int r))] []
  have hQ := hRC.1
  have h0 := hQ.1
  have hWd := hRC.2.2.2.2.1
  have c6 := hWd.2.1
  have hO := RO.refl hRC
  refine x_aload_n (pc := 0) cx (dA ddX7_reach (i := 0) rfl) rfl ?_
  refine x_iload_n (pc := 1) cx (dA ddX7_reach (i := 1) rfl) rfl ?_
  by_cases ch : okc S h
  · obtain ⟨i, hi, rfl, ti⟩ := i32_in ch
    have i6 : i < 6 := by omega
    have eX : hX S (nI i) = S.1.2.1 i := hX_at (by omega)
    have hP := (hQ.2.2.2.2.2.2.2.2.2.2.2.2 i i6).2
    obtain ⟨-, hN, zN⟩ := hWd.2.2.1 i hi
    have hB := hN.1
    have b4 := hB.1
    have n125 := st125 b4
    have h06 := hN.2.1
    refine x_V1 (pc := 2) mX7_183 h0 (hO.po hi) cx (dA ddX7_reach (i := 2) rfl) (kRx fun V2 h2 => ?_)
    obtain ⟨hO, hT⟩ := hO.tu i6 zN h2
    rw [show va_rf (some (x + 70 + 12 * i)) = .ref (x + 70 + 12 * i) from rfl]
    refine x_astore (pc := 5) cx (dA ddX7_reach (i := 3) rfl) (by decide) rfl ?_
    refine x_aload (pc := 7) cx (dA ddX7_reach (i := 4) rfl) rfl ?_
    refine x_ifnull_s (pc := 9) cx (dA ddX7_reach (i := 5) rfl) ?_
    refine x_aload (pc := 12) cx (dA ddX7_reach (i := 6) rfl) rfl ?_
    refine x_iload_n (pc := 14) cx (dA ddX7_reach (i := 7) rfl) rfl ?_
    refine x_iconst (pc := 15) (v := nI 0) cx (dA ddX7_reach (i := 8) rfl) (by decide) ?_
    refine x_V2 (pc := 16) mX7_203 hP.1 (c_X1_hasPlace hP hT.1) cx (dA ddX7_reach (i := 9) rfl) (kI ?_)
    refine x_if_eq (pc := 19) (tgt := 29) cx (dA ddX7_reach (i := 10) rfl) (by decide) (fun c19 => ?_) (fun c19 => ?_)
    · have cP : ¬ okl (hX S (nI i)) d := by rw [eX]; exact fun q => b2i_eq c19 ⟨q, z0t _⟩
      refine x_aload_n (pc := 29) cx (dA ddX7_reach (i := 14) rfl) rfl ?_
      refine x_bipush (pc := 30) (v := -2) cx (dA ddX7_reach (i := 15) rfl) (by decide) ?_
      refine x_V1 (pc := 32) mX7_74 h0 (c_X7_refuse hQ (i := 0) (by decide) rfl) cx (dA ddX7_reach (i := 16) rfl) (kI ?_)
      refine x_ireturn (pc := 35) cx (dA ddX7_reach (i := 17) rfl) (by first | exact Nat.le_of_ble_eq_true rfl | omega) (by first | exact Nat.le_of_ble_eq_true rfl | omega) ?_
      first | exact pCI.r hO (by decide) (if_neg (fun q => ch q.1)) | exact pCI.r hO (by decide) (if_neg (fun q => cP q.2.1)) | exact pCI.r hO (by decide) (if_neg (fun q => cr q.2.2))
    · have cP := b2i_ne c19
      obtain ⟨d, hd, rfl, td⟩ := i32_in (x := d) (n := S.1.2.1 i 0 + 1) ⟨cP.1.1, by have := cP.1.2; omega⟩
      have cP : okl (hX S (nI i)) (nI d) := by rw [eX]; exact cP.1
      refine x_iload_n (pc := 22) cx (dA ddX7_reach (i := 11) rfl) rfl ?_
      refine x_S1 (pc := 23) mX7_70 c_X7_isShelf cx (dA ddX7_reach (i := 12) rfl) (kI ?_)
      refine x_if_ne (pc := 26) (tgt := 36) cx (dA ddX7_reach (i := 13) rfl) (by decide) (fun c26 => ?_) (fun c26 => ?_)
      · have cr0 := b2i_ne c26
        obtain ⟨r, hr, rfl, tr⟩ := i32_in (x := r) (n := 8) cr0
        have cr : oks (nI r) := cr0
        refine x_aload_n (pc := 36) cx (dA ddX7_reach (i := 18) rfl) rfl ?_
        refine x_aload (pc := 37) cx (dA ddX7_reach (i := 19) rfl) rfl ?_
        refine x_iload_n (pc := 39) cx (dA ddX7_reach (i := 20) rfl) rfl ?_
        rcases sh3 (S.2.2.2.1 r) with e | ⟨q, e⟩ | ⟨q, e⟩
        · obtain ⟨e7, e8⟩ := hO.1.sh0 hr e
          refine x_V2 (pc := 40) mX7_245 h0 (c_X7_ruleFor_n hQ hP hT.1 e8) cx (dA ddX7_reach (i := 21) rfl) (kR ?_)
          rw [show va_rf none = .null from rfl]
          refine x_astoreN (pc := 43) cx (dA ddX7_reach (i := 22) rfl) (by decide) rfl ?_
          refine x_aloadN (pc := 45) cx (dA ddX7_reach (i := 23) rfl) rfl ?_
          refine x_ifnonnull_n (pc := 47) cx (dA ddX7_reach (i := 24) rfl) ?_
          refine x_aload_n (pc := 50) cx (dA ddX7_reach (i := 25) rfl) rfl ?_
          refine x_aload_n (pc := 51) cx (dA ddX7_reach (i := 26) rfl) rfl ?_
          refine x_iload_n (pc := 52) cx (dA ddX7_reach (i := 27) rfl) rfl ?_
          refine x_V1 (pc := 53) mX7_89 h0 (c_X7_lackOnShelf hQ) cx (dA ddX7_reach (i := 28) rfl) (kI ?_)
          rw [if_pos ⟨e7, e8⟩]
          refine x_V1 (pc := 56) mX7_74 h0 (c_X7_refuse hQ (i := 2) (by decide) rfl) cx (dA ddX7_reach (i := 29) rfl) (kI ?_)
          refine x_goto (pc := 59) (tgt := 70) cx (dA ddX7_reach (i := 30) rfl) (by decide) ?_
          refine x_ireturn (pc := 70) cx (dA ddX7_reach (i := 35) rfl) (by first | exact Nat.le_of_ble_eq_true rfl | omega) (by first | exact Nat.le_of_ble_eq_true rfl | omega) ?_
          exact pCI.r hO (by decide) (by unfold fReach; rw [if_pos ⟨ch, cP, cr⟩]; exact byI_n ((shX_at hr).trans e))
        · obtain ⟨e8, a, e7, hRw, rT, t5, rE, -, -⟩ := hO.1.shl hr e
          refine x_V2 (pc := 40) mX7_245 h0 (c_X7_ruleFor_n hQ hP hT.1 e8) cx (dA ddX7_reach (i := 21) rfl) (kR ?_)
          rw [show va_rf none = .null from rfl]
          refine x_astoreN (pc := 43) cx (dA ddX7_reach (i := 22) rfl) (by decide) rfl ?_
          refine x_aloadN (pc := 45) cx (dA ddX7_reach (i := 23) rfl) rfl ?_
          refine x_ifnonnull_n (pc := 47) cx (dA ddX7_reach (i := 24) rfl) ?_
          refine x_aload_n (pc := 50) cx (dA ddX7_reach (i := 25) rfl) rfl ?_
          refine x_aload_n (pc := 51) cx (dA ddX7_reach (i := 26) rfl) rfl ?_
          refine x_iload_n (pc := 52) cx (dA ddX7_reach (i := 27) rfl) rfl ?_
          refine x_V1 (pc := 53) mX7_89 h0 (c_X7_lackOnShelf hQ) cx (dA ddX7_reach (i := 28) rfl) (kI ?_)
          rw [if_neg (fun z => by rw [e7] at z; cases z.1)]
          refine x_V1 (pc := 56) mX7_74 h0 (c_X7_refuse hQ (i := 1) (by decide) rfl) cx (dA ddX7_reach (i := 29) rfl) (kI ?_)
          refine x_goto (pc := 59) (tgt := 70) cx (dA ddX7_reach (i := 30) rfl) (by decide) ?_
          refine x_ireturn (pc := 70) cx (dA ddX7_reach (i := 35) rfl) (by first | exact Nat.le_of_ble_eq_true rfl | omega) (by first | exact Nat.le_of_ble_eq_true rfl | omega) ?_
          exact pCI.r hO (by decide) (by unfold fReach; rw [if_pos ⟨ch, cP, cr⟩]; exact byI_r ((shX_at hr).trans e))
        · obtain ⟨e7, a, e8, hR⟩ := hO.1.shr hr e
          obtain ⟨K, hC⟩ := hT.2.1
          refine x_V2 (pc := 40) mX7_245 h0 (c_X7_ruleFor hQ hP hT.1 hC hR.1 e8) cx (dA ddX7_reach (i := 21) rfl) (kRx fun V2 h2 => ?_)
          obtain ⟨K2, hk, hk4, h2⟩ := h2
          obtain ⟨hO, hT⟩ := hO.pw i6 zN hT h2
          have hC := h2.2.1
          obtain ⟨-, a2, e82, hR⟩ := hO.1.shr hr e
          rw [e8] at e82
          cases e82
          rw [show va_rf (some a) = .ref a from rfl]
          refine x_astore (pc := 43) cx (dA ddX7_reach (i := 22) rfl) (by decide) rfl ?_
          refine x_aload (pc := 45) cx (dA ddX7_reach (i := 23) rfl) rfl ?_
          refine x_ifnonnull_s (pc := 47) (tgt := 62) cx (dA ddX7_reach (i := 24) rfl) (by decide) ?_
          refine x_aload (pc := 62) cx (dA ddX7_reach (i := 31) rfl) rfl ?_
          refine x_aload (pc := 64) cx (dA ddX7_reach (i := 32) rfl) rfl ?_
          refine x_iload_n (pc := 66) cx (dA ddX7_reach (i := 33) rfl) rfl ?_
          refine x_V2 (pc := 67) mX7_260 hP.1 (c_X1_statesBy hP hT.1 hC hR.1 (z := d) (by omega) (fun e => by have := hk4 e; omega)) cx (dA ddX7_reach (i := 34) rfl) (kI ?_)
          refine x_ireturn (pc := 70) cx (dA ddX7_reach (i := 35) rfl) (by first | exact Nat.le_of_ble_eq_true rfl | omega) (by first | exact Nat.le_of_ble_eq_true rfl | omega) ?_
          exact pCI.q (hO.ch i6 zN hT) (by unfold fReach; rw [if_pos ⟨ch, cP, cr⟩, byI_q ((shX_at hr).trans e)]; simp only [hX, ti, td]; rfl)
      · have cr := b2i_eq c26
        refine x_aload_n (pc := 29) cx (dA ddX7_reach (i := 14) rfl) rfl ?_
        refine x_bipush (pc := 30) (v := -2) cx (dA ddX7_reach (i := 15) rfl) (by decide) ?_
        refine x_V1 (pc := 32) mX7_74 h0 (c_X7_refuse hQ (i := 0) (by decide) rfl) cx (dA ddX7_reach (i := 16) rfl) (kI ?_)
        refine x_ireturn (pc := 35) cx (dA ddX7_reach (i := 17) rfl) (by first | exact Nat.le_of_ble_eq_true rfl | omega) (by first | exact Nat.le_of_ble_eq_true rfl | omega) ?_
        first | exact pCI.r hO (by decide) (if_neg (fun q => ch q.1)) | exact pCI.r hO (by decide) (if_neg (fun q => cP q.2.1)) | exact pCI.r hO (by decide) (if_neg (fun q => cr q.2.2))
  · refine x_V1 (pc := 2) mX7_183 h0 (hO.pn ch) cx (dA ddX7_reach (i := 2) rfl) (kR ?_)
    rw [show va_rf none = .null from rfl]
    refine x_astoreN (pc := 5) cx (dA ddX7_reach (i := 3) rfl) (by decide) rfl ?_
    refine x_aloadN (pc := 7) cx (dA ddX7_reach (i := 4) rfl) rfl ?_
    refine x_ifnull_n (pc := 9) (tgt := 29) cx (dA ddX7_reach (i := 5) rfl) (by decide) ?_
    refine x_aload_n (pc := 29) cx (dA ddX7_reach (i := 14) rfl) rfl ?_
    refine x_bipush (pc := 30) (v := -2) cx (dA ddX7_reach (i := 15) rfl) (by decide) ?_
    refine x_V1 (pc := 32) mX7_74 h0 (c_X7_refuse hQ (i := 0) (by decide) rfl) cx (dA ddX7_reach (i := 16) rfl) (kI ?_)
    refine x_ireturn (pc := 35) cx (dA ddX7_reach (i := 17) rfl) (by first | exact Nat.le_of_ble_eq_true rfl | omega) (by first | exact Nat.le_of_ble_eq_true rfl | omega) ?_
    first | exact pCI.r hO (by decide) (if_neg (fun q => ch q.1)) | exact pCI.r hO (by decide) (if_neg (fun q => cP q.2.1)) | exact pCI.r hO (by decide) (if_neg (fun q => cr q.2.2))
theorem c_X7_held {l : Launch} {Z : zP} {G : zG} {V : zV} {x : Nat} {col : Nat → Nat} {S : SX} (hRC : RC Z G V x col S) {h k r : Int32} : CT l Z yX7_held cX7_held 6 (some .long) 8 0 0 [.ref x, .int h, .int k, .int r] G V (pCJ Z G V x col (fHeld S h k r)) := by
  refine CT.of (by decide +kernel) (Nat.le_of_ble_eq_true rfl) (fun X hX cx => ?_)
  subst hX
  show Wm Z X 6 G V 0 0 _ 0 [(0, some (.ref x)), (1, some (.int h)), (2, some (.int k)), (3, some (.int r))] []
  have hQ := hRC.1
  have h0 := hQ.1
  have hWd := hRC.2.2.2.2.1
  have c6 := hWd.2.1
  have hO := RO.refl hRC
  refine x_aload_n (pc := 0) cx (dA ddX7_held (i := 0) rfl) rfl ?_
  refine x_iload_n (pc := 1) cx (dA ddX7_held (i := 1) rfl) rfl ?_
  by_cases ch : okc S h
  · obtain ⟨i, hi, rfl, ti⟩ := i32_in ch
    have i6 : i < 6 := by omega
    have eX : hX S (nI i) = S.1.2.1 i := hX_at (by omega)
    have hP := (hQ.2.2.2.2.2.2.2.2.2.2.2.2 i i6).2
    obtain ⟨-, hN, zN⟩ := hWd.2.2.1 i hi
    have hB := hN.1
    have b4 := hB.1
    have n125 := st125 b4
    have h06 := hN.2.1
    refine x_V1 (pc := 2) mX7_183 h0 (hO.po hi) cx (dA ddX7_held (i := 2) rfl) (kRx fun V2 h2 => ?_)
    obtain ⟨hO, hT⟩ := hO.tu i6 zN h2
    rw [show va_rf (some (x + 70 + 12 * i)) = .ref (x + 70 + 12 * i) from rfl]
    refine x_astore (pc := 5) cx (dA ddX7_held (i := 3) rfl) (by decide) rfl ?_
    refine x_aload (pc := 7) cx (dA ddX7_held (i := 4) rfl) rfl ?_
    refine x_ifnull_s (pc := 9) cx (dA ddX7_held (i := 5) rfl) ?_
    refine x_aload (pc := 12) cx (dA ddX7_held (i := 6) rfl) rfl ?_
    refine x_iload_n (pc := 14) cx (dA ddX7_held (i := 7) rfl) rfl ?_
    refine x_V1 (pc := 15) mX7_221 hP.1 (c_X1_hasSort hP hT.1) cx (dA ddX7_held (i := 8) rfl) (kI ?_)
    refine x_if_eq (pc := 18) (tgt := 28) cx (dA ddX7_held (i := 9) rfl) (by decide) (fun c18 => ?_) (fun c18 => ?_)
    · have cK : ¬ okk (hX S (nI i)) k := by rw [eX]; exact b2i_eq c18
      refine x_aload_n (pc := 28) cx (dA ddX7_held (i := 13) rfl) rfl ?_
      refine x_bipush (pc := 29) (v := -2) cx (dA ddX7_held (i := 14) rfl) (by decide) ?_
      refine x_V1 (pc := 31) mX7_74 h0 (c_X7_refuse hQ (i := 0) (by decide) rfl) cx (dA ddX7_held (i := 15) rfl) (kI ?_)
      refine x_i2l (pc := 34) cx (dA ddX7_held (i := 16) rfl) ?_
      refine x_lreturn (pc := 35) cx (dA ddX7_held (i := 17) rfl) (by first | exact Nat.le_of_ble_eq_true rfl | omega) (by first | exact Nat.le_of_ble_eq_true rfl | omega) ?_
      first | exact pCJ.r hO (by decide) (if_neg (fun q => ch q.1)) | exact pCJ.r hO (by decide) (if_neg (fun q => cK q.2.1)) | exact pCJ.r hO (by decide) (if_neg (fun q => cr q.2.2))
    · have cK := b2i_ne c18
      obtain ⟨k, hk0, rfl, tk⟩ := i32_in (x := k) (n := S.1.2.1 i 4) cK
      have cK : okk (hX S (nI i)) (nI k) := by rw [eX]; exact cK
      refine x_iload_n (pc := 21) cx (dA ddX7_held (i := 10) rfl) rfl ?_
      refine x_S1 (pc := 22) mX7_70 c_X7_isShelf cx (dA ddX7_held (i := 11) rfl) (kI ?_)
      refine x_if_ne (pc := 25) (tgt := 36) cx (dA ddX7_held (i := 12) rfl) (by decide) (fun c25 => ?_) (fun c25 => ?_)
      · have cr0 := b2i_ne c25
        obtain ⟨r, hr, rfl, tr⟩ := i32_in (x := r) (n := 8) cr0
        have cr : oks (nI r) := cr0
        refine x_aload_n (pc := 36) cx (dA ddX7_held (i := 18) rfl) rfl ?_
        refine x_aload (pc := 37) cx (dA ddX7_held (i := 19) rfl) rfl ?_
        refine x_iload_n (pc := 39) cx (dA ddX7_held (i := 20) rfl) rfl ?_
        rcases sh3 (S.2.2.2.1 r) with e | ⟨q, e⟩ | ⟨q, e⟩
        · obtain ⟨e7, e8⟩ := hO.1.sh0 hr e
          refine x_V2 (pc := 40) mX7_245 h0 (c_X7_ruleFor_n hQ hP hT.1 e8) cx (dA ddX7_held (i := 21) rfl) (kR ?_)
          rw [show va_rf none = .null from rfl]
          refine x_astoreN (pc := 43) cx (dA ddX7_held (i := 22) rfl) (by decide) rfl ?_
          refine x_aloadN (pc := 45) cx (dA ddX7_held (i := 23) rfl) rfl ?_
          refine x_ifnonnull_n (pc := 47) cx (dA ddX7_held (i := 24) rfl) ?_
          refine x_aload_n (pc := 50) cx (dA ddX7_held (i := 25) rfl) rfl ?_
          refine x_aload_n (pc := 51) cx (dA ddX7_held (i := 26) rfl) rfl ?_
          refine x_iload_n (pc := 52) cx (dA ddX7_held (i := 27) rfl) rfl ?_
          refine x_V1 (pc := 53) mX7_89 h0 (c_X7_lackOnShelf hQ) cx (dA ddX7_held (i := 28) rfl) (kI ?_)
          rw [if_pos ⟨e7, e8⟩]
          refine x_V1 (pc := 56) mX7_74 h0 (c_X7_refuse hQ (i := 2) (by decide) rfl) cx (dA ddX7_held (i := 29) rfl) (kI ?_)
          refine x_i2l (pc := 59) cx (dA ddX7_held (i := 30) rfl) ?_
          refine x_goto (pc := 60) (tgt := 71) cx (dA ddX7_held (i := 31) rfl) (by decide) ?_
          refine x_lreturn (pc := 71) cx (dA ddX7_held (i := 36) rfl) (by first | exact Nat.le_of_ble_eq_true rfl | omega) (by first | exact Nat.le_of_ble_eq_true rfl | omega) ?_
          exact pCJ.r hO (by decide) (by unfold fHeld; rw [if_pos ⟨ch, cK, cr⟩]; exact byJ_n ((shX_at hr).trans e))
        · obtain ⟨e8, a, e7, hRw, rT, t5, rE, -, -⟩ := hO.1.shl hr e
          refine x_V2 (pc := 40) mX7_245 h0 (c_X7_ruleFor_n hQ hP hT.1 e8) cx (dA ddX7_held (i := 21) rfl) (kR ?_)
          rw [show va_rf none = .null from rfl]
          refine x_astoreN (pc := 43) cx (dA ddX7_held (i := 22) rfl) (by decide) rfl ?_
          refine x_aloadN (pc := 45) cx (dA ddX7_held (i := 23) rfl) rfl ?_
          refine x_ifnonnull_n (pc := 47) cx (dA ddX7_held (i := 24) rfl) ?_
          refine x_aload_n (pc := 50) cx (dA ddX7_held (i := 25) rfl) rfl ?_
          refine x_aload_n (pc := 51) cx (dA ddX7_held (i := 26) rfl) rfl ?_
          refine x_iload_n (pc := 52) cx (dA ddX7_held (i := 27) rfl) rfl ?_
          refine x_V1 (pc := 53) mX7_89 h0 (c_X7_lackOnShelf hQ) cx (dA ddX7_held (i := 28) rfl) (kI ?_)
          rw [if_neg (fun z => by rw [e7] at z; cases z.1)]
          refine x_V1 (pc := 56) mX7_74 h0 (c_X7_refuse hQ (i := 1) (by decide) rfl) cx (dA ddX7_held (i := 29) rfl) (kI ?_)
          refine x_i2l (pc := 59) cx (dA ddX7_held (i := 30) rfl) ?_
          refine x_goto (pc := 60) (tgt := 71) cx (dA ddX7_held (i := 31) rfl) (by decide) ?_
          refine x_lreturn (pc := 71) cx (dA ddX7_held (i := 36) rfl) (by first | exact Nat.le_of_ble_eq_true rfl | omega) (by first | exact Nat.le_of_ble_eq_true rfl | omega) ?_
          exact pCJ.r hO (by decide) (by unfold fHeld; rw [if_pos ⟨ch, cK, cr⟩]; exact byJ_r ((shX_at hr).trans e))
        · obtain ⟨e7, a, e8, hR⟩ := hO.1.shr hr e
          obtain ⟨K, hC⟩ := hT.2.1
          refine x_V2 (pc := 40) mX7_245 h0 (c_X7_ruleFor hQ hP hT.1 hC hR.1 e8) cx (dA ddX7_held (i := 21) rfl) (kRx fun V2 h2 => ?_)
          obtain ⟨K2, hk, hk4, h2⟩ := h2
          obtain ⟨hO, hT⟩ := hO.pw i6 zN hT h2
          have hC := h2.2.1
          obtain ⟨-, a2, e82, hR⟩ := hO.1.shr hr e
          rw [e8] at e82
          cases e82
          rw [show va_rf (some a) = .ref a from rfl]
          refine x_astore (pc := 43) cx (dA ddX7_held (i := 22) rfl) (by decide) rfl ?_
          refine x_aload (pc := 45) cx (dA ddX7_held (i := 23) rfl) rfl ?_
          refine x_ifnonnull_s (pc := 47) (tgt := 63) cx (dA ddX7_held (i := 24) rfl) (by decide) ?_
          refine x_aload (pc := 63) cx (dA ddX7_held (i := 32) rfl) rfl ?_
          refine x_aload (pc := 65) cx (dA ddX7_held (i := 33) rfl) rfl ?_
          refine x_iload_n (pc := 67) cx (dA ddX7_held (i := 34) rfl) rfl ?_
          refine x_V2 (pc := 68) mX7_264 hP.1 (c_X1_heldBy hP hT.1 hC hR.1 (k := k) (by omega) (fun e => by have := hk4 e; omega)) cx (dA ddX7_held (i := 35) rfl) (kJ ?_)
          refine x_lreturn (pc := 71) cx (dA ddX7_held (i := 36) rfl) (by first | exact Nat.le_of_ble_eq_true rfl | omega) (by first | exact Nat.le_of_ble_eq_true rfl | omega) ?_
          exact pCJ.q (hO.ch i6 zN hT) (by unfold fHeld; rw [if_pos ⟨ch, cK, cr⟩, byJ_q ((shX_at hr).trans e)]; simp only [hX, ti, tk]; rfl)
      · have cr := b2i_eq c25
        refine x_aload_n (pc := 28) cx (dA ddX7_held (i := 13) rfl) rfl ?_
        refine x_bipush (pc := 29) (v := -2) cx (dA ddX7_held (i := 14) rfl) (by decide) ?_
        refine x_V1 (pc := 31) mX7_74 h0 (c_X7_refuse hQ (i := 0) (by decide) rfl) cx (dA ddX7_held (i := 15) rfl) (kI ?_)
        refine x_i2l (pc := 34) cx (dA ddX7_held (i := 16) rfl) ?_
        refine x_lreturn (pc := 35) cx (dA ddX7_held (i := 17) rfl) (by first | exact Nat.le_of_ble_eq_true rfl | omega) (by first | exact Nat.le_of_ble_eq_true rfl | omega) ?_
        first | exact pCJ.r hO (by decide) (if_neg (fun q => ch q.1)) | exact pCJ.r hO (by decide) (if_neg (fun q => cK q.2.1)) | exact pCJ.r hO (by decide) (if_neg (fun q => cr q.2.2))
  · refine x_V1 (pc := 2) mX7_183 h0 (hO.pn ch) cx (dA ddX7_held (i := 2) rfl) (kR ?_)
    rw [show va_rf none = .null from rfl]
    refine x_astoreN (pc := 5) cx (dA ddX7_held (i := 3) rfl) (by decide) rfl ?_
    refine x_aloadN (pc := 7) cx (dA ddX7_held (i := 4) rfl) rfl ?_
    refine x_ifnull_n (pc := 9) (tgt := 28) cx (dA ddX7_held (i := 5) rfl) (by decide) ?_
    refine x_aload_n (pc := 28) cx (dA ddX7_held (i := 13) rfl) rfl ?_
    refine x_bipush (pc := 29) (v := -2) cx (dA ddX7_held (i := 14) rfl) (by decide) ?_
    refine x_V1 (pc := 31) mX7_74 h0 (c_X7_refuse hQ (i := 0) (by decide) rfl) cx (dA ddX7_held (i := 15) rfl) (kI ?_)
    refine x_i2l (pc := 34) cx (dA ddX7_held (i := 16) rfl) ?_
    refine x_lreturn (pc := 35) cx (dA ddX7_held (i := 17) rfl) (by first | exact Nat.le_of_ble_eq_true rfl | omega) (by first | exact Nat.le_of_ble_eq_true rfl | omega) ?_
    first | exact pCJ.r hO (by decide) (if_neg (fun q => ch q.1)) | exact pCJ.r hO (by decide) (if_neg (fun q => cK q.2.1)) | exact pCJ.r hO (by decide) (if_neg (fun q => cr q.2.2))
theorem c_X7_boxes {l : Launch} {Z : zP} {G : zG} {V : zV} {x : Nat} {col : Nat → Nat} {S : SX} (hRC : RC Z G V x col S) {h r : Int32} : CT l Z yX7_boxes cX7_boxes 5 (some .long) 8 0 0 [.ref x, .int h, .int r] G V (pCJ Z G V x col (fBoxes S h r)) := by
  refine CT.of (by decide +kernel) (Nat.le_of_ble_eq_true rfl) (fun X hX cx => ?_)
  subst hX
  show Wm Z X 5 G V 0 0 _ 0 [(0, some (.ref x)), (1, some (.int h)), (2, some (.int r))] []
  have hQ := hRC.1
  have h0 := hQ.1
  have hWd := hRC.2.2.2.2.1
  have c6 := hWd.2.1
  have hO := RO.refl hRC
  refine x_aload_n (pc := 0) cx (dA ddX7_boxes (i := 0) rfl) rfl ?_
  refine x_iload_n (pc := 1) cx (dA ddX7_boxes (i := 1) rfl) rfl ?_
  by_cases ch : okc S h
  · obtain ⟨i, hi, rfl, ti⟩ := i32_in ch
    have i6 : i < 6 := by omega
    have eX : hX S (nI i) = S.1.2.1 i := hX_at (by omega)
    have hP := (hQ.2.2.2.2.2.2.2.2.2.2.2.2 i i6).2
    obtain ⟨-, hN, zN⟩ := hWd.2.2.1 i hi
    have hB := hN.1
    have b4 := hB.1
    have n125 := st125 b4
    have h06 := hN.2.1
    refine x_V1 (pc := 2) mX7_183 h0 (hO.po hi) cx (dA ddX7_boxes (i := 2) rfl) (kRx fun V2 h2 => ?_)
    obtain ⟨hO, hT⟩ := hO.tu i6 zN h2
    rw [show va_rf (some (x + 70 + 12 * i)) = .ref (x + 70 + 12 * i) from rfl]
    refine x_astore_n (pc := 5) cx (dA ddX7_boxes (i := 3) rfl) (by decide) rfl ?_
    refine x_aload_n (pc := 6) cx (dA ddX7_boxes (i := 4) rfl) rfl ?_
    refine x_ifnull_s (pc := 7) cx (dA ddX7_boxes (i := 5) rfl) ?_
    refine x_iload_n (pc := 10) cx (dA ddX7_boxes (i := 6) rfl) rfl ?_
    refine x_S1 (pc := 11) mX7_70 c_X7_isShelf cx (dA ddX7_boxes (i := 7) rfl) (kI ?_)
    refine x_if_ne (pc := 14) (tgt := 25) cx (dA ddX7_boxes (i := 8) rfl) (by decide) (fun c14 => ?_) (fun c14 => ?_)
    · have cr0 := b2i_ne c14
      obtain ⟨r, hr, rfl, tr⟩ := i32_in (x := r) (n := 8) cr0
      have cr : oks (nI r) := cr0
      refine x_aload_n (pc := 25) cx (dA ddX7_boxes (i := 14) rfl) rfl ?_
      refine x_aload_n (pc := 26) cx (dA ddX7_boxes (i := 15) rfl) rfl ?_
      refine x_iload_n (pc := 27) cx (dA ddX7_boxes (i := 16) rfl) rfl ?_
      rcases sh3 (S.2.2.2.1 r) with e | ⟨q, e⟩ | ⟨q, e⟩
      · obtain ⟨e7, e8⟩ := hO.1.sh0 hr e
        refine x_V2 (pc := 28) mX7_245 h0 (c_X7_ruleFor_n hQ hP hT.1 e8) cx (dA ddX7_boxes (i := 17) rfl) (kR ?_)
        rw [show va_rf none = .null from rfl]
        refine x_astoreN (pc := 31) cx (dA ddX7_boxes (i := 18) rfl) (by decide) rfl ?_
        refine x_aloadN (pc := 33) cx (dA ddX7_boxes (i := 19) rfl) rfl ?_
        refine x_ifnonnull_n (pc := 35) cx (dA ddX7_boxes (i := 20) rfl) ?_
        refine x_aload_n (pc := 38) cx (dA ddX7_boxes (i := 21) rfl) rfl ?_
        refine x_aload_n (pc := 39) cx (dA ddX7_boxes (i := 22) rfl) rfl ?_
        refine x_iload_n (pc := 40) cx (dA ddX7_boxes (i := 23) rfl) rfl ?_
        refine x_V1 (pc := 41) mX7_89 h0 (c_X7_lackOnShelf hQ) cx (dA ddX7_boxes (i := 24) rfl) (kI ?_)
        rw [if_pos ⟨e7, e8⟩]
        refine x_V1 (pc := 44) mX7_74 h0 (c_X7_refuse hQ (i := 2) (by decide) rfl) cx (dA ddX7_boxes (i := 25) rfl) (kI ?_)
        refine x_i2l (pc := 47) cx (dA ddX7_boxes (i := 26) rfl) ?_
        refine x_goto (pc := 48) (tgt := 57) cx (dA ddX7_boxes (i := 27) rfl) (by decide) ?_
        refine x_lreturn (pc := 57) cx (dA ddX7_boxes (i := 31) rfl) (by first | exact Nat.le_of_ble_eq_true rfl | omega) (by first | exact Nat.le_of_ble_eq_true rfl | omega) ?_
        exact pCJ.r hO (by decide) (by unfold fBoxes; rw [if_pos ⟨ch, cr⟩]; exact byJ_n ((shX_at hr).trans e))
      · obtain ⟨e8, a, e7, hRw, rT, t5, rE, -, -⟩ := hO.1.shl hr e
        refine x_V2 (pc := 28) mX7_245 h0 (c_X7_ruleFor_n hQ hP hT.1 e8) cx (dA ddX7_boxes (i := 17) rfl) (kR ?_)
        rw [show va_rf none = .null from rfl]
        refine x_astoreN (pc := 31) cx (dA ddX7_boxes (i := 18) rfl) (by decide) rfl ?_
        refine x_aloadN (pc := 33) cx (dA ddX7_boxes (i := 19) rfl) rfl ?_
        refine x_ifnonnull_n (pc := 35) cx (dA ddX7_boxes (i := 20) rfl) ?_
        refine x_aload_n (pc := 38) cx (dA ddX7_boxes (i := 21) rfl) rfl ?_
        refine x_aload_n (pc := 39) cx (dA ddX7_boxes (i := 22) rfl) rfl ?_
        refine x_iload_n (pc := 40) cx (dA ddX7_boxes (i := 23) rfl) rfl ?_
        refine x_V1 (pc := 41) mX7_89 h0 (c_X7_lackOnShelf hQ) cx (dA ddX7_boxes (i := 24) rfl) (kI ?_)
        rw [if_neg (fun z => by rw [e7] at z; cases z.1)]
        refine x_V1 (pc := 44) mX7_74 h0 (c_X7_refuse hQ (i := 1) (by decide) rfl) cx (dA ddX7_boxes (i := 25) rfl) (kI ?_)
        refine x_i2l (pc := 47) cx (dA ddX7_boxes (i := 26) rfl) ?_
        refine x_goto (pc := 48) (tgt := 57) cx (dA ddX7_boxes (i := 27) rfl) (by decide) ?_
        refine x_lreturn (pc := 57) cx (dA ddX7_boxes (i := 31) rfl) (by first | exact Nat.le_of_ble_eq_true rfl | omega) (by first | exact Nat.le_of_ble_eq_true rfl | omega) ?_
        exact pCJ.r hO (by decide) (by unfold fBoxes; rw [if_pos ⟨ch, cr⟩]; exact byJ_r ((shX_at hr).trans e))
      · obtain ⟨e7, a, e8, hR⟩ := hO.1.shr hr e
        obtain ⟨K, hC⟩ := hT.2.1
        refine x_V2 (pc := 28) mX7_245 h0 (c_X7_ruleFor hQ hP hT.1 hC hR.1 e8) cx (dA ddX7_boxes (i := 17) rfl) (kRx fun V2 h2 => ?_)
        obtain ⟨K2, hk, hk4, h2⟩ := h2
        obtain ⟨hO, hT⟩ := hO.pw i6 zN hT h2
        have hC := h2.2.1
        obtain ⟨-, a2, e82, hR⟩ := hO.1.shr hr e
        rw [e8] at e82
        cases e82
        rw [show va_rf (some a) = .ref a from rfl]
        refine x_astore (pc := 31) cx (dA ddX7_boxes (i := 18) rfl) (by decide) rfl ?_
        refine x_aload (pc := 33) cx (dA ddX7_boxes (i := 19) rfl) rfl ?_
        refine x_ifnonnull_s (pc := 35) (tgt := 51) cx (dA ddX7_boxes (i := 20) rfl) (by decide) ?_
        refine x_aload_n (pc := 51) cx (dA ddX7_boxes (i := 28) rfl) rfl ?_
        refine x_aload (pc := 52) cx (dA ddX7_boxes (i := 29) rfl) rfl ?_
        refine x_V1 (pc := 54) mX7_268 hP.1 (c_X1_boxesBy hP hT.1 hC hR.1 (fun e => by have := hk4 e; omega)) cx (dA ddX7_boxes (i := 30) rfl) (kJ ?_)
        refine x_lreturn (pc := 57) cx (dA ddX7_boxes (i := 31) rfl) (by first | exact Nat.le_of_ble_eq_true rfl | omega) (by first | exact Nat.le_of_ble_eq_true rfl | omega) ?_
        exact pCJ.q (hO.ch i6 zN hT) (by unfold fBoxes; rw [if_pos ⟨ch, cr⟩, byJ_q ((shX_at hr).trans e)]; simp only [hX, ti]; rfl)
    · have cr := b2i_eq c14
      refine x_aload_n (pc := 17) cx (dA ddX7_boxes (i := 9) rfl) rfl ?_
      refine x_bipush (pc := 18) (v := -2) cx (dA ddX7_boxes (i := 10) rfl) (by decide) ?_
      refine x_V1 (pc := 20) mX7_74 h0 (c_X7_refuse hQ (i := 0) (by decide) rfl) cx (dA ddX7_boxes (i := 11) rfl) (kI ?_)
      refine x_i2l (pc := 23) cx (dA ddX7_boxes (i := 12) rfl) ?_
      refine x_lreturn (pc := 24) cx (dA ddX7_boxes (i := 13) rfl) (by first | exact Nat.le_of_ble_eq_true rfl | omega) (by first | exact Nat.le_of_ble_eq_true rfl | omega) ?_
      first | exact pCJ.r hO (by decide) (if_neg (fun q => ch q.1)) | exact pCJ.r hO (by decide) (if_neg (fun q => cr q.2))
  · refine x_V1 (pc := 2) mX7_183 h0 (hO.pn ch) cx (dA ddX7_boxes (i := 2) rfl) (kR ?_)
    rw [show va_rf none = .null from rfl]
    refine x_astore_nN (pc := 5) cx (dA ddX7_boxes (i := 3) rfl) (by decide) rfl ?_
    refine x_aload_nN (pc := 6) cx (dA ddX7_boxes (i := 4) rfl) rfl ?_
    refine x_ifnull_n (pc := 7) (tgt := 17) cx (dA ddX7_boxes (i := 5) rfl) (by decide) ?_
    refine x_aload_n (pc := 17) cx (dA ddX7_boxes (i := 9) rfl) rfl ?_
    refine x_bipush (pc := 18) (v := -2) cx (dA ddX7_boxes (i := 10) rfl) (by decide) ?_
    refine x_V1 (pc := 20) mX7_74 h0 (c_X7_refuse hQ (i := 0) (by decide) rfl) cx (dA ddX7_boxes (i := 11) rfl) (kI ?_)
    refine x_i2l (pc := 23) cx (dA ddX7_boxes (i := 12) rfl) ?_
    refine x_lreturn (pc := 24) cx (dA ddX7_boxes (i := 13) rfl) (by first | exact Nat.le_of_ble_eq_true rfl | omega) (by first | exact Nat.le_of_ble_eq_true rfl | omega) ?_
    first | exact pCJ.r hO (by decide) (if_neg (fun q => ch q.1)) | exact pCJ.r hO (by decide) (if_neg (fun q => cr q.2))
theorem c_X7_judge {l : Launch} {Z : zP} {G : zG} {V : zV} {x : Nat} {col : Nat → Nat} {S : SX} (hRC : RC Z G V x col S) {h t r : Int32} : CT l Z yX7_judge cX7_judge 6 (some .int) 8 0 0 [.ref x, .int h, .int t, .int r] G V (pCI Z G V x col (fJudge S h t r)) := by
  refine CT.of (by decide +kernel) (Nat.le_of_ble_eq_true rfl) (fun X hX cx => ?_)
  subst hX
  show Wm Z X 6 G V 0 0 _ 0 [(0, some (.ref x)), (1, some (.int h)), (2, some (.int t)), (3, some (.int r))] []
  have hQ := hRC.1
  have h0 := hQ.1
  have hWd := hRC.2.2.2.2.1
  have c6 := hWd.2.1
  have hO := RO.refl hRC
  refine x_aload_n (pc := 0) cx (dA ddX7_judge (i := 0) rfl) rfl ?_
  refine x_iload_n (pc := 1) cx (dA ddX7_judge (i := 1) rfl) rfl ?_
  by_cases ch : okc S h
  · obtain ⟨i, hi, rfl, ti⟩ := i32_in ch
    have i6 : i < 6 := by omega
    have eX : hX S (nI i) = S.1.2.1 i := hX_at (by omega)
    have hP := (hQ.2.2.2.2.2.2.2.2.2.2.2.2 i i6).2
    obtain ⟨-, hN, zN⟩ := hWd.2.2.1 i hi
    have hB := hN.1
    have b4 := hB.1
    have n125 := st125 b4
    have h06 := hN.2.1
    refine x_V1 (pc := 2) mX7_183 h0 (hO.po hi) cx (dA ddX7_judge (i := 2) rfl) (kRx fun V2 h2 => ?_)
    obtain ⟨hO, hT⟩ := hO.tu i6 zN h2
    rw [show va_rf (some (x + 70 + 12 * i)) = .ref (x + 70 + 12 * i) from rfl]
    refine x_astore (pc := 5) cx (dA ddX7_judge (i := 3) rfl) (by decide) rfl ?_
    refine x_aload (pc := 7) cx (dA ddX7_judge (i := 4) rfl) rfl ?_
    refine x_ifnull_s (pc := 9) cx (dA ddX7_judge (i := 5) rfl) ?_
    refine x_aload (pc := 12) cx (dA ddX7_judge (i := 6) rfl) rfl ?_
    refine x_iload_n (pc := 14) cx (dA ddX7_judge (i := 7) rfl) rfl ?_
    refine x_V1 (pc := 15) mX7_187 hP.1 (c_X1_hasState hP hT.1) cx (dA ddX7_judge (i := 8) rfl) (kI ?_)
    refine x_if_eq (pc := 18) (tgt := 28) cx (dA ddX7_judge (i := 9) rfl) (by decide) (fun c18 => ?_) (fun c18 => ?_)
    · have cP : ¬ okt (hX S (nI i)) t := by rw [eX]; exact b2i_eq c18
      refine x_aload_n (pc := 28) cx (dA ddX7_judge (i := 13) rfl) rfl ?_
      refine x_bipush (pc := 29) (v := -2) cx (dA ddX7_judge (i := 14) rfl) (by decide) ?_
      refine x_V1 (pc := 31) mX7_74 h0 (c_X7_refuse hQ (i := 0) (by decide) rfl) cx (dA ddX7_judge (i := 15) rfl) (kI ?_)
      refine x_ireturn (pc := 34) cx (dA ddX7_judge (i := 16) rfl) (by first | exact Nat.le_of_ble_eq_true rfl | omega) (by first | exact Nat.le_of_ble_eq_true rfl | omega) ?_
      first | exact pCI.r hO (by decide) (if_neg (fun q => ch q.1)) | exact pCI.r hO (by decide) (if_neg (fun q => cP q.2.1)) | exact pCI.r hO (by decide) (if_neg (fun q => cr q.2.2))
    · have cP := b2i_ne c18
      obtain ⟨t, ht, rfl, tt⟩ := i32_in (x := t) (n := 5 ^ S.1.2.1 i 4) cP
      have cP : okt (hX S (nI i)) (nI t) := by rw [eX]; exact cP
      refine x_iload_n (pc := 21) cx (dA ddX7_judge (i := 10) rfl) rfl ?_
      refine x_S1 (pc := 22) mX7_70 c_X7_isShelf cx (dA ddX7_judge (i := 11) rfl) (kI ?_)
      refine x_if_ne (pc := 25) (tgt := 35) cx (dA ddX7_judge (i := 12) rfl) (by decide) (fun c25 => ?_) (fun c25 => ?_)
      · have cr0 := b2i_ne c25
        obtain ⟨r, hr, rfl, tr⟩ := i32_in (x := r) (n := 8) cr0
        have cr : oks (nI r) := cr0
        refine x_aload_n (pc := 35) cx (dA ddX7_judge (i := 17) rfl) rfl ?_
        refine x_iload_n (pc := 36) cx (dA ddX7_judge (i := 18) rfl) rfl ?_
        rcases sh3 (S.2.2.2.1 r) with e | ⟨q, e⟩ | ⟨q, e⟩
        · obtain ⟨e7, e8⟩ := hO.1.sh0 hr e
          refine x_V1 (pc := 37) mX7_85 h0 (c_X7_rowAt hQ) cx (dA ddX7_judge (i := 19) rfl) (kR ?_)
          rw [e7, show va_rf none = .null from rfl]
          refine x_astoreN (pc := 40) cx (dA ddX7_judge (i := 20) rfl) (by decide) rfl ?_
          refine x_aloadN (pc := 42) cx (dA ddX7_judge (i := 21) rfl) rfl ?_
          refine x_ifnonnull_n (pc := 44) cx (dA ddX7_judge (i := 22) rfl) ?_
          refine x_aload_n (pc := 47) cx (dA ddX7_judge (i := 23) rfl) rfl ?_
          refine x_aload_n (pc := 48) cx (dA ddX7_judge (i := 24) rfl) rfl ?_
          refine x_iload_n (pc := 49) cx (dA ddX7_judge (i := 25) rfl) rfl ?_
          refine x_V1 (pc := 50) mX7_89 h0 (c_X7_lackOnShelf hQ) cx (dA ddX7_judge (i := 26) rfl) (kI ?_)
          rw [if_pos ⟨e7, e8⟩]
          refine x_V1 (pc := 53) mX7_74 h0 (c_X7_refuse hQ (i := 2) (by decide) rfl) cx (dA ddX7_judge (i := 27) rfl) (kI ?_)
          refine x_ireturn (pc := 56) cx (dA ddX7_judge (i := 28) rfl) (by first | exact Nat.le_of_ble_eq_true rfl | omega) (by first | exact Nat.le_of_ble_eq_true rfl | omega) ?_
          exact pCI.r hO (by decide) (by unfold fJudge; rw [if_pos ⟨ch, cP, cr⟩, (shX_at hr).trans e])
        · obtain ⟨e8, a, e7, hRw, rT, t5, rE, -, -⟩ := hO.1.shl hr e
          refine x_V1 (pc := 37) mX7_85 h0 (c_X7_rowAt hQ) cx (dA ddX7_judge (i := 19) rfl) (kR ?_)
          rw [e7, show va_rf (some a) = .ref a from rfl]
          refine x_astore (pc := 40) cx (dA ddX7_judge (i := 20) rfl) (by decide) rfl ?_
          refine x_aload (pc := 42) cx (dA ddX7_judge (i := 21) rfl) rfl ?_
          refine x_ifnonnull_s (pc := 44) (tgt := 57) cx (dA ddX7_judge (i := 22) rfl) (by decide) ?_
          refine x_aload (pc := 57) cx (dA ddX7_judge (i := 29) rfl) rfl ?_
          refine x_V0 (pc := 59) mX7_236 hRw.1 (c_X2_size hRw) cx (dA ddX7_judge (i := 30) rfl) (kI ?_)
          have m125 := hRw.2.2.2
          refine x_aload (pc := 62) cx (dA ddX7_judge (i := 31) rfl) rfl ?_
          refine gX7_239 (pc := 64) (congrArg Value.int hT.1.2.2.2.1) cx (dA ddX7_judge (i := 32) rfl) hP.1 ?_
          refine x_icmp_ge (pc := 67) (tgt := 79) cx (dA ddX7_judge (i := 33) rfl) (by decide) (fun c67 => ?_) (fun c67 => ?_)
          · have c67 := cleT (by omega) (by omega) c67
            refine x_aload (pc := 79) cx (dA ddX7_judge (i := 38) rfl) rfl ?_
            refine x_aload (pc := 81) cx (dA ddX7_judge (i := 39) rfl) rfl ?_
            refine x_iload_n (pc := 83) cx (dA ddX7_judge (i := 40) rfl) rfl ?_
            refine x_V2 (pc := 84) mX7_241 hP.1 (c_X1_judgeOf hP hT.1 (s := t) ht hRw (by omega)) cx (dA ddX7_judge (i := 41) rfl) (kI ?_)
            obtain ⟨-, a2, e72, -, -, -, rE, -, -⟩ := hO.1.shl hr e
            rw [e7] at e72
            cases e72
            have n4 : S.1.2.1 i 4 ≤ q.2.1 := by omega
            refine x_ireturn (pc := 87) cx (dA ddX7_judge (i := 42) rfl) (by first | exact Nat.le_of_ble_eq_true rfl | omega) (by first | exact Nat.le_of_ble_eq_true rfl | omega) ?_
            exact pCI.q hO (by unfold fJudge; rw [if_pos ⟨ch, cP, cr⟩, (shX_at hr).trans e, eX, tt]; show (if q.2.1 < S.1.2.1 i 4 then _ else _) = _; rw [if_neg (by omega)]; exact congrArg (fun z => (nI z, S)) (jdP_cg (fun j hj => (rE j (by omega)).symm)))
          · have c67 := cleF (by omega) (by omega) c67
            refine x_aload_n (pc := 70) cx (dA ddX7_judge (i := 34) rfl) rfl ?_
            refine x_bipush (pc := 71) (v := -2) cx (dA ddX7_judge (i := 35) rfl) (by decide) ?_
            refine x_V1 (pc := 73) mX7_74 h0 (c_X7_refuse hQ (i := 0) (by decide) rfl) cx (dA ddX7_judge (i := 36) rfl) (kI ?_)
            refine x_goto (pc := 76) (tgt := 87) cx (dA ddX7_judge (i := 37) rfl) (by decide) ?_
            refine x_ireturn (pc := 87) cx (dA ddX7_judge (i := 42) rfl) (by first | exact Nat.le_of_ble_eq_true rfl | omega) (by first | exact Nat.le_of_ble_eq_true rfl | omega) ?_
            exact pCI.r hO (by decide) (by unfold fJudge; rw [if_pos ⟨ch, cP, cr⟩, (shX_at hr).trans e, eX]; exact if_pos (by omega))
        · obtain ⟨e7, a, e8, hR⟩ := hO.1.shr hr e
          refine x_V1 (pc := 37) mX7_85 h0 (c_X7_rowAt hQ) cx (dA ddX7_judge (i := 19) rfl) (kR ?_)
          rw [e7, show va_rf none = .null from rfl]
          refine x_astoreN (pc := 40) cx (dA ddX7_judge (i := 20) rfl) (by decide) rfl ?_
          refine x_aloadN (pc := 42) cx (dA ddX7_judge (i := 21) rfl) rfl ?_
          refine x_ifnonnull_n (pc := 44) cx (dA ddX7_judge (i := 22) rfl) ?_
          refine x_aload_n (pc := 47) cx (dA ddX7_judge (i := 23) rfl) rfl ?_
          refine x_aload_n (pc := 48) cx (dA ddX7_judge (i := 24) rfl) rfl ?_
          refine x_iload_n (pc := 49) cx (dA ddX7_judge (i := 25) rfl) rfl ?_
          refine x_V1 (pc := 50) mX7_89 h0 (c_X7_lackOnShelf hQ) cx (dA ddX7_judge (i := 26) rfl) (kI ?_)
          rw [if_neg (fun z => by rw [e8] at z; cases z.2)]
          refine x_V1 (pc := 53) mX7_74 h0 (c_X7_refuse hQ (i := 1) (by decide) rfl) cx (dA ddX7_judge (i := 27) rfl) (kI ?_)
          refine x_ireturn (pc := 56) cx (dA ddX7_judge (i := 28) rfl) (by first | exact Nat.le_of_ble_eq_true rfl | omega) (by first | exact Nat.le_of_ble_eq_true rfl | omega) ?_
          exact pCI.r hO (by decide) (by unfold fJudge; rw [if_pos ⟨ch, cP, cr⟩, (shX_at hr).trans e])
      · have cr := b2i_eq c25
        refine x_aload_n (pc := 28) cx (dA ddX7_judge (i := 13) rfl) rfl ?_
        refine x_bipush (pc := 29) (v := -2) cx (dA ddX7_judge (i := 14) rfl) (by decide) ?_
        refine x_V1 (pc := 31) mX7_74 h0 (c_X7_refuse hQ (i := 0) (by decide) rfl) cx (dA ddX7_judge (i := 15) rfl) (kI ?_)
        refine x_ireturn (pc := 34) cx (dA ddX7_judge (i := 16) rfl) (by first | exact Nat.le_of_ble_eq_true rfl | omega) (by first | exact Nat.le_of_ble_eq_true rfl | omega) ?_
        first | exact pCI.r hO (by decide) (if_neg (fun q => ch q.1)) | exact pCI.r hO (by decide) (if_neg (fun q => cP q.2.1)) | exact pCI.r hO (by decide) (if_neg (fun q => cr q.2.2))
  · refine x_V1 (pc := 2) mX7_183 h0 (hO.pn ch) cx (dA ddX7_judge (i := 2) rfl) (kR ?_)
    rw [show va_rf none = .null from rfl]
    refine x_astoreN (pc := 5) cx (dA ddX7_judge (i := 3) rfl) (by decide) rfl ?_
    refine x_aloadN (pc := 7) cx (dA ddX7_judge (i := 4) rfl) rfl ?_
    refine x_ifnull_n (pc := 9) (tgt := 28) cx (dA ddX7_judge (i := 5) rfl) (by decide) ?_
    refine x_aload_n (pc := 28) cx (dA ddX7_judge (i := 13) rfl) rfl ?_
    refine x_bipush (pc := 29) (v := -2) cx (dA ddX7_judge (i := 14) rfl) (by decide) ?_
    refine x_V1 (pc := 31) mX7_74 h0 (c_X7_refuse hQ (i := 0) (by decide) rfl) cx (dA ddX7_judge (i := 15) rfl) (kI ?_)
    refine x_ireturn (pc := 34) cx (dA ddX7_judge (i := 16) rfl) (by first | exact Nat.le_of_ble_eq_true rfl | omega) (by first | exact Nat.le_of_ble_eq_true rfl | omega) ?_
    first | exact pCI.r hO (by decide) (if_neg (fun q => ch q.1)) | exact pCI.r hO (by decide) (if_neg (fun q => cP q.2.1)) | exact pCI.r hO (by decide) (if_neg (fun q => cr q.2.2))
theorem c_X7_dear {l : Launch} {Z : zP} {G : zG} {V : zV} {x : Nat} {col : Nat → Nat} {S : SX} (hRC : RC Z G V x col S) {h d t k : Int32} : CT l Z yX7_dear cX7_dear 6 (some .long) 8 0 0 [.ref x, .int h, .int d, .int t, .int k] G V (pCJ Z G V x col (fDear S h d t k)) := by
  refine CT.of (by decide +kernel) (Nat.le_of_ble_eq_true rfl) (fun X hX cx => ?_)
  subst hX
  show Wm Z X 6 G V 0 0 _ 0 [(0, some (.ref x)), (1, some (.int h)), (2, some (.int d)), (3, some (.int t)), (4, some (.int k))] []
  have hQ := hRC.1
  have h0 := hQ.1
  have hWd := hRC.2.2.2.2.1
  have c6 := hWd.2.1
  have hO := RO.refl hRC
  refine x_aload_n (pc := 0) cx (dA ddX7_dear (i := 0) rfl) rfl ?_
  refine x_iload_n (pc := 1) cx (dA ddX7_dear (i := 1) rfl) rfl ?_
  by_cases ch : okc S h
  · obtain ⟨i, hi, rfl, ti⟩ := i32_in ch
    have i6 : i < 6 := by omega
    have eX : hX S (nI i) = S.1.2.1 i := hX_at (by omega)
    have hP := (hQ.2.2.2.2.2.2.2.2.2.2.2.2 i i6).2
    obtain ⟨-, hN, zN⟩ := hWd.2.2.1 i hi
    have hB := hN.1
    have b4 := hB.1
    have n125 := st125 b4
    have h06 := hN.2.1
    refine x_V1 (pc := 2) mX7_183 h0 (hO.po hi) cx (dA ddX7_dear (i := 2) rfl) (kRx fun V2 h2 => ?_)
    obtain ⟨hO, hT⟩ := hO.tu i6 zN h2
    rw [show va_rf (some (x + 70 + 12 * i)) = .ref (x + 70 + 12 * i) from rfl]
    refine x_astore (pc := 5) cx (dA ddX7_dear (i := 3) rfl) (by decide) rfl ?_
    refine x_aload (pc := 7) cx (dA ddX7_dear (i := 4) rfl) rfl ?_
    refine x_ifnull_s (pc := 9) cx (dA ddX7_dear (i := 5) rfl) ?_
    refine x_aload (pc := 12) cx (dA ddX7_dear (i := 6) rfl) rfl ?_
    refine x_iload_n (pc := 14) cx (dA ddX7_dear (i := 7) rfl) rfl ?_
    refine x_iload_n (pc := 15) cx (dA ddX7_dear (i := 8) rfl) rfl ?_
    refine x_V2 (pc := 16) mX7_203 hP.1 (c_X1_hasPlace hP hT.1) cx (dA ddX7_dear (i := 9) rfl) (kI ?_)
    refine x_if_eq (pc := 19) (tgt := 42) cx (dA ddX7_dear (i := 10) rfl) (by decide) (fun c19 => ?_) (fun c19 => ?_)
    · have cP : ¬ (okl (hX S (nI i)) d ∧ okt (hX S (nI i)) t) := by rw [eX]; exact b2i_eq c19
      refine x_aload_n (pc := 42) cx (dA ddX7_dear (i := 20) rfl) rfl ?_
      refine x_bipush (pc := 43) (v := -2) cx (dA ddX7_dear (i := 21) rfl) (by decide) ?_
      refine x_V1 (pc := 45) mX7_74 h0 (c_X7_refuse hQ (i := 0) (by decide) rfl) cx (dA ddX7_dear (i := 22) rfl) (kI ?_)
      refine x_i2l (pc := 48) cx (dA ddX7_dear (i := 23) rfl) ?_
      refine x_lreturn (pc := 49) cx (dA ddX7_dear (i := 24) rfl) (by first | exact Nat.le_of_ble_eq_true rfl | omega) (by first | exact Nat.le_of_ble_eq_true rfl | omega) ?_
      first | exact pCJ.r hO (by decide) (if_neg (fun q => ch q.1)) | exact pCJ.r hO (by decide) (if_neg (fun q => cP ⟨q.2.1, q.2.2.1⟩)) | exact pCJ.r hO (by decide) (if_neg (fun q => cK q.2.2.2.1)) | exact pCJ.r hO (by decide) (if_neg (fun q => cd q.2.2.2.2))
    · have cP := b2i_ne c19
      obtain ⟨d, hd, rfl, td⟩ := i32_in (x := d) (n := S.1.2.1 i 0 + 1) ⟨cP.1.1, by have := cP.1.2; omega⟩
      obtain ⟨t, ht, rfl, tt⟩ := i32_in (x := t) (n := 5 ^ S.1.2.1 i 4) cP.2
      have cP : okl (hX S (nI i)) (nI d) ∧ okt (hX S (nI i)) (nI t) := by rw [eX]; exact cP
      refine x_aload (pc := 22) cx (dA ddX7_dear (i := 11) rfl) rfl ?_
      refine x_iload (pc := 24) cx (dA ddX7_dear (i := 12) rfl) rfl ?_
      refine x_V1 (pc := 26) mX7_221 hP.1 (c_X1_hasSort hP hT.1) cx (dA ddX7_dear (i := 13) rfl) (kI ?_)
      refine x_if_eq (pc := 29) (tgt := 42) cx (dA ddX7_dear (i := 14) rfl) (by decide) (fun c29 => ?_) (fun c29 => ?_)
      · have cK : ¬ okk (hX S (nI i)) k := by rw [eX]; exact b2i_eq c29
        refine x_aload_n (pc := 42) cx (dA ddX7_dear (i := 20) rfl) rfl ?_
        refine x_bipush (pc := 43) (v := -2) cx (dA ddX7_dear (i := 21) rfl) (by decide) ?_
        refine x_V1 (pc := 45) mX7_74 h0 (c_X7_refuse hQ (i := 0) (by decide) rfl) cx (dA ddX7_dear (i := 22) rfl) (kI ?_)
        refine x_i2l (pc := 48) cx (dA ddX7_dear (i := 23) rfl) ?_
        refine x_lreturn (pc := 49) cx (dA ddX7_dear (i := 24) rfl) (by first | exact Nat.le_of_ble_eq_true rfl | omega) (by first | exact Nat.le_of_ble_eq_true rfl | omega) ?_
        first | exact pCJ.r hO (by decide) (if_neg (fun q => ch q.1)) | exact pCJ.r hO (by decide) (if_neg (fun q => cP ⟨q.2.1, q.2.2.1⟩)) | exact pCJ.r hO (by decide) (if_neg (fun q => cK q.2.2.2.1)) | exact pCJ.r hO (by decide) (if_neg (fun q => cd q.2.2.2.2))
      · have cK := b2i_ne c29
        obtain ⟨k, hk0, rfl, tk⟩ := i32_in (x := k) (n := S.1.2.1 i 4) cK
        have cK : okk (hX S (nI i)) (nI k) := by rw [eX]; exact cK
        refine x_iload_n (pc := 32) cx (dA ddX7_dear (i := 15) rfl) rfl ?_
        refine x_iload (pc := 33) cx (dA ddX7_dear (i := 16) rfl) rfl ?_
        refine x_S2 (pc := 35) mX7_180 (c_X7_standing (s := t) (k := k) (by omega) (by omega)) cx (dA ddX7_dear (i := 17) rfl) (kI ?_)
        refine x_iconst (pc := 38) (v := nI 4) cx (dA ddX7_dear (i := 18) rfl) (by decide) ?_
        have dl := dig_lt t k
        refine x_icmp_lt (pc := 39) (tgt := 50) cx (dA ddX7_dear (i := 19) rfl) (by decide) (fun c39 => ?_) (fun c39 => ?_)
        · have c39 := cltT (by omega) (by omega) c39
          have cd : dig (tn (nI t)) (tn (nI k)) < 4 := by rw [tt, tk]; have := dig_lt t k; omega
          have up := dig_up b4 hk0 ht (by rw [tt, tk] at cd; exact cd)
          refine x_aload (pc := 50) cx (dA ddX7_dear (i := 25) rfl) rfl ?_
          refine x_iload_n (pc := 52) cx (dA ddX7_dear (i := 26) rfl) rfl ?_
          refine x_iload_n (pc := 53) cx (dA ddX7_dear (i := 27) rfl) rfl ?_
          refine x_iload (pc := 54) cx (dA ddX7_dear (i := 28) rfl) rfl ?_
          refine x_S1 (pc := 56) mX7_222 (c_X7_oneOf (k := k) (by omega)) cx (dA ddX7_dear (i := 29) rfl) (kI ?_)
          refine x_iadd (pc := 59) cx (dA ddX7_dear (i := 30) rfl) ?_
          obtain ⟨K, hC⟩ := hT.2.1
          rw [nI_add]
          refine x_V2 (pc := 60) mX7_205 hP.1 (c_X1_leastCost hP hT.1 hC (z := d) (by omega) (s := t + 5 ^ k) up) cx (dA ddX7_dear (i := 31) rfl) (kJx fun V2 h2 => ?_)
          obtain ⟨hO, hT⟩ := hO.px i6 zN hT h2
          refine x_aload (pc := 63) cx (dA ddX7_dear (i := 32) rfl) rfl ?_
          refine x_iload_n (pc := 65) cx (dA ddX7_dear (i := 33) rfl) rfl ?_
          refine x_iload_n (pc := 66) cx (dA ddX7_dear (i := 34) rfl) rfl ?_
          obtain ⟨K, hC⟩ := hT.2.1
          refine x_V2 (pc := 67) mX7_205 hP.1 (c_X1_leastCost hP hT.1 hC (z := d) (by omega) ht) cx (dA ddX7_dear (i := 35) rfl) (kJx fun V2 h2 => ?_)
          obtain ⟨hO, hT⟩ := hO.px i6 zN hT h2
          refine x_lsub (pc := 70) cx (dA ddX7_dear (i := 36) rfl) ?_
          refine x_lreturn (pc := 71) cx (dA ddX7_dear (i := 37) rfl) (by first | exact Nat.le_of_ble_eq_true rfl | omega) (by first | exact Nat.le_of_ble_eq_true rfl | omega) ?_
          exact pCJ.q hO (by unfold fDear; rw [if_pos ⟨ch, cP.1, cP.2, cK, cd⟩]; simp only [hX, ti, td, tt, tk])
        · have c39 := cltF (by omega) (by omega) c39
          have cd : ¬ dig (tn (nI t)) (tn (nI k)) < 4 := by rw [tt, tk]; have := dig_lt t k; omega
          refine x_aload_n (pc := 42) cx (dA ddX7_dear (i := 20) rfl) rfl ?_
          refine x_bipush (pc := 43) (v := -2) cx (dA ddX7_dear (i := 21) rfl) (by decide) ?_
          refine x_V1 (pc := 45) mX7_74 h0 (c_X7_refuse hQ (i := 0) (by decide) rfl) cx (dA ddX7_dear (i := 22) rfl) (kI ?_)
          refine x_i2l (pc := 48) cx (dA ddX7_dear (i := 23) rfl) ?_
          refine x_lreturn (pc := 49) cx (dA ddX7_dear (i := 24) rfl) (by first | exact Nat.le_of_ble_eq_true rfl | omega) (by first | exact Nat.le_of_ble_eq_true rfl | omega) ?_
          first | exact pCJ.r hO (by decide) (if_neg (fun q => ch q.1)) | exact pCJ.r hO (by decide) (if_neg (fun q => cP ⟨q.2.1, q.2.2.1⟩)) | exact pCJ.r hO (by decide) (if_neg (fun q => cK q.2.2.2.1)) | exact pCJ.r hO (by decide) (if_neg (fun q => cd q.2.2.2.2))
  · refine x_V1 (pc := 2) mX7_183 h0 (hO.pn ch) cx (dA ddX7_dear (i := 2) rfl) (kR ?_)
    rw [show va_rf none = .null from rfl]
    refine x_astoreN (pc := 5) cx (dA ddX7_dear (i := 3) rfl) (by decide) rfl ?_
    refine x_aloadN (pc := 7) cx (dA ddX7_dear (i := 4) rfl) rfl ?_
    refine x_ifnull_n (pc := 9) (tgt := 42) cx (dA ddX7_dear (i := 5) rfl) (by decide) ?_
    refine x_aload_n (pc := 42) cx (dA ddX7_dear (i := 20) rfl) rfl ?_
    refine x_bipush (pc := 43) (v := -2) cx (dA ddX7_dear (i := 21) rfl) (by decide) ?_
    refine x_V1 (pc := 45) mX7_74 h0 (c_X7_refuse hQ (i := 0) (by decide) rfl) cx (dA ddX7_dear (i := 22) rfl) (kI ?_)
    refine x_i2l (pc := 48) cx (dA ddX7_dear (i := 23) rfl) ?_
    refine x_lreturn (pc := 49) cx (dA ddX7_dear (i := 24) rfl) (by first | exact Nat.le_of_ble_eq_true rfl | omega) (by first | exact Nat.le_of_ble_eq_true rfl | omega) ?_
    first | exact pCJ.r hO (by decide) (if_neg (fun q => ch q.1)) | exact pCJ.r hO (by decide) (if_neg (fun q => cP ⟨q.2.1, q.2.2.1⟩)) | exact pCJ.r hO (by decide) (if_neg (fun q => cK q.2.2.2.1)) | exact pCJ.r hO (by decide) (if_neg (fun q => cd q.2.2.2.2))
