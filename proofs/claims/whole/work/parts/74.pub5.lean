theorem ShM.mkr {V : zV} {y s : Nat} {q : Nat × Nat × (Nat → Int64)} (h : V.2.2.1 (y + 1) s = nI 1 ∧ V.2.2.1 (y + 2) s = nI q.1 ∧ q.1 < 5 ∧ V.2.2.1 (y + 3) s = nI q.2.1 ∧ q.2.1 ≤ 125 ∧ ∀ j, j < q.2.1 → V.2.2.2 (y + 4 + 1 + s) j = q.2.2 j) : ShM V y s (some (.inl q)) := by
  refine ⟨fun e => (by cases e), fun p hp => ?_, fun p hp => (by cases hp)⟩
  cases hp
  exact h
theorem ShM.mkq {V : zV} {y s : Nat} {q : RX} (h : V.2.2.1 (y + 1) s = nI 2 ∧ MRule V y s q.1 q.2.1 q.2.2.1 q.2.2.2 ∧ (q.1 = 5 → V.2.2.1 (y + 38) s = nI q.2.2.1 ∧ q.2.2.1 ≤ 125)) : ShM V y s (some (.inr q)) := by
  refine ⟨fun e => (by cases e), fun p hp => (by cases hp), fun p hp => ?_⟩
  cases hp
  exact h
theorem i32_cs {a b : Nat} (hb : b < 2 ^ 31) (h : nI a = nI b) (ha : a < 2 ^ 31) : a = b := nI_inj ha hb h
theorem fd255 (x : Int32) : x &&& nI 255 = nI (x.toInt8.toBitVec.toNat) := by
  apply Int32.toBitVec_inj.mp
  apply BitVec.eq_of_toNat_eq
  show (x.toBitVec &&& (255 : BitVec 32)).toNat = (BitVec.ofInt 32 ((x.toInt8.toBitVec.toNat : Nat) : Int)).toNat
  have h1 : x.toInt8.toBitVec.toNat = x.toBitVec.toNat % 256 := by
    show (BitVec.signExtend 8 x.toBitVec).toNat = _
    rw [BitVec.signExtend_eq_setWidth_of_le _ (by decide), BitVec.toNat_setWidth]
  have h2 : (x.toBitVec &&& (255 : BitVec 32)).toNat = x.toBitVec.toNat % 256 := by
    rw [BitVec.toNat_and]
    exact Nat.and_two_pow_sub_one_eq_mod x.toBitVec.toNat 8
  rw [h2, h1, BitVec.toNat_ofInt]
  omega
/-- bytes are fed -/
def mfV (V : zV) (y S : Nat) (x : Int32) (n k : Nat) : zV := sI (rAI V (y + 27) S k (fun j => nI (fdN x n j))) 409 y (nI (S + k))
theorem mfV_s {V : zV} {y S k n : Nat} {x : Int32} : sAI (sI (mfV V y S x n k) 409 y (nI (S + (k + 1)))) (y + 27) (S + k) (nI (fdN x n k)) = mfV V y S x n (k + 1) := by
  unfold mfV
  rw [sI_sI]
  show sI (sAI (rAI V (y + 27) S k (fun j => nI (fdN x n j))) (y + 27) (S + k) (nI (fdN x n k))) 409 y (nI (S + (k + 1))) = _
  rw [rAI_s _ _ _ _ _ rfl]
theorem mfV_0 {V : zV} {y S n : Nat} {x : Int32} (h : V.1 409 y = nI S) : mfV V y S x n 0 = V := by
  unfold mfV
  rw [rAI_0]
  exact sI_id h
theorem HOK.putS {N : Nat → Nat} {k w v : Nat} (h : HOK N) (hk : k < N 4) (hw : w < 5) (hv : sLo w ≤ v ∧ v ≤ sHi w) : HOK (numP N (5 + 5 * k + w) v) := by
  have v99 := sHi_le w
  have n4 := h.1.1
  refine ⟨h.1.put (by omega) (fun e => by omega), ?_, ?_, ?_, fun k2 hk2 w2 hw2 => ?_⟩
  · rw [numP_ne (by omega)]; exact h.2.1
  · rw [numP_ne (by omega)]; exact h.2.2.1
  · rw [numP_ne (by omega)]; exact h.2.2.2.1
  · rw [numP_ne (by omega)] at hk2
    by_cases e : 5 + 5 * k2 + w2 = 5 + 5 * k + w
    · rw [e, numP_eq, show w2 = w by omega]; exact hv
    · rw [numP_ne e]; exact h.2.2.2.2 k2 hk2 w2 hw2
theorem c_X8_row {l : Launch} {Z : zP} {G : zG} {V : zV} {y : Nat} {zk : Option Nat} {S : SX} (hRM : RM Z G V y zk S) {r t n : Int32} : CT l Z yX8_row cX8_row 5 (some .int) 2 0 0 [.ref y, .int r, .int t, .int n] G V (pMI Z G V y zk (fRow S r t n)) := by
  refine CT.of (by decide +kernel) (Nat.le_of_ble_eq_true rfl) (fun X hX cx => ?_)
  subst hX
  show Wm Z X 5 G V 0 0 _ 0 [(0, some (.ref y)), (1, some (.int r)), (2, some (.int t)), (3, some (.int n))] []
  have hM := hRM.1
  have h0 := hM.1
  have hc := hRM.2.2.1.1
  have c6 := hRM.2.2.1.2.1
  have hmu := hRM.2.2.2.2.2.2.1
  refine x_iload_n (pc := 0) cx (dA ddX8_row (i := 0) rfl) rfl ?_
  refine x_i2l (pc := 1) cx (dA ddX8_row (i := 1) rfl) ?_
  refine x_lconst (pc := 2) (v := lN 0) cx (dA ddX8_row (i := 2) rfl) rfl ?_
  refine x_ldc2 (pc := 3) cx klX8_113 (dA ddX8_row (i := 3) rfl) ?_
  refine x_S3 (pc := 6) mX8_94 c_X8_in cx (dA ddX8_row (i := 4) rfl) (kI ?_)
  rw [l0_toInt, tl_toInt, show (lN 7).toInt = 7 from rfl]
  refine x_if_eq (pc := 9) (tgt := 36) cx (dA ddX8_row (i := 5) rfl) (by decide) (fun c9 => ?_) (fun c9 => ?_)
  · have c9 := b2i_eq c9
    refine x_aload_n (pc := 36) cx (dA ddX8_row (i := 18) rfl) rfl ?_
    refine x_bipush (pc := 37) (v := -2) cx (dA ddX8_row (i := 19) rfl) (by decide) ?_
    refine x_V1 (pc := 39) mX8_119 h0 (c_X8_refuse hM (i := 0) (by decide) rfl) cx (dA ddX8_row (i := 20) rfl) (kI ?_)
    refine x_ireturn (pc := 42) cx (dA ddX8_row (i := 21) rfl) (by first | exact Nat.le_of_ble_eq_true rfl | omega) (by first | exact Nat.le_of_ble_eq_true rfl | omega) ?_
    first | exact pMI.r hRM (by decide) (if_neg (fun q => by have z := q.1; exact c9 ⟨z.1, by have := z.2; omega⟩))
  · have cr := b2i_ne c9
    obtain ⟨r, hr, rfl, tr⟩ := i32_in (x := r) (n := 8) ⟨cr.1, by have := cr.2; omega⟩
    have cr : oks (nI r) := ⟨cr.1, by have := cr.2; omega⟩
    refine x_iload_n (pc := 12) cx (dA ddX8_row (i := 6) rfl) rfl ?_
    refine x_i2l (pc := 13) cx (dA ddX8_row (i := 7) rfl) ?_
    refine x_lconst (pc := 14) (v := lN 0) cx (dA ddX8_row (i := 8) rfl) rfl ?_
    refine x_ldc2 (pc := 15) cx klX8_115 (dA ddX8_row (i := 9) rfl) ?_
    refine x_S3 (pc := 18) mX8_94 c_X8_in cx (dA ddX8_row (i := 10) rfl) (kI ?_)
    rw [l0_toInt, tl_toInt, show (lN 4).toInt = 4 from rfl]
    refine x_if_eq (pc := 21) (tgt := 36) cx (dA ddX8_row (i := 11) rfl) (by decide) (fun c21 => ?_) (fun c21 => ?_)
    · have c21 := b2i_eq c21
      refine x_aload_n (pc := 36) cx (dA ddX8_row (i := 18) rfl) rfl ?_
      refine x_bipush (pc := 37) (v := -2) cx (dA ddX8_row (i := 19) rfl) (by decide) ?_
      refine x_V1 (pc := 39) mX8_119 h0 (c_X8_refuse hM (i := 0) (by decide) rfl) cx (dA ddX8_row (i := 20) rfl) (kI ?_)
      refine x_ireturn (pc := 42) cx (dA ddX8_row (i := 21) rfl) (by first | exact Nat.le_of_ble_eq_true rfl | omega) (by first | exact Nat.le_of_ble_eq_true rfl | omega) ?_
      first | exact pMI.r hRM (by decide) (if_neg (fun q => c21 q.2.1))
    · have ct := b2i_ne c21
      obtain ⟨t, ht, rfl, tt⟩ := i32_in (x := t) (n := 5) ⟨ct.1, by have := ct.2; omega⟩
      refine x_iload_n (pc := 24) cx (dA ddX8_row (i := 12) rfl) rfl ?_
      refine x_i2l (pc := 25) cx (dA ddX8_row (i := 13) rfl) ?_
      refine x_lconst (pc := 26) (v := lN 0) cx (dA ddX8_row (i := 14) rfl) rfl ?_
      refine x_ldc2 (pc := 27) cx klX8_117 (dA ddX8_row (i := 15) rfl) ?_
      refine x_S3 (pc := 30) mX8_94 c_X8_in cx (dA ddX8_row (i := 16) rfl) (kI ?_)
      rw [l0_toInt, tl_toInt, show (lN 125).toInt = 125 from rfl]
      refine x_if_ne (pc := 33) (tgt := 43) cx (dA ddX8_row (i := 17) rfl) (by decide) (fun c33 => ?_) (fun c33 => ?_)
      · have cn := b2i_ne c33
        obtain ⟨n, hn, rfl, tn9⟩ := i32_in (x := n) (n := 126) ⟨cn.1, by have := cn.2; omega⟩
        refine x_aload_n (pc := 43) cx (dA ddX8_row (i := 22) rfl) rfl ?_
        refine gX8_7 (pc := 44) (rfA hM.2.1.1) cx (dA ddX8_row (i := 23) rfl) h0 ?_
        refine x_iload_n (pc := 47) cx (dA ddX8_row (i := 24) rfl) rfl ?_
        refine x_iconst (pc := 48) (v := nI 1) cx (dA ddX8_row (i := 25) rfl) (by decide) ?_
        refine x_iastore (pc := 49) cx (dA ddX8_row (i := 26) rfl) hM.2.1.2 (by omega) (by decide) ?_
        refine x_aload_n (pc := 50) cx (dA ddX8_row (i := 27) rfl) rfl ?_
        refine gX8_13 (pc := 51) (rfA hM.2.2.1.1) cx (dA ddX8_row (i := 28) rfl) h0 ?_
        refine x_iload_n (pc := 54) cx (dA ddX8_row (i := 29) rfl) rfl ?_
        refine x_iload_n (pc := 55) cx (dA ddX8_row (i := 30) rfl) rfl ?_
        refine x_iastore (pc := 56) cx (dA ddX8_row (i := 31) rfl) hM.2.2.1.2 (by omega) (by decide) ?_
        refine x_aload_n (pc := 57) cx (dA ddX8_row (i := 32) rfl) rfl ?_
        refine gX8_16 (pc := 58) (rfA hM.2.2.2.1.1) cx (dA ddX8_row (i := 33) rfl) h0 ?_
        refine x_iload_n (pc := 61) cx (dA ddX8_row (i := 34) rfl) rfl ?_
        refine x_iload_n (pc := 62) cx (dA ddX8_row (i := 35) rfl) rfl ?_
        refine x_iastore (pc := 63) cx (dA ddX8_row (i := 36) rfl) hM.2.2.2.1.2 (by omega) (by decide) ?_
        refine x_iconst (pc := 64) (v := nI 0) cx (dA ddX8_row (i := 37) rfl) (by decide) ?_
        refine x_istore (pc := 65) cx (dA ddX8_row (i := 38) rfl) (by decide) rfl ?_
        have L67 : ∀ k, k ≤ 125 → Wm Z X 5 G (rAJ (sAI (sAI (sAI V (y + 1) r (nI 1)) (y + 2) r (nI t)) (y + 3) r (nI n)) (y + 4 + 1 + r) 0 k (fun _ => lN 0)) 0 0 (rQ Z X 0 0 (pMI Z G V y zk (fRow S (nI r) (nI t) (nI n)))) 67 [(0, some (.ref y)), (1, some (.int (nI r))), (2, some (.int (nI t))), (3, some (.int (nI n))), (4, some (.int (nI k)))] [] := by
          refine lpU 125 (fun k hk ih => ?_)
          refine x_iload (pc := 67) cx (dA ddX8_row (i := 39) rfl) rfl ?_
          refine x_bipush (pc := 69) (v := nI 125) cx (dA ddX8_row (i := 40) rfl) (by decide) ?_
          refine x_icmp_ge (pc := 71) (tgt := 90) cx (dA ddX8_row (i := 41) rfl) (by decide) (fun c71 => ?_) (fun c71 => ?_)
          · have c71 := cleT (by omega) (by omega) c71
            have ek : k = 125 := by omega
            subst ek
            refine x_iconst (pc := 90) (v := nI 1) cx (dA ddX8_row (i := 51) rfl) (by decide) ?_
            refine x_ireturn (pc := 91) cx (dA ddX8_row (i := 52) rfl) (by first | exact Nat.le_of_ble_eq_true rfl | omega) (by first | exact Nat.le_of_ble_eq_true rfl | omega) ?_
            refine pMI.m (S' := putS S r (some (.inl (t, n, fun _ => lN 0)))) (by unfold fRow; rw [if_pos ⟨cr, ct, cn⟩, tr, tt, tn9]; rfl) (hRM.put hr (fun a a1 a2 a3 a4 a5 a6 a7 a8 a9 => ((((same4.refl V a).sAI a1).sAI a2).sAI a3).rAJ a8) (fun a ha j hj => by show u2 (u2 (u2 V.2.2.1 _ _ _) _ _ _) _ _ _ a j = _; rw [u2_snd _ _ hj, u2_snd _ _ hj, u2_snd _ _ hj]) (ShM.mkr ?_))
            exact ⟨(sAI_ne (by omega)).trans ((sAI_ne (by omega)).trans sAI_eq), (sAI_ne (by omega)).trans sAI_eq, ht, sAI_eq, by show n ≤ 125; omega, fun j hj => rAJ_at (by show j < 125; have : j < n := hj; omega)⟩
          · have c71 := cleF (by omega) (by omega) c71
            refine x_aload_n (pc := 74) cx (dA ddX8_row (i := 42) rfl) rfl ?_
            refine gX8_21 (pc := 75) (rfA hM.2.2.2.2.1.1) cx (dA ddX8_row (i := 43) rfl) h0 ?_
            refine x_iload_n (pc := 78) cx (dA ddX8_row (i := 44) rfl) rfl ?_
            refine x_aaload (pc := 79) cx (dA ddX8_row (i := 45) rfl) hM.2.2.2.2.1.2.1 (by decide) (by decide) hr (by decide) ?_
            rw [arA (hM.2.2.2.2.1.2.2 r hr).1]
            refine x_iload (pc := 80) cx (dA ddX8_row (i := 46) rfl) rfl ?_
            refine x_lconst (pc := 82) (v := lN 0) cx (dA ddX8_row (i := 47) rfl) rfl ?_
            refine x_lastore (pc := 83) cx (dA ddX8_row (i := 48) rfl) (hM.2.2.2.2.1.2.2 r hr).2 (by omega) (by decide) ?_
            rw [show sAJ (rAJ (sAI (sAI (sAI V (y + 1) r (nI 1)) (y + 2) r (nI t)) (y + 3) r (nI n)) (y + 4 + 1 + r) 0 k (fun _ => lN 0)) (y + 4 + 1 + r) k (lN 0) = (rAJ (sAI (sAI (sAI V (y + 1) r (nI 1)) (y + 2) r (nI t)) (y + 3) r (nI n)) (y + 4 + 1 + r) 0 (k + 1) (fun _ => lN 0)) from rAJ_s0 _ _ _ _ rfl]
            refine x_iinc (pc := 84) cx (dA ddX8_row (i := 49) rfl) rfl (iinc1 _) (by decide) rfl ?_
            refine x_goto (pc := 87) (tgt := 67) cx (dA ddX8_row (i := 50) rfl) (by decide) ?_
            exact x_enter (ih (by omega)) ⟨.inr rfl, .inr rfl, .inr rfl, .inr rfl, .inr rfl, trivial⟩
        have L := L67 0 (Nat.zero_le _)
        rw [show (rAJ (sAI (sAI (sAI V (y + 1) r (nI 1)) (y + 2) r (nI t)) (y + 3) r (nI n)) (y + 4 + 1 + r) 0 0 (fun _ => lN 0)) = (sAI (sAI (sAI V (y + 1) r (nI 1)) (y + 2) r (nI t)) (y + 3) r (nI n)) from rAJ_0 _ _ _ _] at L
        exact x_enter L ⟨.inr rfl, .inr rfl, .inr rfl, .inr rfl, .inr rfl, trivial⟩
      · have c33 := b2i_eq c33
        refine x_aload_n (pc := 36) cx (dA ddX8_row (i := 18) rfl) rfl ?_
        refine x_bipush (pc := 37) (v := -2) cx (dA ddX8_row (i := 19) rfl) (by decide) ?_
        refine x_V1 (pc := 39) mX8_119 h0 (c_X8_refuse hM (i := 0) (by decide) rfl) cx (dA ddX8_row (i := 20) rfl) (kI ?_)
        refine x_ireturn (pc := 42) cx (dA ddX8_row (i := 21) rfl) (by first | exact Nat.le_of_ble_eq_true rfl | omega) (by first | exact Nat.le_of_ble_eq_true rfl | omega) ?_
        first | exact pMI.r hRM (by decide) (if_neg (fun q => c33 q.2.2))
theorem c_X8_set {l : Launch} {Z : zP} {G : zG} {V : zV} {y : Nat} {zk : Option Nat} {S : SX} (hRM : RM Z G V y zk S) {r j : Int32} {v : Int64} : CT l Z yX8_set cX8_set 5 (some .int) 2 0 0 [.ref y, .int r, .int j, .long v] G V (pMI Z G V y zk (fSet S r j v)) := by
  refine CT.of (by decide +kernel) (Nat.le_of_ble_eq_true rfl) (fun X hX cx => ?_)
  subst hX
  show Wm Z X 5 G V 0 0 _ 0 [(0, some (.ref y)), (1, some (.int r)), (2, some (.int j)), (3, some (.long v))] []
  have hM := hRM.1
  have h0 := hM.1
  have hc := hRM.2.2.1.1
  have c6 := hRM.2.2.1.2.1
  have hmu := hRM.2.2.2.2.2.2.1
  refine x_iload_n (pc := 0) cx (dA ddX8_set (i := 0) rfl) rfl ?_
  refine x_i2l (pc := 1) cx (dA ddX8_set (i := 1) rfl) ?_
  refine x_lconst (pc := 2) (v := lN 0) cx (dA ddX8_set (i := 2) rfl) rfl ?_
  refine x_ldc2 (pc := 3) cx klX8_113 (dA ddX8_set (i := 3) rfl) ?_
  refine x_S3 (pc := 6) mX8_94 c_X8_in cx (dA ddX8_set (i := 4) rfl) (kI ?_)
  rw [l0_toInt, tl_toInt, show (lN 7).toInt = 7 from rfl]
  refine x_if_ne (pc := 9) (tgt := 19) cx (dA ddX8_set (i := 5) rfl) (by decide) (fun c9 => ?_) (fun c9 => ?_)
  · have cr := b2i_ne c9
    obtain ⟨r, hr, rfl, tr⟩ := i32_in (x := r) (n := 8) ⟨cr.1, by have := cr.2; omega⟩
    have cr : oks (nI r) := ⟨cr.1, by have := cr.2; omega⟩
    have hsm := hRM.2.2.2.1 r hr
    refine x_aload_n (pc := 19) cx (dA ddX8_set (i := 10) rfl) rfl ?_
    refine gX8_7 (pc := 20) (rfA hM.2.1.1) cx (dA ddX8_set (i := 11) rfl) h0 ?_
    refine x_iload_n (pc := 23) cx (dA ddX8_set (i := 12) rfl) rfl ?_
    refine x_iaload (pc := 24) cx (dA ddX8_set (i := 13) rfl) hM.2.1.2 (by omega) (by decide) ?_
    refine x_iconst (pc := 25) (v := nI 2) cx (dA ddX8_set (i := 14) rfl) (by decide) ?_
    refine x_icmp_ne (pc := 26) (tgt := 36) cx (dA ddX8_set (i := 15) rfl) (by decide) (fun c26 => ?_) (fun c26 => ?_)
    · refine x_aload_n (pc := 36) cx (dA ddX8_set (i := 20) rfl) rfl ?_
      refine gX8_7 (pc := 37) (rfA hM.2.1.1) cx (dA ddX8_set (i := 21) rfl) h0 ?_
      refine x_iload_n (pc := 40) cx (dA ddX8_set (i := 22) rfl) rfl ?_
      refine x_iaload (pc := 41) cx (dA ddX8_set (i := 23) rfl) hM.2.1.2 (by omega) (by decide) ?_
      refine x_if_ne (pc := 42) (tgt := 52) cx (dA ddX8_set (i := 24) rfl) (by decide) (fun c42 => ?_) (fun c42 => ?_)
      · obtain ⟨q, hq⟩ := hsm.n20 c26 c42
        obtain ⟨q0, q1, q2, q3, q4, q5⟩ := hsm.2.1 q hq
        refine x_iload_n (pc := 52) cx (dA ddX8_set (i := 29) rfl) rfl ?_
        refine x_i2l (pc := 53) cx (dA ddX8_set (i := 30) rfl) ?_
        refine x_lconst (pc := 54) (v := lN 0) cx (dA ddX8_set (i := 31) rfl) rfl ?_
        refine x_aload_n (pc := 55) cx (dA ddX8_set (i := 32) rfl) rfl ?_
        refine gX8_16 (pc := 56) (rfA hM.2.2.2.1.1) cx (dA ddX8_set (i := 33) rfl) h0 ?_
        refine x_iload_n (pc := 59) cx (dA ddX8_set (i := 34) rfl) rfl ?_
        refine x_iaload (pc := 60) cx (dA ddX8_set (i := 35) rfl) hM.2.2.2.1.2 (by omega) (by decide) ?_
        rw [q3]
        refine x_iconst (pc := 61) (v := nI 1) cx (dA ddX8_set (i := 36) rfl) (by decide) ?_
        refine x_isub (pc := 62) cx (dA ddX8_set (i := 37) rfl) ?_
        refine x_i2l (pc := 63) cx (dA ddX8_set (i := 38) rfl) ?_
        refine x_S3 (pc := 64) mX8_94 c_X8_in cx (dA ddX8_set (i := 39) rfl) (kI ?_)
        rw [l0_toInt, tl_toInt, tl_toInt, sub1_toInt (by omega)]
        refine x_if_ne (pc := 67) (tgt := 77) cx (dA ddX8_set (i := 40) rfl) (by decide) (fun c67 => ?_) (fun c67 => ?_)
        · have c67 := b2i_ne c67
          obtain ⟨j, hj, rfl, tj⟩ := i32_in (x := j) (n := q.2.1) ⟨c67.1, by have := c67.2; omega⟩
          refine x_aload_n (pc := 77) cx (dA ddX8_set (i := 45) rfl) rfl ?_
          refine gX8_21 (pc := 78) (rfA hM.2.2.2.2.1.1) cx (dA ddX8_set (i := 46) rfl) h0 ?_
          refine x_iload_n (pc := 81) cx (dA ddX8_set (i := 47) rfl) rfl ?_
          refine x_aaload (pc := 82) cx (dA ddX8_set (i := 48) rfl) hM.2.2.2.2.1.2.1 (by decide) (by decide) hr (by decide) ?_
          rw [arA (hM.2.2.2.2.1.2.2 r hr).1]
          refine x_iload_n (pc := 83) cx (dA ddX8_set (i := 49) rfl) rfl ?_
          refine x_aload_n (pc := 84) cx (dA ddX8_set (i := 50) rfl) rfl ?_
          refine gX8_13 (pc := 85) (rfA hM.2.2.1.1) cx (dA ddX8_set (i := 51) rfl) h0 ?_
          refine x_iload_n (pc := 88) cx (dA ddX8_set (i := 52) rfl) rfl ?_
          refine x_iaload (pc := 89) cx (dA ddX8_set (i := 53) rfl) hM.2.2.1.2 (by omega) (by decide) ?_
          rw [q1]
          refine x_lload_n (pc := 90) cx (dA ddX8_set (i := 54) rfl) rfl ?_
          refine x_S2 (pc := 91) mX8_122 (c_X8_fit q2) cx (dA ddX8_set (i := 55) rfl) (kJ ?_)
          refine x_lastore (pc := 94) cx (dA ddX8_set (i := 56) rfl) (hM.2.2.2.2.1.2.2 r hr).2 (by omega) (by decide) ?_
          refine x_iconst (pc := 95) (v := nI 1) cx (dA ddX8_set (i := 57) rfl) (by decide) ?_
          refine x_ireturn (pc := 96) cx (dA ddX8_set (i := 58) rfl) (by first | exact Nat.le_of_ble_eq_true rfl | omega) (by first | exact Nat.le_of_ble_eq_true rfl | omega) ?_
          refine pMI.m (S' := putS S r (some (.inl (q.1, q.2.1, fun z => if z = j then lowP q.1 v else q.2.2 z)))) (by unfold fSet; rw [if_pos cr, shX_at hr, hq]; exact (if_pos ⟨c67.1, by have := c67.2; omega⟩).trans (by rw [tj, tr]; rfl)) (hRM.put hr (fun a a1 a2 a3 a4 a5 a6 a7 a8 a9 => (same4.refl V a).sAJ a8) (fun a ha j hj => rfl) (ShM.mkr ?_))
          refine ⟨q0, q1, q2, q3, q4, fun z hz => ?_⟩
          show (sAJ V (y + 4 + 1 + r) j (lowP q.1 v)).2.2.2 (y + 4 + 1 + r) z = if z = j then lowP q.1 v else q.2.2 z
          by_cases e : z = j
          · subst e; rw [sAJ_eq, if_pos rfl]
          · rw [sAJ_nj e, if_neg e]; exact q5 z hz
        · have c67 := b2i_eq c67
          refine x_aload_n (pc := 70) cx (dA ddX8_set (i := 41) rfl) rfl ?_
          refine x_bipush (pc := 71) (v := -2) cx (dA ddX8_set (i := 42) rfl) (by decide) ?_
          refine x_V1 (pc := 73) mX8_119 h0 (c_X8_refuse hM (i := 0) (by decide) rfl) cx (dA ddX8_set (i := 43) rfl) (kI ?_)
          refine x_ireturn (pc := 76) cx (dA ddX8_set (i := 44) rfl) (by first | exact Nat.le_of_ble_eq_true rfl | omega) (by first | exact Nat.le_of_ble_eq_true rfl | omega) ?_
          exact pMI.r hRM (by decide) (by unfold fSet; rw [if_pos cr, shX_at hr, hq]; exact if_neg (fun z => c67 ⟨z.1, by have := z.2; omega⟩))
      · have hq := hsm.i0 c42
        refine x_aload_n (pc := 45) cx (dA ddX8_set (i := 25) rfl) rfl ?_
        refine x_bipush (pc := 46) (v := -4) cx (dA ddX8_set (i := 26) rfl) (by decide) ?_
        refine x_V1 (pc := 48) mX8_119 h0 (c_X8_refuse hM (i := 2) (by decide) rfl) cx (dA ddX8_set (i := 27) rfl) (kI ?_)
        refine x_ireturn (pc := 51) cx (dA ddX8_set (i := 28) rfl) (by first | exact Nat.le_of_ble_eq_true rfl | omega) (by first | exact Nat.le_of_ble_eq_true rfl | omega) ?_
        exact pMI.r hRM (by decide) (by unfold fSet; rw [if_pos cr, shX_at hr, hq])
    · obtain ⟨q, hq⟩ := hsm.i2 c26
      refine x_aload_n (pc := 29) cx (dA ddX8_set (i := 16) rfl) rfl ?_
      refine x_bipush (pc := 30) (v := -3) cx (dA ddX8_set (i := 17) rfl) (by decide) ?_
      refine x_V1 (pc := 32) mX8_119 h0 (c_X8_refuse hM (i := 1) (by decide) rfl) cx (dA ddX8_set (i := 18) rfl) (kI ?_)
      refine x_ireturn (pc := 35) cx (dA ddX8_set (i := 19) rfl) (by first | exact Nat.le_of_ble_eq_true rfl | omega) (by first | exact Nat.le_of_ble_eq_true rfl | omega) ?_
      exact pMI.r hRM (by decide) (by unfold fSet; rw [if_pos cr, shX_at hr, hq])
  · have c9 := b2i_eq c9
    refine x_aload_n (pc := 12) cx (dA ddX8_set (i := 6) rfl) rfl ?_
    refine x_bipush (pc := 13) (v := -2) cx (dA ddX8_set (i := 7) rfl) (by decide) ?_
    refine x_V1 (pc := 15) mX8_119 h0 (c_X8_refuse hM (i := 0) (by decide) rfl) cx (dA ddX8_set (i := 8) rfl) (kI ?_)
    refine x_ireturn (pc := 18) cx (dA ddX8_set (i := 9) rfl) (by first | exact Nat.le_of_ble_eq_true rfl | omega) (by first | exact Nat.le_of_ble_eq_true rfl | omega) ?_
    first | exact pMI.r hRM (by decide) (if_neg (fun q => by have z := q; exact c9 ⟨z.1, by have := z.2; omega⟩))
theorem c_X8_alter {l : Launch} {Z : zP} {G : zG} {V : zV} {y : Nat} {zk : Option Nat} {S : SX} (hRM : RM Z G V y zk S) {h w v : Int32} : CT l Z yX8_alter cX8_alter 5 (some .int) 4 0 0 [.ref y, .int h, .int w, .int v] G V (pMI Z G V y zk (fAlter S h w v)) := by
  refine CT.of (by decide +kernel) (Nat.le_of_ble_eq_true rfl) (fun X hX cx => ?_)
  subst hX
  show Wm Z X 5 G V 0 0 _ 0 [(0, some (.ref y)), (1, some (.int h)), (2, some (.int w)), (3, some (.int v))] []
  have hM := hRM.1
  have h0 := hM.1
  have hc := hRM.2.2.1.1
  have c6 := hRM.2.2.1.2.1
  have hmu := hRM.2.2.2.2.2.2.1
  refine x_aload_n (pc := 0) cx (dA ddX8_alter (i := 0) rfl) rfl ?_
  refine x_iload_n (pc := 1) cx (dA ddX8_alter (i := 1) rfl) rfl ?_
  refine x_V1 (pc := 2) mX8_106 h0 (c_X8_isHouse hM hc c6) cx (dA ddX8_alter (i := 2) rfl) (kI ?_)
  refine x_if_eq (pc := 5) (tgt := 62) cx (dA ddX8_alter (i := 3) rfl) (by decide) (fun c5 => ?_) (fun c5 => ?_)
  · have c5 : ¬ okc S h := b2i_eq c5
    refine x_aload_n (pc := 62) cx (dA ddX8_alter (i := 30) rfl) rfl ?_
    refine x_bipush (pc := 63) (v := -2) cx (dA ddX8_alter (i := 31) rfl) (by decide) ?_
    refine x_V1 (pc := 65) mX8_119 h0 (c_X8_refuse hM (i := 0) (by decide) rfl) cx (dA ddX8_alter (i := 32) rfl) (kI ?_)
    refine x_ireturn (pc := 68) cx (dA ddX8_alter (i := 33) rfl) (by first | exact Nat.le_of_ble_eq_true rfl | omega) (by first | exact Nat.le_of_ble_eq_true rfl | omega) ?_
    first | exact pMI.r hRM (by decide) (if_neg (fun q => c5 q.1))
  · have ch : okc S h := b2i_ne c5
    obtain ⟨i, hi, rfl, ti⟩ := i32_in ch
    obtain ⟨hR, hN⟩ := hRM.2.2.1.2.2.1 i hi
    have hB := hN.1
    have b4 := hB.1
    have n125 := st125 b4
    have h06 := hN.2.1
    have hh : i < 8 := by omega
    refine x_iload_n (pc := 8) cx (dA ddX8_alter (i := 4) rfl) rfl ?_
    refine x_i2l (pc := 9) cx (dA ddX8_alter (i := 5) rfl) ?_
    refine x_lconst (pc := 10) (v := lN 0) cx (dA ddX8_alter (i := 6) rfl) rfl ?_
    refine x_ldc2 (pc := 11) cx klX8_216 (dA ddX8_alter (i := 7) rfl) ?_
    refine x_S3 (pc := 14) mX8_94 c_X8_in cx (dA ddX8_alter (i := 8) rfl) (kI ?_)
    rw [l0_toInt, tl_toInt, show (lN 2).toInt = 2 from rfl]
    refine x_if_eq (pc := 17) (tgt := 62) cx (dA ddX8_alter (i := 9) rfl) (by decide) (fun c17 => ?_) (fun c17 => ?_)
    · have c17 := b2i_eq c17
      refine x_aload_n (pc := 62) cx (dA ddX8_alter (i := 30) rfl) rfl ?_
      refine x_bipush (pc := 63) (v := -2) cx (dA ddX8_alter (i := 31) rfl) (by decide) ?_
      refine x_V1 (pc := 65) mX8_119 h0 (c_X8_refuse hM (i := 0) (by decide) rfl) cx (dA ddX8_alter (i := 32) rfl) (kI ?_)
      refine x_ireturn (pc := 68) cx (dA ddX8_alter (i := 33) rfl) (by first | exact Nat.le_of_ble_eq_true rfl | omega) (by first | exact Nat.le_of_ble_eq_true rfl | omega) ?_
      first | exact pMI.r hRM (by decide) (if_neg (fun q => c17 q.2.1))
    · have c17 := b2i_ne c17
      obtain ⟨w, hw, rfl, tw⟩ := i32_in (x := w) (n := 3) ⟨c17.1, by have := c17.2; omega⟩
      refine x_iload_n (pc := 20) cx (dA ddX8_alter (i := 10) rfl) rfl ?_
      refine x_i2l (pc := 21) cx (dA ddX8_alter (i := 11) rfl) ?_
      refine x_iload_n (pc := 22) cx (dA ddX8_alter (i := 12) rfl) rfl ?_
      refine x_iconst (pc := 23) (v := nI 1) cx (dA ddX8_alter (i := 13) rfl) (by decide) ?_
      refine x_icmp_ne (pc := 24) (tgt := 31) cx (dA ddX8_alter (i := 14) rfl) (by decide) (fun c24 => ?_) (fun c24 => ?_)
      · have c24 := ceqF (by omega) (by omega) c24
        refine x_lconst (pc := 31) (v := lN 0) cx (dA ddX8_alter (i := 17) rfl) rfl ?_
        refine x_iload_n (pc := 32) cx (dA ddX8_alter (i := 18) rfl) rfl ?_
        refine x_if_ne (pc := 33) (tgt := 42) cx (dA ddX8_alter (i := 19) rfl) (by decide) (fun c33 => ?_) (fun c33 => ?_)
        · have w0 : w ≠ 0 := fun e => c33 (by rw [e]; rfl)
          refine x_iload_n (pc := 42) cx (dA ddX8_alter (i := 22) rfl) rfl ?_
          refine x_iconst (pc := 43) (v := nI 1) cx (dA ddX8_alter (i := 23) rfl) (by decide) ?_
          refine x_icmp_ne (pc := 44) (tgt := 53) cx (dA ddX8_alter (i := 24) rfl) (by decide) (fun c44 => ?_) (fun c44 => absurd c44 (fun e => c24 (nI_inj (by omega) (by decide) e)))
          refine x_ldc2 (pc := 53) cx klX8_220 (dA ddX8_alter (i := 27) rfl) ?_
          refine x_S3 (pc := 56) mX8_94 c_X8_in cx (dA ddX8_alter (i := 28) rfl) (kI ?_)
          rw [tl_toInt, show (lN 0).toInt = 0 from rfl, show (lN 3).toInt = 3 from rfl]
          refine x_if_ne (pc := 59) (tgt := 69) cx (dA ddX8_alter (i := 29) rfl) (by decide) (fun c59 => ?_) (fun c59 => ?_)
          · have cv := b2i_ne c59
            obtain ⟨v, hv, rfl, tv⟩ := i32_in (x := v) (n := 100) ⟨by omega, by omega⟩
            have ew : w = 2 := by omega
            subst ew
            have C : okc S (nI i) ∧ (0 ≤ (nI 2).toInt ∧ (nI 2).toInt ≤ 2) ∧ mLo1 (1 + tn (nI 2)) ≤ (nI v).toInt ∧ (nI v).toInt ≤ mHi1 (1 + tn (nI 2)) := ⟨ch, c17, by rw [tw]; exact cv⟩
            have nv : (nI v).toInt = v := nI_toInt (by omega)
            rw [nv] at cv
            refine x_aload_n (pc := 69) cx (dA ddX8_alter (i := 34) rfl) rfl ?_
            refine gX8_45 (pc := 70) (rfA hM.2.2.2.2.2.2.2.2.2.2.2.1.1) cx (dA ddX8_alter (i := 35) rfl) h0 ?_
            refine x_iload_n (pc := 73) cx (dA ddX8_alter (i := 36) rfl) rfl ?_
            refine x_aaload (pc := 74) cx (dA ddX8_alter (i := 37) rfl) hM.2.2.2.2.2.2.2.2.2.2.2.1.2.1 (by decide) (by decide) hh (by decide) ?_
            rw [arA (hM.2.2.2.2.2.2.2.2.2.2.2.1.2.2 i hh).1]
            refine x_iconst (pc := 75) (v := nI 1) cx (dA ddX8_alter (i := 38) rfl) (by decide) ?_
            refine x_iload_n (pc := 76) cx (dA ddX8_alter (i := 39) rfl) rfl ?_
            refine x_iadd (pc := 77) cx (dA ddX8_alter (i := 40) rfl) ?_
            rw [nI_add]
            refine x_iaload (pc := 78) cx (dA ddX8_alter (i := 41) rfl) (hM.2.2.2.2.2.2.2.2.2.2.2.1.2.2 i hh).2 (by omega) (by decide) ?_
            rw [hR _ (by omega)]
            refine x_istore (pc := 79) cx (dA ddX8_alter (i := 42) rfl) (by decide) rfl ?_
            refine x_aload_n (pc := 81) cx (dA ddX8_alter (i := 43) rfl) rfl ?_
            refine gX8_45 (pc := 82) (rfA hM.2.2.2.2.2.2.2.2.2.2.2.1.1) cx (dA ddX8_alter (i := 44) rfl) h0 ?_
            refine x_iload_n (pc := 85) cx (dA ddX8_alter (i := 45) rfl) rfl ?_
            refine x_aaload (pc := 86) cx (dA ddX8_alter (i := 46) rfl) hM.2.2.2.2.2.2.2.2.2.2.2.1.2.1 (by decide) (by decide) hh (by decide) ?_
            rw [arA (hM.2.2.2.2.2.2.2.2.2.2.2.1.2.2 i hh).1]
            refine x_iconst (pc := 87) (v := nI 1) cx (dA ddX8_alter (i := 47) rfl) (by decide) ?_
            refine x_iload_n (pc := 88) cx (dA ddX8_alter (i := 48) rfl) rfl ?_
            refine x_iadd (pc := 89) cx (dA ddX8_alter (i := 49) rfl) ?_
            refine x_iload_n (pc := 90) cx (dA ddX8_alter (i := 50) rfl) rfl ?_
            rw [nI_add]
            refine x_iastore (pc := 91) cx (dA ddX8_alter (i := 51) rfl) (hM.2.2.2.2.2.2.2.2.2.2.2.1.2.2 i hh).2 (by omega) (by decide) ?_
            refine x_iload (pc := 92) cx (dA ddX8_alter (i := 52) rfl) rfl ?_
            refine x_ireturn (pc := 94) cx (dA ddX8_alter (i := 53) rfl) (by first | exact Nat.le_of_ble_eq_true rfl | omega) (by first | exact Nat.le_of_ble_eq_true rfl | omega) ?_
            first
              | (refine pMI.m (S' := putW S (altW S.1 i (numP (S.1.2.1 i) (1 + 0) v))) (by unfold fAlter; rw [if_pos C, tw, tv, ti, hX_at hh]) (hRM.alt hi (fun a ha => (same4.refl V a).sAI ha) (MH.put hR (by decide)) (hN.put (by decide) (fun e => by omega) (fun e => by omega) (fun e => by omega) (fun e => by omega))))
              | (refine pMI.m (S' := putW S (altW S.1 i (numP (S.1.2.1 i) (1 + 1) v))) (by unfold fAlter; rw [if_pos C, tw, tv, ti, hX_at hh]) (hRM.alt hi (fun a ha => (same4.refl V a).sAI ha) (MH.put hR (by decide)) (hN.put (by decide) (fun e => by omega) (fun e => by omega) (fun e => by omega) (fun e => by omega))))
              | (refine pMI.m (S' := putW S (altW S.1 i (numP (S.1.2.1 i) (1 + 2) v))) (by unfold fAlter; rw [if_pos C, tw, tv, ti, hX_at hh]) (hRM.alt hi (fun a ha => (same4.refl V a).sAI ha) (MH.put hR (by decide)) (hN.put (by decide) (fun e => by omega) (fun e => by omega) (fun e => by omega) (fun e => by omega))))
          · have cv := b2i_eq c59
            have ew : w = 2 := by omega
            subst ew
            refine x_aload_n (pc := 62) cx (dA ddX8_alter (i := 30) rfl) rfl ?_
            refine x_bipush (pc := 63) (v := -2) cx (dA ddX8_alter (i := 31) rfl) (by decide) ?_
            refine x_V1 (pc := 65) mX8_119 h0 (c_X8_refuse hM (i := 0) (by decide) rfl) cx (dA ddX8_alter (i := 32) rfl) (kI ?_)
            refine x_ireturn (pc := 68) cx (dA ddX8_alter (i := 33) rfl) (by first | exact Nat.le_of_ble_eq_true rfl | omega) (by first | exact Nat.le_of_ble_eq_true rfl | omega) ?_
            first | exact pMI.r hRM (by decide) (if_neg (fun q => by have z := q.2.2; rw [tw] at z; exact cv z))
        · have w0 : w = 0 := nI_inj (b := 0) (by omega) (by decide) c33
          refine x_ldc2 (pc := 36) cx klX8_126 (dA ddX8_alter (i := 20) rfl) ?_
          refine x_goto (pc := 39) (tgt := 56) cx (dA ddX8_alter (i := 21) rfl) (by decide) ?_
          refine x_S3 (pc := 56) mX8_94 c_X8_in cx (dA ddX8_alter (i := 28) rfl) (kI ?_)
          rw [tl_toInt, show (lN 0).toInt = 0 from rfl, show (lN 99).toInt = 99 from rfl]
          refine x_if_ne (pc := 59) (tgt := 69) cx (dA ddX8_alter (i := 29) rfl) (by decide) (fun c59 => ?_) (fun c59 => ?_)
          · have cv := b2i_ne c59
            obtain ⟨v, hv, rfl, tv⟩ := i32_in (x := v) (n := 100) ⟨by omega, by omega⟩
            have ew : w = 0 := by omega
            subst ew
            have C : okc S (nI i) ∧ (0 ≤ (nI 0).toInt ∧ (nI 0).toInt ≤ 2) ∧ mLo1 (1 + tn (nI 0)) ≤ (nI v).toInt ∧ (nI v).toInt ≤ mHi1 (1 + tn (nI 0)) := ⟨ch, c17, by rw [tw]; exact cv⟩
            have nv : (nI v).toInt = v := nI_toInt (by omega)
            rw [nv] at cv
            refine x_aload_n (pc := 69) cx (dA ddX8_alter (i := 34) rfl) rfl ?_
            refine gX8_45 (pc := 70) (rfA hM.2.2.2.2.2.2.2.2.2.2.2.1.1) cx (dA ddX8_alter (i := 35) rfl) h0 ?_
            refine x_iload_n (pc := 73) cx (dA ddX8_alter (i := 36) rfl) rfl ?_
            refine x_aaload (pc := 74) cx (dA ddX8_alter (i := 37) rfl) hM.2.2.2.2.2.2.2.2.2.2.2.1.2.1 (by decide) (by decide) hh (by decide) ?_
            rw [arA (hM.2.2.2.2.2.2.2.2.2.2.2.1.2.2 i hh).1]
            refine x_iconst (pc := 75) (v := nI 1) cx (dA ddX8_alter (i := 38) rfl) (by decide) ?_
            refine x_iload_n (pc := 76) cx (dA ddX8_alter (i := 39) rfl) rfl ?_
            refine x_iadd (pc := 77) cx (dA ddX8_alter (i := 40) rfl) ?_
            rw [nI_add]
            refine x_iaload (pc := 78) cx (dA ddX8_alter (i := 41) rfl) (hM.2.2.2.2.2.2.2.2.2.2.2.1.2.2 i hh).2 (by omega) (by decide) ?_
            rw [hR _ (by omega)]
            refine x_istore (pc := 79) cx (dA ddX8_alter (i := 42) rfl) (by decide) rfl ?_
            refine x_aload_n (pc := 81) cx (dA ddX8_alter (i := 43) rfl) rfl ?_
            refine gX8_45 (pc := 82) (rfA hM.2.2.2.2.2.2.2.2.2.2.2.1.1) cx (dA ddX8_alter (i := 44) rfl) h0 ?_
            refine x_iload_n (pc := 85) cx (dA ddX8_alter (i := 45) rfl) rfl ?_
            refine x_aaload (pc := 86) cx (dA ddX8_alter (i := 46) rfl) hM.2.2.2.2.2.2.2.2.2.2.2.1.2.1 (by decide) (by decide) hh (by decide) ?_
            rw [arA (hM.2.2.2.2.2.2.2.2.2.2.2.1.2.2 i hh).1]
            refine x_iconst (pc := 87) (v := nI 1) cx (dA ddX8_alter (i := 47) rfl) (by decide) ?_
            refine x_iload_n (pc := 88) cx (dA ddX8_alter (i := 48) rfl) rfl ?_
            refine x_iadd (pc := 89) cx (dA ddX8_alter (i := 49) rfl) ?_
            refine x_iload_n (pc := 90) cx (dA ddX8_alter (i := 50) rfl) rfl ?_
            rw [nI_add]
            refine x_iastore (pc := 91) cx (dA ddX8_alter (i := 51) rfl) (hM.2.2.2.2.2.2.2.2.2.2.2.1.2.2 i hh).2 (by omega) (by decide) ?_
            refine x_iload (pc := 92) cx (dA ddX8_alter (i := 52) rfl) rfl ?_
            refine x_ireturn (pc := 94) cx (dA ddX8_alter (i := 53) rfl) (by first | exact Nat.le_of_ble_eq_true rfl | omega) (by first | exact Nat.le_of_ble_eq_true rfl | omega) ?_
            first
              | (refine pMI.m (S' := putW S (altW S.1 i (numP (S.1.2.1 i) (1 + 0) v))) (by unfold fAlter; rw [if_pos C, tw, tv, ti, hX_at hh]) (hRM.alt hi (fun a ha => (same4.refl V a).sAI ha) (MH.put hR (by decide)) (hN.put (by decide) (fun e => by omega) (fun e => by omega) (fun e => by omega) (fun e => by omega))))
              | (refine pMI.m (S' := putW S (altW S.1 i (numP (S.1.2.1 i) (1 + 1) v))) (by unfold fAlter; rw [if_pos C, tw, tv, ti, hX_at hh]) (hRM.alt hi (fun a ha => (same4.refl V a).sAI ha) (MH.put hR (by decide)) (hN.put (by decide) (fun e => by omega) (fun e => by omega) (fun e => by omega) (fun e => by omega))))
              | (refine pMI.m (S' := putW S (altW S.1 i (numP (S.1.2.1 i) (1 + 2) v))) (by unfold fAlter; rw [if_pos C, tw, tv, ti, hX_at hh]) (hRM.alt hi (fun a ha => (same4.refl V a).sAI ha) (MH.put hR (by decide)) (hN.put (by decide) (fun e => by omega) (fun e => by omega) (fun e => by omega) (fun e => by omega))))
          · have cv := b2i_eq c59
            have ew : w = 0 := by omega
            subst ew
            refine x_aload_n (pc := 62) cx (dA ddX8_alter (i := 30) rfl) rfl ?_
            refine x_bipush (pc := 63) (v := -2) cx (dA ddX8_alter (i := 31) rfl) (by decide) ?_
            refine x_V1 (pc := 65) mX8_119 h0 (c_X8_refuse hM (i := 0) (by decide) rfl) cx (dA ddX8_alter (i := 32) rfl) (kI ?_)
            refine x_ireturn (pc := 68) cx (dA ddX8_alter (i := 33) rfl) (by first | exact Nat.le_of_ble_eq_true rfl | omega) (by first | exact Nat.le_of_ble_eq_true rfl | omega) ?_
            first | exact pMI.r hRM (by decide) (if_neg (fun q => by have z := q.2.2; rw [tw] at z; exact cv z))
      · have c24 := ceqT (by omega) (by omega) c24
        refine x_lconst (pc := 27) (v := lN 1) cx (dA ddX8_alter (i := 15) rfl) rfl ?_
        refine x_goto (pc := 28) (tgt := 32) cx (dA ddX8_alter (i := 16) rfl) (by decide) ?_
        refine x_iload_n (pc := 32) cx (dA ddX8_alter (i := 18) rfl) rfl ?_
        refine x_if_ne (pc := 33) (tgt := 42) cx (dA ddX8_alter (i := 19) rfl) (by decide) (fun c33 => ?_) (fun c33 => absurd c33 (fun e => by have := nI_inj (b := 0) (by omega) (by decide) e; omega))
        refine x_iload_n (pc := 42) cx (dA ddX8_alter (i := 22) rfl) rfl ?_
        refine x_iconst (pc := 43) (v := nI 1) cx (dA ddX8_alter (i := 23) rfl) (by decide) ?_
        refine x_icmp_ne (pc := 44) (tgt := 53) cx (dA ddX8_alter (i := 24) rfl) (by decide) (fun c44 => absurd (by rw [c24]) c44) (fun c44 => ?_)
        refine x_ldc2 (pc := 47) cx klX8_218 (dA ddX8_alter (i := 25) rfl) ?_
        refine x_goto (pc := 50) (tgt := 56) cx (dA ddX8_alter (i := 26) rfl) (by decide) ?_
        refine x_S3 (pc := 56) mX8_94 c_X8_in cx (dA ddX8_alter (i := 28) rfl) (kI ?_)
        rw [tl_toInt, show (lN 1).toInt = 1 from rfl, show (lN 40).toInt = 40 from rfl]
        refine x_if_ne (pc := 59) (tgt := 69) cx (dA ddX8_alter (i := 29) rfl) (by decide) (fun c59 => ?_) (fun c59 => ?_)
        · have cv := b2i_ne c59
          obtain ⟨v, hv, rfl, tv⟩ := i32_in (x := v) (n := 100) ⟨by omega, by omega⟩
          have ew : w = 1 := by omega
          subst ew
          have C : okc S (nI i) ∧ (0 ≤ (nI 1).toInt ∧ (nI 1).toInt ≤ 2) ∧ mLo1 (1 + tn (nI 1)) ≤ (nI v).toInt ∧ (nI v).toInt ≤ mHi1 (1 + tn (nI 1)) := ⟨ch, c17, by rw [tw]; exact cv⟩
          have nv : (nI v).toInt = v := nI_toInt (by omega)
          rw [nv] at cv
          refine x_aload_n (pc := 69) cx (dA ddX8_alter (i := 34) rfl) rfl ?_
          refine gX8_45 (pc := 70) (rfA hM.2.2.2.2.2.2.2.2.2.2.2.1.1) cx (dA ddX8_alter (i := 35) rfl) h0 ?_
          refine x_iload_n (pc := 73) cx (dA ddX8_alter (i := 36) rfl) rfl ?_
          refine x_aaload (pc := 74) cx (dA ddX8_alter (i := 37) rfl) hM.2.2.2.2.2.2.2.2.2.2.2.1.2.1 (by decide) (by decide) hh (by decide) ?_
          rw [arA (hM.2.2.2.2.2.2.2.2.2.2.2.1.2.2 i hh).1]
          refine x_iconst (pc := 75) (v := nI 1) cx (dA ddX8_alter (i := 38) rfl) (by decide) ?_
          refine x_iload_n (pc := 76) cx (dA ddX8_alter (i := 39) rfl) rfl ?_
          refine x_iadd (pc := 77) cx (dA ddX8_alter (i := 40) rfl) ?_
          rw [nI_add]
          refine x_iaload (pc := 78) cx (dA ddX8_alter (i := 41) rfl) (hM.2.2.2.2.2.2.2.2.2.2.2.1.2.2 i hh).2 (by omega) (by decide) ?_
          rw [hR _ (by omega)]
          refine x_istore (pc := 79) cx (dA ddX8_alter (i := 42) rfl) (by decide) rfl ?_
          refine x_aload_n (pc := 81) cx (dA ddX8_alter (i := 43) rfl) rfl ?_
          refine gX8_45 (pc := 82) (rfA hM.2.2.2.2.2.2.2.2.2.2.2.1.1) cx (dA ddX8_alter (i := 44) rfl) h0 ?_
          refine x_iload_n (pc := 85) cx (dA ddX8_alter (i := 45) rfl) rfl ?_
          refine x_aaload (pc := 86) cx (dA ddX8_alter (i := 46) rfl) hM.2.2.2.2.2.2.2.2.2.2.2.1.2.1 (by decide) (by decide) hh (by decide) ?_
          rw [arA (hM.2.2.2.2.2.2.2.2.2.2.2.1.2.2 i hh).1]
          refine x_iconst (pc := 87) (v := nI 1) cx (dA ddX8_alter (i := 47) rfl) (by decide) ?_
          refine x_iload_n (pc := 88) cx (dA ddX8_alter (i := 48) rfl) rfl ?_
          refine x_iadd (pc := 89) cx (dA ddX8_alter (i := 49) rfl) ?_
          refine x_iload_n (pc := 90) cx (dA ddX8_alter (i := 50) rfl) rfl ?_
          rw [nI_add]
          refine x_iastore (pc := 91) cx (dA ddX8_alter (i := 51) rfl) (hM.2.2.2.2.2.2.2.2.2.2.2.1.2.2 i hh).2 (by omega) (by decide) ?_
          refine x_iload (pc := 92) cx (dA ddX8_alter (i := 52) rfl) rfl ?_
          refine x_ireturn (pc := 94) cx (dA ddX8_alter (i := 53) rfl) (by first | exact Nat.le_of_ble_eq_true rfl | omega) (by first | exact Nat.le_of_ble_eq_true rfl | omega) ?_
          first
            | (refine pMI.m (S' := putW S (altW S.1 i (numP (S.1.2.1 i) (1 + 0) v))) (by unfold fAlter; rw [if_pos C, tw, tv, ti, hX_at hh]) (hRM.alt hi (fun a ha => (same4.refl V a).sAI ha) (MH.put hR (by decide)) (hN.put (by decide) (fun e => by omega) (fun e => by omega) (fun e => by omega) (fun e => by omega))))
            | (refine pMI.m (S' := putW S (altW S.1 i (numP (S.1.2.1 i) (1 + 1) v))) (by unfold fAlter; rw [if_pos C, tw, tv, ti, hX_at hh]) (hRM.alt hi (fun a ha => (same4.refl V a).sAI ha) (MH.put hR (by decide)) (hN.put (by decide) (fun e => by omega) (fun e => by omega) (fun e => by omega) (fun e => by omega))))
            | (refine pMI.m (S' := putW S (altW S.1 i (numP (S.1.2.1 i) (1 + 2) v))) (by unfold fAlter; rw [if_pos C, tw, tv, ti, hX_at hh]) (hRM.alt hi (fun a ha => (same4.refl V a).sAI ha) (MH.put hR (by decide)) (hN.put (by decide) (fun e => by omega) (fun e => by omega) (fun e => by omega) (fun e => by omega))))
        · have cv := b2i_eq c59
          have ew : w = 1 := by omega
          subst ew
          refine x_aload_n (pc := 62) cx (dA ddX8_alter (i := 30) rfl) rfl ?_
          refine x_bipush (pc := 63) (v := -2) cx (dA ddX8_alter (i := 31) rfl) (by decide) ?_
          refine x_V1 (pc := 65) mX8_119 h0 (c_X8_refuse hM (i := 0) (by decide) rfl) cx (dA ddX8_alter (i := 32) rfl) (kI ?_)
          refine x_ireturn (pc := 68) cx (dA ddX8_alter (i := 33) rfl) (by first | exact Nat.le_of_ble_eq_true rfl | omega) (by first | exact Nat.le_of_ble_eq_true rfl | omega) ?_
          first | exact pMI.r hRM (by decide) (if_neg (fun q => by have z := q.2.2; rw [tw] at z; exact cv z))
theorem c_X8_change {l : Launch} {Z : zP} {G : zG} {V : zV} {y : Nat} {zk : Option Nat} {S : SX} (hRM : RM Z G V y zk S) {h k w v : Int32} : CT l Z yX8_change cX8_change 7 (some .int) 4 0 0 [.ref y, .int h, .int k, .int w, .int v] G V (pMI Z G V y zk (fChange S h k w v)) := by
  refine CT.of (by decide +kernel) (Nat.le_of_ble_eq_true rfl) (fun X hX cx => ?_)
  subst hX
  show Wm Z X 7 G V 0 0 _ 0 [(0, some (.ref y)), (1, some (.int h)), (2, some (.int k)), (3, some (.int w)), (4, some (.int v))] []
  have hM := hRM.1
  have h0 := hM.1
  have hc := hRM.2.2.1.1
  have c6 := hRM.2.2.1.2.1
  have hmu := hRM.2.2.2.2.2.2.1
  refine x_aload_n (pc := 0) cx (dA ddX8_change (i := 0) rfl) rfl ?_
  refine x_iload_n (pc := 1) cx (dA ddX8_change (i := 1) rfl) rfl ?_
  refine x_V1 (pc := 2) mX8_106 h0 (c_X8_isHouse hM hc c6) cx (dA ddX8_change (i := 2) rfl) (kI ?_)
  refine x_if_eq (pc := 5) (tgt := 71) cx (dA ddX8_change (i := 3) rfl) (by decide) (fun c5 => ?_) (fun c5 => ?_)
  · have c5 : ¬ okc S h := b2i_eq c5
    refine x_aload_n (pc := 71) cx (dA ddX8_change (i := 36) rfl) rfl ?_
    refine x_bipush (pc := 72) (v := -2) cx (dA ddX8_change (i := 37) rfl) (by decide) ?_
    refine x_V1 (pc := 74) mX8_119 h0 (c_X8_refuse hM (i := 0) (by decide) rfl) cx (dA ddX8_change (i := 38) rfl) (kI ?_)
    refine x_ireturn (pc := 77) cx (dA ddX8_change (i := 39) rfl) (by first | exact Nat.le_of_ble_eq_true rfl | omega) (by first | exact Nat.le_of_ble_eq_true rfl | omega) ?_
    first | exact pMI.r hRM (by decide) (if_neg (fun q => c5 q.1))
  · have ch : okc S h := b2i_ne c5
    obtain ⟨i, hi, rfl, ti⟩ := i32_in ch
    obtain ⟨hR, hN⟩ := hRM.2.2.1.2.2.1 i hi
    have hB := hN.1
    have b4 := hB.1
    have n125 := st125 b4
    have h06 := hN.2.1
    have hh : i < 8 := by omega
    refine x_iload_n (pc := 8) cx (dA ddX8_change (i := 4) rfl) rfl ?_
    refine x_i2l (pc := 9) cx (dA ddX8_change (i := 5) rfl) ?_
    refine x_lconst (pc := 10) (v := lN 0) cx (dA ddX8_change (i := 6) rfl) rfl ?_
    refine x_aload_n (pc := 11) cx (dA ddX8_change (i := 7) rfl) rfl ?_
    refine x_iload_n (pc := 12) cx (dA ddX8_change (i := 8) rfl) rfl ?_
    refine x_V1 (pc := 13) mX8_98 h0 (c_X8_sorts hM hh hR hB) cx (dA ddX8_change (i := 9) rfl) (kI ?_)
    refine x_iconst (pc := 16) (v := nI 1) cx (dA ddX8_change (i := 10) rfl) (by decide) ?_
    refine x_isub (pc := 17) cx (dA ddX8_change (i := 11) rfl) ?_
    refine x_i2l (pc := 18) cx (dA ddX8_change (i := 12) rfl) ?_
    refine x_S3 (pc := 19) mX8_94 c_X8_in cx (dA ddX8_change (i := 13) rfl) (kI ?_)
    rw [l0_toInt, tl_toInt, tl_toInt, sub1_toInt (by omega)]
    refine x_if_eq (pc := 22) (tgt := 71) cx (dA ddX8_change (i := 14) rfl) (by decide) (fun c22 => ?_) (fun c22 => ?_)
    · have c22 := b2i_eq c22
      refine x_aload_n (pc := 71) cx (dA ddX8_change (i := 36) rfl) rfl ?_
      refine x_bipush (pc := 72) (v := -2) cx (dA ddX8_change (i := 37) rfl) (by decide) ?_
      refine x_V1 (pc := 74) mX8_119 h0 (c_X8_refuse hM (i := 0) (by decide) rfl) cx (dA ddX8_change (i := 38) rfl) (kI ?_)
      refine x_ireturn (pc := 77) cx (dA ddX8_change (i := 39) rfl) (by first | exact Nat.le_of_ble_eq_true rfl | omega) (by first | exact Nat.le_of_ble_eq_true rfl | omega) ?_
      first | exact pMI.r hRM (by decide) (if_neg (fun q => by have z := q.2.1; rw [hX_at hh] at z; exact c22 ⟨z.1, by have := z.2; omega⟩))
    · have c22 := b2i_ne c22
      obtain ⟨k, hk, rfl, tk⟩ := i32_in (x := k) (n := S.1.2.1 i 4) ⟨c22.1, by have := c22.2; omega⟩
      have eX : hX S (nI i) = S.1.2.1 i := hX_at hh
      have ck : okk (hX S (nI i)) (nI k) := by rw [eX]; exact ⟨c22.1, by have := c22.2; omega⟩
      refine x_iload_n (pc := 25) cx (dA ddX8_change (i := 15) rfl) rfl ?_
      refine x_i2l (pc := 26) cx (dA ddX8_change (i := 16) rfl) ?_
      refine x_lconst (pc := 27) (v := lN 0) cx (dA ddX8_change (i := 17) rfl) rfl ?_
      refine x_ldc2 (pc := 28) cx klX8_220 (dA ddX8_change (i := 18) rfl) ?_
      refine x_S3 (pc := 31) mX8_94 c_X8_in cx (dA ddX8_change (i := 19) rfl) (kI ?_)
      rw [l0_toInt, tl_toInt, show (lN 3).toInt = 3 from rfl]
      refine x_if_eq (pc := 34) (tgt := 71) cx (dA ddX8_change (i := 20) rfl) (by decide) (fun c34 => ?_) (fun c34 => ?_)
      · have c34 := b2i_eq c34
        refine x_aload_n (pc := 71) cx (dA ddX8_change (i := 36) rfl) rfl ?_
        refine x_bipush (pc := 72) (v := -2) cx (dA ddX8_change (i := 37) rfl) (by decide) ?_
        refine x_V1 (pc := 74) mX8_119 h0 (c_X8_refuse hM (i := 0) (by decide) rfl) cx (dA ddX8_change (i := 38) rfl) (kI ?_)
        refine x_ireturn (pc := 77) cx (dA ddX8_change (i := 39) rfl) (by first | exact Nat.le_of_ble_eq_true rfl | omega) (by first | exact Nat.le_of_ble_eq_true rfl | omega) ?_
        first | exact pMI.r hRM (by decide) (if_neg (fun q => c34 q.2.2.1))
      · have c34 := b2i_ne c34
        obtain ⟨w, hw, rfl, tw⟩ := i32_in (x := w) (n := 4) ⟨c34.1, by have := c34.2; omega⟩
        refine x_iload (pc := 37) cx (dA ddX8_change (i := 21) rfl) rfl ?_
        refine x_i2l (pc := 39) cx (dA ddX8_change (i := 22) rfl) ?_
        refine x_lconst (pc := 40) (v := lN 0) cx (dA ddX8_change (i := 23) rfl) rfl ?_
        refine x_iload_n (pc := 41) cx (dA ddX8_change (i := 24) rfl) rfl ?_
        refine x_if_ne (pc := 42) (tgt := 51) cx (dA ddX8_change (i := 25) rfl) (by decide) (fun c42 => ?_) (fun c42 => ?_)
        · have w0 : w ≠ 0 := fun e => c42 (by rw [e]; rfl)
          refine x_iload_n (pc := 51) cx (dA ddX8_change (i := 28) rfl) rfl ?_
          refine x_iconst (pc := 52) (v := nI 1) cx (dA ddX8_change (i := 29) rfl) (by decide) ?_
          refine x_icmp_ne (pc := 53) (tgt := 62) cx (dA ddX8_change (i := 30) rfl) (by decide) (fun c53 => ?_) (fun c53 => ?_)
          · have c53 := ceqF (by omega) (by omega) c53
            refine x_ldc2 (pc := 62) cx klX8_126 (dA ddX8_change (i := 33) rfl) ?_
            refine x_S3 (pc := 65) mX8_94 c_X8_in cx (dA ddX8_change (i := 34) rfl) (kI ?_)
            rw [tl_toInt, show (lN 0).toInt = 0 from rfl, show (lN 99).toInt = 99 from rfl]
            refine x_if_ne (pc := 68) (tgt := 78) cx (dA ddX8_change (i := 35) rfl) (by decide) (fun c68 => ?_) (fun c68 => ?_)
            · have cv := b2i_ne c68
              obtain ⟨v, hv, rfl, tv⟩ := i32_in (x := v) (n := 100) ⟨by omega, by omega⟩
              have nv : (nI v).toInt = v := nI_toInt (by omega)
              have C : okc S (nI i) ∧ okk (hX S (nI i)) (nI k) ∧ (0 ≤ (nI w).toInt ∧ (nI w).toInt ≤ 3) ∧ mLo2 (1 + tn (nI w)) ≤ (nI v).toInt ∧ (nI v).toInt ≤ mHi2 (1 + tn (nI w)) := ⟨ch, ck, c34, by rw [tw, (show mLo2 (1 + w) = 0 from by rcases (show w = 2 ∨ w = 3 by omega) with h | h <;> rw [h] <;> rfl), (show mHi2 (1 + w) = 99 from by rcases (show w = 2 ∨ w = 3 by omega) with h | h <;> rw [h] <;> rfl)]; exact cv⟩
              rw [nv] at cv
              refine x_bipush (pc := 78) (v := nI 6) cx (dA ddX8_change (i := 40) rfl) (by decide) ?_
              refine x_iconst (pc := 80) (v := nI 5) cx (dA ddX8_change (i := 41) rfl) (by decide) ?_
              refine x_iload_n (pc := 81) cx (dA ddX8_change (i := 42) rfl) rfl ?_
              refine x_imul (pc := 82) cx (dA ddX8_change (i := 43) rfl) ?_
              rw [nI_cmul]
              refine x_iadd (pc := 83) cx (dA ddX8_change (i := 44) rfl) ?_
              rw [nI_add]
              refine x_iload_n (pc := 84) cx (dA ddX8_change (i := 45) rfl) rfl ?_
              refine x_iadd (pc := 85) cx (dA ddX8_change (i := 46) rfl) ?_
              rw [nI_add, show 6 + 5 * k + w = 5 + 5 * k + (1 + w) by omega]
              refine x_istore (pc := 86) cx (dA ddX8_change (i := 47) rfl) (by decide) rfl ?_
              refine x_aload_n (pc := 88) cx (dA ddX8_change (i := 48) rfl) rfl ?_
              refine gX8_45 (pc := 89) (rfA hM.2.2.2.2.2.2.2.2.2.2.2.1.1) cx (dA ddX8_change (i := 49) rfl) h0 ?_
              refine x_iload_n (pc := 92) cx (dA ddX8_change (i := 50) rfl) rfl ?_
              refine x_aaload (pc := 93) cx (dA ddX8_change (i := 51) rfl) hM.2.2.2.2.2.2.2.2.2.2.2.1.2.1 (by decide) (by decide) hh (by decide) ?_
              rw [arA (hM.2.2.2.2.2.2.2.2.2.2.2.1.2.2 i hh).1]
              refine x_iload (pc := 94) cx (dA ddX8_change (i := 52) rfl) rfl ?_
              refine x_iaload (pc := 96) cx (dA ddX8_change (i := 53) rfl) (hM.2.2.2.2.2.2.2.2.2.2.2.1.2.2 i hh).2 (by omega) (by decide) ?_
              rw [hR _ (by omega)]
              refine x_istore (pc := 97) cx (dA ddX8_change (i := 54) rfl) (by decide) rfl ?_
              refine x_aload_n (pc := 99) cx (dA ddX8_change (i := 55) rfl) rfl ?_
              refine gX8_45 (pc := 100) (rfA hM.2.2.2.2.2.2.2.2.2.2.2.1.1) cx (dA ddX8_change (i := 56) rfl) h0 ?_
              refine x_iload_n (pc := 103) cx (dA ddX8_change (i := 57) rfl) rfl ?_
              refine x_aaload (pc := 104) cx (dA ddX8_change (i := 58) rfl) hM.2.2.2.2.2.2.2.2.2.2.2.1.2.1 (by decide) (by decide) hh (by decide) ?_
              rw [arA (hM.2.2.2.2.2.2.2.2.2.2.2.1.2.2 i hh).1]
              refine x_iload (pc := 105) cx (dA ddX8_change (i := 59) rfl) rfl ?_
              refine x_iload (pc := 107) cx (dA ddX8_change (i := 60) rfl) rfl ?_
              refine x_iastore (pc := 109) cx (dA ddX8_change (i := 61) rfl) (hM.2.2.2.2.2.2.2.2.2.2.2.1.2.2 i hh).2 (by omega) (by decide) ?_
              refine x_iload (pc := 110) cx (dA ddX8_change (i := 62) rfl) rfl ?_
              refine x_ireturn (pc := 112) cx (dA ddX8_change (i := 63) rfl) (by first | exact Nat.le_of_ble_eq_true rfl | omega) (by first | exact Nat.le_of_ble_eq_true rfl | omega) ?_
              refine pMI.m (S' := putW S (altW S.1 i (numP (S.1.2.1 i) (5 + 5 * k + (1 + w)) v))) (by unfold fChange; rw [if_pos C, tw, tv, ti, tk, hX_at hh]) (hRM.alt hi (fun a ha => (same4.refl V a).sAI ha) (MH.put hR (by omega)) (HOK.putS hN hk (show 1 + w < 5 by omega) ?_))
              obtain ⟨z1, z2⟩ := C.2.2.2
              rw [tw, ← sLo_eq, nv] at z1
              rw [tw, ← sHi_eq, nv] at z2
              exact ⟨by omega, by omega⟩
            · have cv := b2i_eq c68
              refine x_aload_n (pc := 71) cx (dA ddX8_change (i := 36) rfl) rfl ?_
              refine x_bipush (pc := 72) (v := -2) cx (dA ddX8_change (i := 37) rfl) (by decide) ?_
              refine x_V1 (pc := 74) mX8_119 h0 (c_X8_refuse hM (i := 0) (by decide) rfl) cx (dA ddX8_change (i := 38) rfl) (kI ?_)
              refine x_ireturn (pc := 77) cx (dA ddX8_change (i := 39) rfl) (by first | exact Nat.le_of_ble_eq_true rfl | omega) (by first | exact Nat.le_of_ble_eq_true rfl | omega) ?_
              first | exact pMI.r hRM (by decide) (if_neg (fun q => by have z := q.2.2.2; rw [tw, (show mLo2 (1 + w) = 0 from by rw [w0]; rfl), (show mHi2 (1 + w) = 4 from by rw [w0]; rfl)] at z; exact cv z)) | exact pMI.r hRM (by decide) (if_neg (fun q => by have z := q.2.2.2; rw [tw, (show mLo2 (1 + w) = 0 from by rw [c53]; rfl), (show mHi2 (1 + w) = 9 from by rw [c53]; rfl)] at z; exact cv z)) | exact pMI.r hRM (by decide) (if_neg (fun q => by have z := q.2.2.2; rw [tw, (show mLo2 (1 + w) = 0 from by rcases (show w = 2 ∨ w = 3 by omega) with h | h <;> rw [h] <;> rfl), (show mHi2 (1 + w) = 99 from by rcases (show w = 2 ∨ w = 3 by omega) with h | h <;> rw [h] <;> rfl)] at z; exact cv z))
          · have c53 := ceqT (by omega) (by omega) c53
            refine x_ldc2 (pc := 56) cx klX8_222 (dA ddX8_change (i := 31) rfl) ?_
            refine x_goto (pc := 59) (tgt := 65) cx (dA ddX8_change (i := 32) rfl) (by decide) ?_
            refine x_S3 (pc := 65) mX8_94 c_X8_in cx (dA ddX8_change (i := 34) rfl) (kI ?_)
            rw [tl_toInt, show (lN 0).toInt = 0 from rfl, show (lN 9).toInt = 9 from rfl]
            refine x_if_ne (pc := 68) (tgt := 78) cx (dA ddX8_change (i := 35) rfl) (by decide) (fun c68 => ?_) (fun c68 => ?_)
            · have cv := b2i_ne c68
              obtain ⟨v, hv, rfl, tv⟩ := i32_in (x := v) (n := 100) ⟨by omega, by omega⟩
              have nv : (nI v).toInt = v := nI_toInt (by omega)
              have C : okc S (nI i) ∧ okk (hX S (nI i)) (nI k) ∧ (0 ≤ (nI w).toInt ∧ (nI w).toInt ≤ 3) ∧ mLo2 (1 + tn (nI w)) ≤ (nI v).toInt ∧ (nI v).toInt ≤ mHi2 (1 + tn (nI w)) := ⟨ch, ck, c34, by rw [tw, (show mLo2 (1 + w) = 0 from by rw [c53]; rfl), (show mHi2 (1 + w) = 9 from by rw [c53]; rfl)]; exact cv⟩
              rw [nv] at cv
              refine x_bipush (pc := 78) (v := nI 6) cx (dA ddX8_change (i := 40) rfl) (by decide) ?_
              refine x_iconst (pc := 80) (v := nI 5) cx (dA ddX8_change (i := 41) rfl) (by decide) ?_
              refine x_iload_n (pc := 81) cx (dA ddX8_change (i := 42) rfl) rfl ?_
              refine x_imul (pc := 82) cx (dA ddX8_change (i := 43) rfl) ?_
              rw [nI_cmul]
              refine x_iadd (pc := 83) cx (dA ddX8_change (i := 44) rfl) ?_
              rw [nI_add]
              refine x_iload_n (pc := 84) cx (dA ddX8_change (i := 45) rfl) rfl ?_
              refine x_iadd (pc := 85) cx (dA ddX8_change (i := 46) rfl) ?_
              rw [nI_add, show 6 + 5 * k + w = 5 + 5 * k + (1 + w) by omega]
              refine x_istore (pc := 86) cx (dA ddX8_change (i := 47) rfl) (by decide) rfl ?_
              refine x_aload_n (pc := 88) cx (dA ddX8_change (i := 48) rfl) rfl ?_
              refine gX8_45 (pc := 89) (rfA hM.2.2.2.2.2.2.2.2.2.2.2.1.1) cx (dA ddX8_change (i := 49) rfl) h0 ?_
              refine x_iload_n (pc := 92) cx (dA ddX8_change (i := 50) rfl) rfl ?_
              refine x_aaload (pc := 93) cx (dA ddX8_change (i := 51) rfl) hM.2.2.2.2.2.2.2.2.2.2.2.1.2.1 (by decide) (by decide) hh (by decide) ?_
              rw [arA (hM.2.2.2.2.2.2.2.2.2.2.2.1.2.2 i hh).1]
              refine x_iload (pc := 94) cx (dA ddX8_change (i := 52) rfl) rfl ?_
              refine x_iaload (pc := 96) cx (dA ddX8_change (i := 53) rfl) (hM.2.2.2.2.2.2.2.2.2.2.2.1.2.2 i hh).2 (by omega) (by decide) ?_
              rw [hR _ (by omega)]
              refine x_istore (pc := 97) cx (dA ddX8_change (i := 54) rfl) (by decide) rfl ?_
              refine x_aload_n (pc := 99) cx (dA ddX8_change (i := 55) rfl) rfl ?_
              refine gX8_45 (pc := 100) (rfA hM.2.2.2.2.2.2.2.2.2.2.2.1.1) cx (dA ddX8_change (i := 56) rfl) h0 ?_
              refine x_iload_n (pc := 103) cx (dA ddX8_change (i := 57) rfl) rfl ?_
              refine x_aaload (pc := 104) cx (dA ddX8_change (i := 58) rfl) hM.2.2.2.2.2.2.2.2.2.2.2.1.2.1 (by decide) (by decide) hh (by decide) ?_
              rw [arA (hM.2.2.2.2.2.2.2.2.2.2.2.1.2.2 i hh).1]
              refine x_iload (pc := 105) cx (dA ddX8_change (i := 59) rfl) rfl ?_
              refine x_iload (pc := 107) cx (dA ddX8_change (i := 60) rfl) rfl ?_
              refine x_iastore (pc := 109) cx (dA ddX8_change (i := 61) rfl) (hM.2.2.2.2.2.2.2.2.2.2.2.1.2.2 i hh).2 (by omega) (by decide) ?_
              refine x_iload (pc := 110) cx (dA ddX8_change (i := 62) rfl) rfl ?_
              refine x_ireturn (pc := 112) cx (dA ddX8_change (i := 63) rfl) (by first | exact Nat.le_of_ble_eq_true rfl | omega) (by first | exact Nat.le_of_ble_eq_true rfl | omega) ?_
              refine pMI.m (S' := putW S (altW S.1 i (numP (S.1.2.1 i) (5 + 5 * k + (1 + w)) v))) (by unfold fChange; rw [if_pos C, tw, tv, ti, tk, hX_at hh]) (hRM.alt hi (fun a ha => (same4.refl V a).sAI ha) (MH.put hR (by omega)) (HOK.putS hN hk (show 1 + w < 5 by omega) ?_))
              obtain ⟨z1, z2⟩ := C.2.2.2
              rw [tw, ← sLo_eq, nv] at z1
              rw [tw, ← sHi_eq, nv] at z2
              exact ⟨by omega, by omega⟩
            · have cv := b2i_eq c68
              refine x_aload_n (pc := 71) cx (dA ddX8_change (i := 36) rfl) rfl ?_
              refine x_bipush (pc := 72) (v := -2) cx (dA ddX8_change (i := 37) rfl) (by decide) ?_
              refine x_V1 (pc := 74) mX8_119 h0 (c_X8_refuse hM (i := 0) (by decide) rfl) cx (dA ddX8_change (i := 38) rfl) (kI ?_)
              refine x_ireturn (pc := 77) cx (dA ddX8_change (i := 39) rfl) (by first | exact Nat.le_of_ble_eq_true rfl | omega) (by first | exact Nat.le_of_ble_eq_true rfl | omega) ?_
              first | exact pMI.r hRM (by decide) (if_neg (fun q => by have z := q.2.2.2; rw [tw, (show mLo2 (1 + w) = 0 from by rw [w0]; rfl), (show mHi2 (1 + w) = 4 from by rw [w0]; rfl)] at z; exact cv z)) | exact pMI.r hRM (by decide) (if_neg (fun q => by have z := q.2.2.2; rw [tw, (show mLo2 (1 + w) = 0 from by rw [c53]; rfl), (show mHi2 (1 + w) = 9 from by rw [c53]; rfl)] at z; exact cv z)) | exact pMI.r hRM (by decide) (if_neg (fun q => by have z := q.2.2.2; rw [tw, (show mLo2 (1 + w) = 0 from by rcases (show w = 2 ∨ w = 3 by omega) with h | h <;> rw [h] <;> rfl), (show mHi2 (1 + w) = 99 from by rcases (show w = 2 ∨ w = 3 by omega) with h | h <;> rw [h] <;> rfl)] at z; exact cv z))
        · have w0 : w = 0 := nI_inj (b := 0) (by omega) (by decide) c42
          refine x_ldc2 (pc := 45) cx klX8_115 (dA ddX8_change (i := 26) rfl) ?_
          refine x_goto (pc := 48) (tgt := 65) cx (dA ddX8_change (i := 27) rfl) (by decide) ?_
          refine x_S3 (pc := 65) mX8_94 c_X8_in cx (dA ddX8_change (i := 34) rfl) (kI ?_)
          rw [tl_toInt, show (lN 0).toInt = 0 from rfl, show (lN 4).toInt = 4 from rfl]
          refine x_if_ne (pc := 68) (tgt := 78) cx (dA ddX8_change (i := 35) rfl) (by decide) (fun c68 => ?_) (fun c68 => ?_)
          · have cv := b2i_ne c68
            obtain ⟨v, hv, rfl, tv⟩ := i32_in (x := v) (n := 100) ⟨by omega, by omega⟩
            have nv : (nI v).toInt = v := nI_toInt (by omega)
            have C : okc S (nI i) ∧ okk (hX S (nI i)) (nI k) ∧ (0 ≤ (nI w).toInt ∧ (nI w).toInt ≤ 3) ∧ mLo2 (1 + tn (nI w)) ≤ (nI v).toInt ∧ (nI v).toInt ≤ mHi2 (1 + tn (nI w)) := ⟨ch, ck, c34, by rw [tw, (show mLo2 (1 + w) = 0 from by rw [w0]; rfl), (show mHi2 (1 + w) = 4 from by rw [w0]; rfl)]; exact cv⟩
            rw [nv] at cv
            refine x_bipush (pc := 78) (v := nI 6) cx (dA ddX8_change (i := 40) rfl) (by decide) ?_
            refine x_iconst (pc := 80) (v := nI 5) cx (dA ddX8_change (i := 41) rfl) (by decide) ?_
            refine x_iload_n (pc := 81) cx (dA ddX8_change (i := 42) rfl) rfl ?_
            refine x_imul (pc := 82) cx (dA ddX8_change (i := 43) rfl) ?_
            rw [nI_cmul]
            refine x_iadd (pc := 83) cx (dA ddX8_change (i := 44) rfl) ?_
            rw [nI_add]
            refine x_iload_n (pc := 84) cx (dA ddX8_change (i := 45) rfl) rfl ?_
            refine x_iadd (pc := 85) cx (dA ddX8_change (i := 46) rfl) ?_
            rw [nI_add, show 6 + 5 * k + w = 5 + 5 * k + (1 + w) by omega]
            refine x_istore (pc := 86) cx (dA ddX8_change (i := 47) rfl) (by decide) rfl ?_
            refine x_aload_n (pc := 88) cx (dA ddX8_change (i := 48) rfl) rfl ?_
            refine gX8_45 (pc := 89) (rfA hM.2.2.2.2.2.2.2.2.2.2.2.1.1) cx (dA ddX8_change (i := 49) rfl) h0 ?_
            refine x_iload_n (pc := 92) cx (dA ddX8_change (i := 50) rfl) rfl ?_
            refine x_aaload (pc := 93) cx (dA ddX8_change (i := 51) rfl) hM.2.2.2.2.2.2.2.2.2.2.2.1.2.1 (by decide) (by decide) hh (by decide) ?_
            rw [arA (hM.2.2.2.2.2.2.2.2.2.2.2.1.2.2 i hh).1]
            refine x_iload (pc := 94) cx (dA ddX8_change (i := 52) rfl) rfl ?_
            refine x_iaload (pc := 96) cx (dA ddX8_change (i := 53) rfl) (hM.2.2.2.2.2.2.2.2.2.2.2.1.2.2 i hh).2 (by omega) (by decide) ?_
            rw [hR _ (by omega)]
            refine x_istore (pc := 97) cx (dA ddX8_change (i := 54) rfl) (by decide) rfl ?_
            refine x_aload_n (pc := 99) cx (dA ddX8_change (i := 55) rfl) rfl ?_
            refine gX8_45 (pc := 100) (rfA hM.2.2.2.2.2.2.2.2.2.2.2.1.1) cx (dA ddX8_change (i := 56) rfl) h0 ?_
            refine x_iload_n (pc := 103) cx (dA ddX8_change (i := 57) rfl) rfl ?_
            refine x_aaload (pc := 104) cx (dA ddX8_change (i := 58) rfl) hM.2.2.2.2.2.2.2.2.2.2.2.1.2.1 (by decide) (by decide) hh (by decide) ?_
            rw [arA (hM.2.2.2.2.2.2.2.2.2.2.2.1.2.2 i hh).1]
            refine x_iload (pc := 105) cx (dA ddX8_change (i := 59) rfl) rfl ?_
            refine x_iload (pc := 107) cx (dA ddX8_change (i := 60) rfl) rfl ?_
            refine x_iastore (pc := 109) cx (dA ddX8_change (i := 61) rfl) (hM.2.2.2.2.2.2.2.2.2.2.2.1.2.2 i hh).2 (by omega) (by decide) ?_
            refine x_iload (pc := 110) cx (dA ddX8_change (i := 62) rfl) rfl ?_
            refine x_ireturn (pc := 112) cx (dA ddX8_change (i := 63) rfl) (by first | exact Nat.le_of_ble_eq_true rfl | omega) (by first | exact Nat.le_of_ble_eq_true rfl | omega) ?_
            refine pMI.m (S' := putW S (altW S.1 i (numP (S.1.2.1 i) (5 + 5 * k + (1 + w)) v))) (by unfold fChange; rw [if_pos C, tw, tv, ti, tk, hX_at hh]) (hRM.alt hi (fun a ha => (same4.refl V a).sAI ha) (MH.put hR (by omega)) (HOK.putS hN hk (show 1 + w < 5 by omega) ?_))
            obtain ⟨z1, z2⟩ := C.2.2.2
            rw [tw, ← sLo_eq, nv] at z1
            rw [tw, ← sHi_eq, nv] at z2
            exact ⟨by omega, by omega⟩
          · have cv := b2i_eq c68
            refine x_aload_n (pc := 71) cx (dA ddX8_change (i := 36) rfl) rfl ?_
            refine x_bipush (pc := 72) (v := -2) cx (dA ddX8_change (i := 37) rfl) (by decide) ?_
            refine x_V1 (pc := 74) mX8_119 h0 (c_X8_refuse hM (i := 0) (by decide) rfl) cx (dA ddX8_change (i := 38) rfl) (kI ?_)
            refine x_ireturn (pc := 77) cx (dA ddX8_change (i := 39) rfl) (by first | exact Nat.le_of_ble_eq_true rfl | omega) (by first | exact Nat.le_of_ble_eq_true rfl | omega) ?_
            first | exact pMI.r hRM (by decide) (if_neg (fun q => by have z := q.2.2.2; rw [tw, (show mLo2 (1 + w) = 0 from by rw [w0]; rfl), (show mHi2 (1 + w) = 4 from by rw [w0]; rfl)] at z; exact cv z)) | exact pMI.r hRM (by decide) (if_neg (fun q => by have z := q.2.2.2; rw [tw, (show mLo2 (1 + w) = 0 from by rw [c53]; rfl), (show mHi2 (1 + w) = 9 from by rw [c53]; rfl)] at z; exact cv z)) | exact pMI.r hRM (by decide) (if_neg (fun q => by have z := q.2.2.2; rw [tw, (show mLo2 (1 + w) = 0 from by rcases (show w = 2 ∨ w = 3 by omega) with h | h <;> rw [h] <;> rfl), (show mHi2 (1 + w) = 99 from by rcases (show w = 2 ∨ w = 3 by omega) with h | h <;> rw [h] <;> rfl)] at z; exact cv z))
theorem c_X8_feed {l : Launch} {Z : zP} {G : zG} {V : zV} {y : Nat} {zk : Option Nat} {S : SX} (hRM : RM Z G V y zk S) {v n : Int32} : CT l Z yX8_feed cX8_feed 4 (some .int) 2 0 0 [.ref y, .int v, .int n] G V (pMI Z G V y zk (fFeed S v n)) := by
  refine CT.of (by decide +kernel) (Nat.le_of_ble_eq_true rfl) (fun X hX cx => ?_)
  subst hX
  show Wm Z X 4 G V 0 0 _ 0 [(0, some (.ref y)), (1, some (.int v)), (2, some (.int n))] []
  have hM := hRM.1
  have h0 := hM.1
  have hc := hRM.2.2.1.1
  have c6 := hRM.2.2.1.2.1
  have hmu := hRM.2.2.2.2.2.2.1
  have hT := hRM.2.2.2.2.1
  have hT3 := hT.2.2.1
  refine x_iload_n (pc := 0) cx (dA ddX8_feed (i := 0) rfl) rfl ?_
  refine x_i2l (pc := 1) cx (dA ddX8_feed (i := 1) rfl) ?_
  refine x_lconst (pc := 2) (v := lN 1) cx (dA ddX8_feed (i := 2) rfl) rfl ?_
  refine x_ldc2 (pc := 3) cx klX8_115 (dA ddX8_feed (i := 3) rfl) ?_
  refine x_S3 (pc := 6) mX8_94 c_X8_in cx (dA ddX8_feed (i := 4) rfl) (kI ?_)
  rw [tl_toInt, show (lN 1).toInt = 1 from rfl, show (lN 4).toInt = 4 from rfl]
  refine x_if_ne (pc := 9) (tgt := 19) cx (dA ddX8_feed (i := 5) rfl) (by decide) (fun c9 => ?_) (fun c9 => ?_)
  · have cn := b2i_ne c9
    obtain ⟨n, hn, rfl, tn9⟩ := i32_in (x := n) (n := 5) ⟨by omega, by omega⟩
    have n1 : 1 ≤ n := by have := cn.1; rw [nI_toInt (by omega)] at this; omega
    refine x_iload_n (pc := 19) cx (dA ddX8_feed (i := 10) rfl) rfl ?_
    refine x_sipush (pc := 20) (v := nI 160) cx (dA ddX8_feed (i := 11) rfl) (by decide) ?_
    refine x_aload_n (pc := 23) cx (dA ddX8_feed (i := 12) rfl) rfl ?_
    refine gX8_136 (pc := 24) (congrArg Value.int hT.1) cx (dA ddX8_feed (i := 13) rfl) h0 ?_
    refine x_isub (pc := 27) cx (dA ddX8_feed (i := 14) rfl) ?_
    rw [pk_sub hT.2.2.1]
    refine x_icmp_le (pc := 28) (tgt := 38) cx (dA ddX8_feed (i := 15) rfl) (by decide) (fun c28 => ?_) (fun c28 => ?_)
    · have c28 := cleT (by omega) (by omega) c28
      refine x_iload_n (pc := 38) cx (dA ddX8_feed (i := 20) rfl) rfl ?_
      refine x_iconst (pc := 39) (v := nI 1) cx (dA ddX8_feed (i := 21) rfl) (by decide) ?_
      refine x_isub (pc := 40) cx (dA ddX8_feed (i := 22) rfl) ?_
      refine x_istore_n (pc := 41) cx (dA ddX8_feed (i := 23) rfl) (by decide) rfl ?_
      have L42 : ∀ k : Nat, k ≤ n → ∀ z : Int32, z.toInt = (n : Int) - 1 - (k : Int) → Wm Z X 4 G (mfV V y S.2.2.1.2 v n k) 0 0 (rQ Z X 0 0 (pMI Z G V y zk (fFeed S v (nI n)))) 42 [(0, some (.ref y)), (1, some (.int v)), (2, some (.int (nI n))), (3, some (.int z))] [] := by
        refine lpU n (fun k hk ih => ?_)
        intro z hv
        refine x_iload_n (pc := 42) cx (dA ddX8_feed (i := 24) rfl) rfl ?_
        refine x_if_lt (pc := 43) (tgt := 78) cx (dA ddX8_feed (i := 25) rfl) (by decide) (fun c43 => ?_) (fun c43 => ?_)
        · have ek : k = n := by rw [i32_lt, hv, toI_0] at c43; omega
          subst ek
          refine x_aload_n (pc := 78) cx (dA ddX8_feed (i := 45) rfl) rfl ?_
          refine gX8_136 (pc := 79) (congrArg Value.int (show (mfV V y S.2.2.1.2 v k k).1 409 y = nI (S.2.2.1.2 + k) from sI_eq)) cx (dA ddX8_feed (i := 46) rfl) h0 ?_
          refine x_ireturn (pc := 82) cx (dA ddX8_feed (i := 47) rfl) (by first | exact Nat.le_of_ble_eq_true rfl | omega) (by first | exact Nat.le_of_ble_eq_true rfl | omega) ?_
          refine pMI.m (S' := putT S (feedB S.2.2.1.1 S.2.2.1.2 v k, S.2.2.1.2 + k)) (by unfold fFeed; rw [if_pos cn, tn9, if_pos (by omega)]) (hRM.tape (t := (feedB S.2.2.1.1 S.2.2.1.2 v k, S.2.2.1.2 + k)) (fun a h1 h2 => ((same4.refl V a).rAI h2).sI h1) (fun f hf => sI_ne hf) ⟨sI_eq, fun j hj => ?_, by show S.2.2.1.2 + k ≤ 160; omega, fun j => ?_⟩)
          · show rw2 V.2.2.1 (y + 27) S.2.2.1.2 k (fun j => nI (fdN v k j)) (y + 27) j = nI (feedB S.2.2.1.1 S.2.2.1.2 v k j)
            unfold feedB
            by_cases e : S.2.2.1.2 ≤ j ∧ j < S.2.2.1.2 + k
            · rw [rw2_in e.1 e.2, if_pos e]
            · rw [rw2_out (by omega), if_neg e]
              exact hT.2.1 j hj
          · unfold feedB
            dsimp only
            split
            · exact fdN_lt _ _ _
            · exact hT.2.2.2 j
        · have kn : k < n := by rw [i32_lt, hv, toI_0] at c43; omega
          have ev : z = nI (n - 1 - k) := by apply Int32.toInt_inj.mp; rw [hv, nI_toInt (by omega)]; omega
          subst ev
          refine x_aload_n (pc := 46) cx (dA ddX8_feed (i := 26) rfl) rfl ?_
          refine gX8_39 (pc := 47) (rfA hM.2.2.2.2.2.2.2.2.2.1.1) cx (dA ddX8_feed (i := 27) rfl) h0 ?_
          refine x_aload_n (pc := 50) cx (dA ddX8_feed (i := 28) rfl) rfl ?_
          refine x_dup (pc := 51) cx rfl (dA ddX8_feed (i := 29) rfl) ?_
          refine gX8_136 (pc := 52) (congrArg Value.int (show (mfV V y S.2.2.1.2 v n k).1 409 y = nI (S.2.2.1.2 + k) from sI_eq)) cx (dA ddX8_feed (i := 30) rfl) h0 ?_
          refine x_dup_x1 (pc := 55) cx rfl rfl (dA ddX8_feed (i := 31) rfl) ?_
          refine x_iconst (pc := 56) (v := nI 1) cx (dA ddX8_feed (i := 32) rfl) (by decide) ?_
          refine x_iadd (pc := 57) cx (dA ddX8_feed (i := 33) rfl) ?_
          rw [nI_add, Nat.add_assoc]
          refine pX8_136 (pc := 58)  cx (dA ddX8_feed (i := 34) rfl) h0 ?_
          refine x_iload_n (pc := 61) cx (dA ddX8_feed (i := 35) rfl) rfl ?_
          refine x_bipush (pc := 62) (v := nI 8) cx (dA ddX8_feed (i := 36) rfl) (by decide) ?_
          refine x_iload_n (pc := 64) cx (dA ddX8_feed (i := 37) rfl) rfl ?_
          refine x_imul (pc := 65) cx (dA ddX8_feed (i := 38) rfl) ?_
          refine x_ishr (pc := 66) cx (dA ddX8_feed (i := 39) rfl) ?_
          refine x_sipush (pc := 67) (v := nI 255) cx (dA ddX8_feed (i := 40) rfl) (by decide) ?_
          refine x_iand (pc := 70) cx (dA ddX8_feed (i := 41) rfl) ?_
          rw [fd255, show (v >>> (nI 8 * nI (n - 1 - k) &&& 31)).toInt8.toBitVec.toNat = fdN v n k from rfl]
          refine x_iastore (pc := 71) cx (dA ddX8_feed (i := 42) rfl) hM.2.2.2.2.2.2.2.2.2.1.2 (by omega) (by decide) ?_
          rw [mfV_s]
          refine x_iinc (pc := 72) cx (dA ddX8_feed (i := 43) rfl) rfl rfl (by decide) rfl ?_
          refine x_goto (pc := 75) (tgt := 42) cx (dA ddX8_feed (i := 44) rfl) (by decide) ?_
          exact x_enter (ih (by omega) _ (by rw [nI_dec _ (by omega)]; omega)) ⟨.inr rfl, .inr rfl, .inr rfl, .inr rfl, trivial⟩
      have L := L42 0 (Nat.zero_le _) (nI n - nI 1) (by rw [pk_sub n1, nI_toInt (by omega)]; omega)
      rw [mfV_0 hT.1] at L
      exact x_enter L ⟨.inr rfl, .inr rfl, .inr rfl, .inr rfl, trivial⟩
    · have c28 := cleF (by omega) (by omega) c28
      refine x_aload_n (pc := 31) cx (dA ddX8_feed (i := 16) rfl) rfl ?_
      refine x_bipush (pc := 32) (v := -6) cx (dA ddX8_feed (i := 17) rfl) (by decide) ?_
      refine x_V1 (pc := 34) mX8_119 h0 (c_X8_refuse hM (i := 4) (by decide) rfl) cx (dA ddX8_feed (i := 18) rfl) (kI ?_)
      refine x_ireturn (pc := 37) cx (dA ddX8_feed (i := 19) rfl) (by first | exact Nat.le_of_ble_eq_true rfl | omega) (by first | exact Nat.le_of_ble_eq_true rfl | omega) ?_
      exact pMI.r hRM (by decide) (by unfold fFeed; rw [if_pos cn, tn9, if_neg (by omega)])
  · have c9 := b2i_eq c9
    refine x_aload_n (pc := 12) cx (dA ddX8_feed (i := 6) rfl) rfl ?_
    refine x_bipush (pc := 13) (v := -2) cx (dA ddX8_feed (i := 7) rfl) (by decide) ?_
    refine x_V1 (pc := 15) mX8_119 h0 (c_X8_refuse hM (i := 0) (by decide) rfl) cx (dA ddX8_feed (i := 8) rfl) (kI ?_)
    refine x_ireturn (pc := 18) cx (dA ddX8_feed (i := 9) rfl) (by first | exact Nat.le_of_ble_eq_true rfl | omega) (by first | exact Nat.le_of_ble_eq_true rfl | omega) ?_
    first | exact pMI.r hRM (by decide) (if_neg (fun q => c9 q))
