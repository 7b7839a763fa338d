theorem rdL_lt {B : Nat → Nat} {S : Nat} : ∀ n (M : Nat → Nat) (τ : TK), tk0 B S τ → HOK M → zzN M → ∀ f M', rdL B S n M τ = (some f, M') → f ≤ S
  | 0, M, τ, hk, _, _, f, M', h => by cases h; exact Nat.le_refl _
  | n + 1, M, τ, hk, hM, hz, f, M', h => by
    rw [rdL_s] at h
    have iv := stP_inv hk hM hz
    have le : (stP B S M τ).2.2.2.1 ≤ S := Nat.le_trans iv.1.2.1 iv.1.2.2.1
    by_cases ok : (stP B S M τ).1 = true
    · rw [if_neg (by rw [ok]; exact fun q => Bool.noConfusion q)] at h
      obtain ⟨-, hN2, hz2⟩ := iv.2 ok
      unfold ctP at h
      split at h
      · split at h
        · cases h
        · cases h; exact Nat.le_refl _
      · split at h
        · exact rdL_lt n _ _ (adv_tk iv.1.2.2.1) hN2 hz2 f M' h
        · cases h; exact le
    · rw [if_pos (by cases e : (stP B S M τ).1; rfl; exact absurd e ok)] at h
      cases h
      exact le
theorem same4.rd2 {V V' : zV} {x t h : Nat} {N : Nat → Nat} {τ : TK} (hs : same4 V V' x) (h1 : x ≠ t) (h2 : x ≠ h + 1) : same4 V (rdV V' t h N τ) x := by
  have g : same4 V (setN V' h N) x := hs.rAI h2
  refine ⟨fun f => ?_, g.2⟩
  show (if x = t ∧ f = 202 then _ else if x = t ∧ f = 203 then _ else if x = t ∧ f = 204 then _ else (setN V' h N).1 f x) = V.1 f x
  rw [if_neg (fun q => h1 q.1), if_neg (fun q => h1 q.1), if_neg (fun q => h1 q.1)]
  exact g.1 f
theorem c_X7_copy {l : Launch} {Z : zP} {G : zG} {V : zV} {x : Nat} {col : Nat → Nat} {S : SX} (hRC : RC Z G V x col S) {s u i j n : Int32} : CT l Z yX7_copy cX7_copy 8 (some .int) 8 0 0 [.ref x, .int s, .int u, .int i, .int j, .int n] G V (pCI Z G V x col (fCopy S s u i j n)) := by
  refine CT.of (by decide +kernel) (Nat.le_of_ble_eq_true rfl) (fun X hX cx => ?_)
  subst hX
  show Wm Z X 8 G V 0 0 _ 0 [(0, some (.ref x)), (1, some (.int s)), (2, some (.int u)), (3, some (.int i)), (4, some (.int j)), (5, some (.int n))] []
  have hQ := hRC.1
  have h0 := hQ.1
  have hWd := hRC.2.2.2.2.1
  have c6 := hWd.2.1
  have hO := RO.refl hRC
  refine x_iload_n (pc := 0) cx (dA ddX7_copy (i := 0) rfl) rfl ?_
  refine x_S1 (pc := 1) mX7_70 c_X7_isShelf cx (dA ddX7_copy (i := 1) rfl) (kI ?_)
  refine x_if_eq (pc := 4) (tgt := 14) cx (dA ddX7_copy (i := 2) rfl) (by decide) (fun c4 => ?_) (fun c4 => ?_)
  · have cp := b2i_eq c4
    refine x_aload_n (pc := 14) cx (dA ddX7_copy (i := 6) rfl) rfl ?_
    refine x_bipush (pc := 15) (v := -2) cx (dA ddX7_copy (i := 7) rfl) (by decide) ?_
    refine x_V1 (pc := 17) mX7_74 h0 (c_X7_refuse hQ (i := 0) (by decide) rfl) cx (dA ddX7_copy (i := 8) rfl) (kI ?_)
    refine x_ireturn (pc := 20) cx (dA ddX7_copy (i := 9) rfl) (by first | exact Nat.le_of_ble_eq_true rfl | omega) (by first | exact Nat.le_of_ble_eq_true rfl | omega) ?_
    first | exact pCI.r hO (by decide) (if_neg (fun q => cp q.1)) | exact pCI.r hO (by decide) (if_neg (fun q => cq q.2))
  · have cp0 := b2i_ne c4
    obtain ⟨p, hp, rfl, tp⟩ := i32_in (x := s) (n := 8) cp0
    have cp : oks (nI p) := cp0
    refine x_iload_n (pc := 7) cx (dA ddX7_copy (i := 3) rfl) rfl ?_
    refine x_S1 (pc := 8) mX7_70 c_X7_isShelf cx (dA ddX7_copy (i := 4) rfl) (kI ?_)
    refine x_if_ne (pc := 11) (tgt := 21) cx (dA ddX7_copy (i := 5) rfl) (by decide) (fun c11 => ?_) (fun c11 => ?_)
    · have cq0 := b2i_ne c11
      obtain ⟨q, hq, rfl, tq⟩ := i32_in (x := u) (n := 8) cq0
      have cq : oks (nI q) := cq0
      have C : oks (nI p) ∧ oks (nI q) := ⟨cp, cq⟩
      have ep : shX S (nI p) = S.2.2.2.1 p := shX_at hp
      have eq : shX S (nI q) = S.2.2.2.1 q := shX_at hq
      refine x_aload_n (pc := 21) cx (dA ddX7_copy (i := 10) rfl) rfl ?_
      refine x_iload_n (pc := 22) cx (dA ddX7_copy (i := 11) rfl) rfl ?_
      rcases sh3 (S.2.2.2.1 p) with ea | ⟨a, ea⟩ | ⟨a, ea⟩
      · obtain ⟨p7, p8⟩ := hO.1.sh0 hp ea
        refine x_V1 (pc := 23) mX7_99 h0 (c_X7_ruleAt hQ) cx (dA ddX7_copy (i := 12) rfl) (kR ?_)
        rw [p8, show va_rf none = .null from rfl]
        refine x_ifnonnull_n (pc := 26) cx (dA ddX7_copy (i := 13) rfl) ?_
        refine x_aload_n (pc := 29) cx (dA ddX7_copy (i := 14) rfl) rfl ?_
        refine x_iload_n (pc := 30) cx (dA ddX7_copy (i := 15) rfl) rfl ?_
        rcases sh3 (S.2.2.2.1 q) with eb | ⟨b, eb⟩ | ⟨b, eb⟩
        · obtain ⟨q7, q8⟩ := hO.1.sh0 hq eb
          refine x_V1 (pc := 31) mX7_99 h0 (c_X7_ruleAt hQ) cx (dA ddX7_copy (i := 16) rfl) (kR ?_)
          rw [q8, show va_rf none = .null from rfl]
          refine x_ifnull_n (pc := 34) (tgt := 44) cx (dA ddX7_copy (i := 17) rfl) (by decide) ?_
          refine x_aload_n (pc := 44) cx (dA ddX7_copy (i := 22) rfl) rfl ?_
          refine x_iload_n (pc := 45) cx (dA ddX7_copy (i := 23) rfl) rfl ?_
          refine x_V1 (pc := 46) mX7_85 h0 (c_X7_rowAt hQ) cx (dA ddX7_copy (i := 24) rfl) (kR ?_)
          rw [p7, show va_rf none = .null from rfl]
          refine x_astoreN (pc := 49) cx (dA ddX7_copy (i := 25) rfl) (by decide) rfl ?_
          refine x_aload_n (pc := 51) cx (dA ddX7_copy (i := 26) rfl) rfl ?_
          refine x_iload_n (pc := 52) cx (dA ddX7_copy (i := 27) rfl) rfl ?_
          refine x_V1 (pc := 53) mX7_85 h0 (c_X7_rowAt hQ) cx (dA ddX7_copy (i := 28) rfl) (kR ?_)
          rw [q7, show va_rf none = .null from rfl]
          refine x_astoreN (pc := 56) cx (dA ddX7_copy (i := 29) rfl) (by decide) rfl ?_
          refine x_aloadN (pc := 58) cx (dA ddX7_copy (i := 30) rfl) rfl ?_
          refine x_ifnull_n (pc := 60) (tgt := 68) cx (dA ddX7_copy (i := 31) rfl) (by decide) ?_
          refine x_aload_n (pc := 68) cx (dA ddX7_copy (i := 34) rfl) rfl ?_
          refine x_bipush (pc := 69) (v := -4) cx (dA ddX7_copy (i := 35) rfl) (by decide) ?_
          refine x_V1 (pc := 71) mX7_74 h0 (c_X7_refuse hQ (i := 2) (by decide) rfl) cx (dA ddX7_copy (i := 36) rfl) (kI ?_)
          refine x_ireturn (pc := 74) cx (dA ddX7_copy (i := 37) rfl) (by first | exact Nat.le_of_ble_eq_true rfl | omega) (by first | exact Nat.le_of_ble_eq_true rfl | omega) ?_
          exact pCI.r hO (by decide) (fCopy_n1 C (ep.trans ea) (fun b hb => by rw [eq, eb] at hb; cases hb))
        · obtain ⟨q8, rb, q7, qR, qT, q5, qE, qc, q1c⟩ := hO.1.shl hq eb
          refine x_V1 (pc := 31) mX7_99 h0 (c_X7_ruleAt hQ) cx (dA ddX7_copy (i := 16) rfl) (kR ?_)
          rw [q8, show va_rf none = .null from rfl]
          refine x_ifnull_n (pc := 34) (tgt := 44) cx (dA ddX7_copy (i := 17) rfl) (by decide) ?_
          refine x_aload_n (pc := 44) cx (dA ddX7_copy (i := 22) rfl) rfl ?_
          refine x_iload_n (pc := 45) cx (dA ddX7_copy (i := 23) rfl) rfl ?_
          refine x_V1 (pc := 46) mX7_85 h0 (c_X7_rowAt hQ) cx (dA ddX7_copy (i := 24) rfl) (kR ?_)
          rw [p7, show va_rf none = .null from rfl]
          refine x_astoreN (pc := 49) cx (dA ddX7_copy (i := 25) rfl) (by decide) rfl ?_
          refine x_aload_n (pc := 51) cx (dA ddX7_copy (i := 26) rfl) rfl ?_
          refine x_iload_n (pc := 52) cx (dA ddX7_copy (i := 27) rfl) rfl ?_
          refine x_V1 (pc := 53) mX7_85 h0 (c_X7_rowAt hQ) cx (dA ddX7_copy (i := 28) rfl) (kR ?_)
          rw [q7, show va_rf (some rb) = .ref rb from rfl]
          refine x_astore (pc := 56) cx (dA ddX7_copy (i := 29) rfl) (by decide) rfl ?_
          refine x_aloadN (pc := 58) cx (dA ddX7_copy (i := 30) rfl) rfl ?_
          refine x_ifnull_n (pc := 60) (tgt := 68) cx (dA ddX7_copy (i := 31) rfl) (by decide) ?_
          refine x_aload_n (pc := 68) cx (dA ddX7_copy (i := 34) rfl) rfl ?_
          refine x_bipush (pc := 69) (v := -4) cx (dA ddX7_copy (i := 35) rfl) (by decide) ?_
          refine x_V1 (pc := 71) mX7_74 h0 (c_X7_refuse hQ (i := 2) (by decide) rfl) cx (dA ddX7_copy (i := 36) rfl) (kI ?_)
          refine x_ireturn (pc := 74) cx (dA ddX7_copy (i := 37) rfl) (by first | exact Nat.le_of_ble_eq_true rfl | omega) (by first | exact Nat.le_of_ble_eq_true rfl | omega) ?_
          exact pCI.r hO (by decide) (fCopy_n1 C (ep.trans ea) (fun b hb => by rw [eq, eb] at hb; cases hb))
        · obtain ⟨q7, rb, q8, -⟩ := hO.1.shr hq eb
          refine x_V1 (pc := 31) mX7_99 h0 (c_X7_ruleAt hQ) cx (dA ddX7_copy (i := 16) rfl) (kR ?_)
          rw [q8, show va_rf (some rb) = .ref rb from rfl]
          refine x_ifnull_s (pc := 34) cx (dA ddX7_copy (i := 17) rfl) ?_
          refine x_aload_n (pc := 37) cx (dA ddX7_copy (i := 18) rfl) rfl ?_
          refine x_bipush (pc := 38) (v := -3) cx (dA ddX7_copy (i := 19) rfl) (by decide) ?_
          refine x_V1 (pc := 40) mX7_74 h0 (c_X7_refuse hQ (i := 1) (by decide) rfl) cx (dA ddX7_copy (i := 20) rfl) (kI ?_)
          refine x_ireturn (pc := 43) cx (dA ddX7_copy (i := 21) rfl) (by first | exact Nat.le_of_ble_eq_true rfl | omega) (by first | exact Nat.le_of_ble_eq_true rfl | omega) ?_
          exact pCI.r hO (by decide) (fCopy_r2 C (eq.trans eb))
      · obtain ⟨p8, ra, p7, pR, pT, p5, pE, pc, p1c⟩ := hO.1.shl hp ea
        refine x_V1 (pc := 23) mX7_99 h0 (c_X7_ruleAt hQ) cx (dA ddX7_copy (i := 12) rfl) (kR ?_)
        rw [p8, show va_rf none = .null from rfl]
        refine x_ifnonnull_n (pc := 26) cx (dA ddX7_copy (i := 13) rfl) ?_
        refine x_aload_n (pc := 29) cx (dA ddX7_copy (i := 14) rfl) rfl ?_
        refine x_iload_n (pc := 30) cx (dA ddX7_copy (i := 15) rfl) rfl ?_
        rcases sh3 (S.2.2.2.1 q) with eb | ⟨b, eb⟩ | ⟨b, eb⟩
        · obtain ⟨q7, q8⟩ := hO.1.sh0 hq eb
          refine x_V1 (pc := 31) mX7_99 h0 (c_X7_ruleAt hQ) cx (dA ddX7_copy (i := 16) rfl) (kR ?_)
          rw [q8, show va_rf none = .null from rfl]
          refine x_ifnull_n (pc := 34) (tgt := 44) cx (dA ddX7_copy (i := 17) rfl) (by decide) ?_
          refine x_aload_n (pc := 44) cx (dA ddX7_copy (i := 22) rfl) rfl ?_
          refine x_iload_n (pc := 45) cx (dA ddX7_copy (i := 23) rfl) rfl ?_
          refine x_V1 (pc := 46) mX7_85 h0 (c_X7_rowAt hQ) cx (dA ddX7_copy (i := 24) rfl) (kR ?_)
          rw [p7, show va_rf (some ra) = .ref ra from rfl]
          refine x_astore (pc := 49) cx (dA ddX7_copy (i := 25) rfl) (by decide) rfl ?_
          refine x_aload_n (pc := 51) cx (dA ddX7_copy (i := 26) rfl) rfl ?_
          refine x_iload_n (pc := 52) cx (dA ddX7_copy (i := 27) rfl) rfl ?_
          refine x_V1 (pc := 53) mX7_85 h0 (c_X7_rowAt hQ) cx (dA ddX7_copy (i := 28) rfl) (kR ?_)
          rw [q7, show va_rf none = .null from rfl]
          refine x_astoreN (pc := 56) cx (dA ddX7_copy (i := 29) rfl) (by decide) rfl ?_
          refine x_aload (pc := 58) cx (dA ddX7_copy (i := 30) rfl) rfl ?_
          refine x_ifnull_s (pc := 60) cx (dA ddX7_copy (i := 31) rfl) ?_
          refine x_aloadN (pc := 63) cx (dA ddX7_copy (i := 32) rfl) rfl ?_
          refine x_ifnonnull_n (pc := 65) cx (dA ddX7_copy (i := 33) rfl) ?_
          refine x_aload_n (pc := 68) cx (dA ddX7_copy (i := 34) rfl) rfl ?_
          refine x_bipush (pc := 69) (v := -4) cx (dA ddX7_copy (i := 35) rfl) (by decide) ?_
          refine x_V1 (pc := 71) mX7_74 h0 (c_X7_refuse hQ (i := 2) (by decide) rfl) cx (dA ddX7_copy (i := 36) rfl) (kI ?_)
          refine x_ireturn (pc := 74) cx (dA ddX7_copy (i := 37) rfl) (by first | exact Nat.le_of_ble_eq_true rfl | omega) (by first | exact Nat.le_of_ble_eq_true rfl | omega) ?_
          exact pCI.r hO (by decide) (fCopy_n2 C (ep.trans ea) (eq.trans eb))
        · obtain ⟨q8, rb, q7, qR, qT, q5, qE, qc, q1c⟩ := hO.1.shl hq eb
          refine x_V1 (pc := 31) mX7_99 h0 (c_X7_ruleAt hQ) cx (dA ddX7_copy (i := 16) rfl) (kR ?_)
          rw [q8, show va_rf none = .null from rfl]
          refine x_ifnull_n (pc := 34) (tgt := 44) cx (dA ddX7_copy (i := 17) rfl) (by decide) ?_
          refine x_aload_n (pc := 44) cx (dA ddX7_copy (i := 22) rfl) rfl ?_
          refine x_iload_n (pc := 45) cx (dA ddX7_copy (i := 23) rfl) rfl ?_
          refine x_V1 (pc := 46) mX7_85 h0 (c_X7_rowAt hQ) cx (dA ddX7_copy (i := 24) rfl) (kR ?_)
          rw [p7, show va_rf (some ra) = .ref ra from rfl]
          refine x_astore (pc := 49) cx (dA ddX7_copy (i := 25) rfl) (by decide) rfl ?_
          refine x_aload_n (pc := 51) cx (dA ddX7_copy (i := 26) rfl) rfl ?_
          refine x_iload_n (pc := 52) cx (dA ddX7_copy (i := 27) rfl) rfl ?_
          refine x_V1 (pc := 53) mX7_85 h0 (c_X7_rowAt hQ) cx (dA ddX7_copy (i := 28) rfl) (kR ?_)
          rw [q7, show va_rf (some rb) = .ref rb from rfl]
          refine x_astore (pc := 56) cx (dA ddX7_copy (i := 29) rfl) (by decide) rfl ?_
          refine x_aload (pc := 58) cx (dA ddX7_copy (i := 30) rfl) rfl ?_
          refine x_ifnull_s (pc := 60) cx (dA ddX7_copy (i := 31) rfl) ?_
          refine x_aload (pc := 63) cx (dA ddX7_copy (i := 32) rfl) rfl ?_
          refine x_ifnonnull_s (pc := 65) (tgt := 75) cx (dA ddX7_copy (i := 33) rfl) (by decide) ?_
          refine x_aload (pc := 75) cx (dA ddX7_copy (i := 38) rfl) rfl ?_
          refine gX7_103 (pc := 77) (congrArg Value.int pT) cx (dA ddX7_copy (i := 39) rfl) pR.1 ?_
          refine x_aload (pc := 80) cx (dA ddX7_copy (i := 40) rfl) rfl ?_
          refine gX7_103 (pc := 82) (congrArg Value.int qT) cx (dA ddX7_copy (i := 41) rfl) qR.1 ?_
          refine x_icmp_eq (pc := 85) (tgt := 95) cx (dA ddX7_copy (i := 42) rfl) (by decide) (fun c85 => ?_) (fun c85 => ?_)
          · have c85 := ceqT (by omega) (by omega) c85
            refine x_aload (pc := 95) cx (dA ddX7_copy (i := 47) rfl) rfl ?_
            refine x_iload_n (pc := 97) cx (dA ddX7_copy (i := 48) rfl) rfl ?_
            refine x_iload (pc := 98) cx (dA ddX7_copy (i := 49) rfl) rfl ?_
            refine x_V2 (pc := 100) mX7_107 pR.1 (c_X2_hasRange pR) cx (dA ddX7_copy (i := 50) rfl) (kI ?_)
            refine x_if_eq (pc := 103) (tgt := 118) cx (dA ddX7_copy (i := 51) rfl) (by decide) (fun c103 => ?_) (fun c103 => ?_)
            · have ci := b2i_eq c103
              refine x_aload_n (pc := 118) cx (dA ddX7_copy (i := 57) rfl) rfl ?_
              refine x_bipush (pc := 119) (v := -2) cx (dA ddX7_copy (i := 58) rfl) (by decide) ?_
              refine x_V1 (pc := 121) mX7_74 h0 (c_X7_refuse hQ (i := 0) (by decide) rfl) cx (dA ddX7_copy (i := 59) rfl) (kI ?_)
              refine x_ireturn (pc := 124) cx (dA ddX7_copy (i := 60) rfl) (by first | exact Nat.le_of_ble_eq_true rfl | omega) (by first | exact Nat.le_of_ble_eq_true rfl | omega) ?_
              first | exact pCI.r hO (by decide) (by rw [fCopy_b C (ep.trans ea) (eq.trans eb), if_neg (fun h => h c85)]; exact if_neg (fun z => ci z.1)) | exact pCI.r hO (by decide) (by rw [fCopy_b C (ep.trans ea) (eq.trans eb), if_neg (fun h => h c85)]; exact if_neg (fun z => cj z.2))
            · have ci := b2i_ne c103
              refine x_aload (pc := 106) cx (dA ddX7_copy (i := 52) rfl) rfl ?_
              refine x_iload (pc := 108) cx (dA ddX7_copy (i := 53) rfl) rfl ?_
              refine x_iload (pc := 110) cx (dA ddX7_copy (i := 54) rfl) rfl ?_
              refine x_V2 (pc := 112) mX7_107 qR.1 (c_X2_hasRange qR) cx (dA ddX7_copy (i := 55) rfl) (kI ?_)
              refine x_if_ne (pc := 115) (tgt := 125) cx (dA ddX7_copy (i := 56) rfl) (by decide) (fun c115 => ?_) (fun c115 => ?_)
              · have cj := b2i_ne c115
                have pm := pR.2.2.2
                have qm := qR.2.2.2
                obtain ⟨i, hi, rfl, ti⟩ := i32_in (x := i) (n := 126) (by omega)
                obtain ⟨j, hj, rfl, tj⟩ := i32_in (x := j) (n := 126) (by omega)
                obtain ⟨n, hn, rfl, tn9⟩ := i32_in (x := n) (n := 126) (by omega)
                have zi : (nI i).toInt = i := nI_toInt (by omega)
                have zj : (nI j).toInt = j := nI_toInt (by omega)
                have zn : (nI n).toInt = n := nI_toInt (by omega)
                refine x_aload (pc := 125) cx (dA ddX7_copy (i := 61) rfl) rfl ?_
                refine x_aload (pc := 127) cx (dA ddX7_copy (i := 62) rfl) rfl ?_
                refine x_iload_n (pc := 129) cx (dA ddX7_copy (i := 63) rfl) rfl ?_
                refine x_iload (pc := 130) cx (dA ddX7_copy (i := 64) rfl) rfl ?_
                refine x_iload (pc := 132) cx (dA ddX7_copy (i := 65) rfl) rfl ?_
                refine x_V4 (pc := 134) mX7_111 qR.1 (c_X2_take qR pR (i := i) (j := j) (n := n) (by omega) (by omega)) cx (dA ddX7_copy (i := 66) rfl) (kV ?_)
                refine x_iload (pc := 137) cx (dA ddX7_copy (i := 67) rfl) rfl ?_
                refine x_ireturn (pc := 139) cx (dA ddX7_copy (i := 68) rfl) (by first | exact Nat.le_of_ble_eq_true rfl | omega) (by first | exact Nat.le_of_ble_eq_true rfl | omega) ?_
                rw [slA_n hq] at q7
                have hRC2 := hRC.row hq eb q7 (V' := (rAJ V (rb + 1) j n (fun z => V.2.2.2 (ra + 1) (i + z)))) (vals := (fun z => if j ≤ z ∧ z < j + n then a.2.2 (i + (z - j)) else b.2.2 z)) (fun z hz => (same4.refl V z).rAJ hz) (fun f => rfl) (fun z hz => by show (rAJ V (rb + 1) j n (fun z => V.2.2.2 (ra + 1) (i + z))).2.2.2 (rb + 1) z = if j ≤ z ∧ z < j + n then a.2.2 (i + (z - j)) else b.2.2 z; by_cases e : j ≤ z ∧ z < j + n; (rw [if_pos e, rAJ_off e.1 e.2]; exact pE _ (by omega)); (rw [if_neg e, rAJ_out (by omega)]; exact qE z hz))
                exact pCI.g (S' := putS S q (some (.inl (b.1, b.2.1, (fun z => if j ≤ z ∧ z < j + n then a.2.2 (i + (z - j)) else b.2.2 z))))) (by rw [fCopy_b C (ep.trans ea) (eq.trans eb), if_neg (fun h => h c85), if_pos ⟨ci, cj⟩, tj, ti, tn9, tq]) hRC2 (Nat.le_refl _) (fun _ _ => rfl) (fun z _ hz => ⟨sameG.refl G z, (same4.refl V z).rAJ (fun w => by rw [w, q1c] at hz; cases hz)⟩)
              · have cj := b2i_eq c115
                refine x_aload_n (pc := 118) cx (dA ddX7_copy (i := 57) rfl) rfl ?_
                refine x_bipush (pc := 119) (v := -2) cx (dA ddX7_copy (i := 58) rfl) (by decide) ?_
                refine x_V1 (pc := 121) mX7_74 h0 (c_X7_refuse hQ (i := 0) (by decide) rfl) cx (dA ddX7_copy (i := 59) rfl) (kI ?_)
                refine x_ireturn (pc := 124) cx (dA ddX7_copy (i := 60) rfl) (by first | exact Nat.le_of_ble_eq_true rfl | omega) (by first | exact Nat.le_of_ble_eq_true rfl | omega) ?_
                first | exact pCI.r hO (by decide) (by rw [fCopy_b C (ep.trans ea) (eq.trans eb), if_neg (fun h => h c85)]; exact if_neg (fun z => ci z.1)) | exact pCI.r hO (by decide) (by rw [fCopy_b C (ep.trans ea) (eq.trans eb), if_neg (fun h => h c85)]; exact if_neg (fun z => cj z.2))
          · have c85 := ceqF (by omega) (by omega) c85
            refine x_aload_n (pc := 88) cx (dA ddX7_copy (i := 43) rfl) rfl ?_
            refine x_bipush (pc := 89) (v := -3) cx (dA ddX7_copy (i := 44) rfl) (by decide) ?_
            refine x_V1 (pc := 91) mX7_74 h0 (c_X7_refuse hQ (i := 1) (by decide) rfl) cx (dA ddX7_copy (i := 45) rfl) (kI ?_)
            refine x_ireturn (pc := 94) cx (dA ddX7_copy (i := 46) rfl) (by first | exact Nat.le_of_ble_eq_true rfl | omega) (by first | exact Nat.le_of_ble_eq_true rfl | omega) ?_
            exact pCI.r hO (by decide) (by rw [fCopy_b C (ep.trans ea) (eq.trans eb), if_pos c85])
        · obtain ⟨q7, rb, q8, -⟩ := hO.1.shr hq eb
          refine x_V1 (pc := 31) mX7_99 h0 (c_X7_ruleAt hQ) cx (dA ddX7_copy (i := 16) rfl) (kR ?_)
          rw [q8, show va_rf (some rb) = .ref rb from rfl]
          refine x_ifnull_s (pc := 34) cx (dA ddX7_copy (i := 17) rfl) ?_
          refine x_aload_n (pc := 37) cx (dA ddX7_copy (i := 18) rfl) rfl ?_
          refine x_bipush (pc := 38) (v := -3) cx (dA ddX7_copy (i := 19) rfl) (by decide) ?_
          refine x_V1 (pc := 40) mX7_74 h0 (c_X7_refuse hQ (i := 1) (by decide) rfl) cx (dA ddX7_copy (i := 20) rfl) (kI ?_)
          refine x_ireturn (pc := 43) cx (dA ddX7_copy (i := 21) rfl) (by first | exact Nat.le_of_ble_eq_true rfl | omega) (by first | exact Nat.le_of_ble_eq_true rfl | omega) ?_
          exact pCI.r hO (by decide) (fCopy_r2 C (eq.trans eb))
      · obtain ⟨p7, ra, p8, -⟩ := hO.1.shr hp ea
        refine x_V1 (pc := 23) mX7_99 h0 (c_X7_ruleAt hQ) cx (dA ddX7_copy (i := 12) rfl) (kR ?_)
        rw [p8, show va_rf (some ra) = .ref ra from rfl]
        refine x_ifnonnull_s (pc := 26) (tgt := 37) cx (dA ddX7_copy (i := 13) rfl) (by decide) ?_
        refine x_aload_n (pc := 37) cx (dA ddX7_copy (i := 18) rfl) rfl ?_
        refine x_bipush (pc := 38) (v := -3) cx (dA ddX7_copy (i := 19) rfl) (by decide) ?_
        refine x_V1 (pc := 40) mX7_74 h0 (c_X7_refuse hQ (i := 1) (by decide) rfl) cx (dA ddX7_copy (i := 20) rfl) (kI ?_)
        refine x_ireturn (pc := 43) cx (dA ddX7_copy (i := 21) rfl) (by first | exact Nat.le_of_ble_eq_true rfl | omega) (by first | exact Nat.le_of_ble_eq_true rfl | omega) ?_
        exact pCI.r hO (by decide) (fCopy_r1 C (ep.trans ea))
    · have cq := b2i_eq c11
      refine x_aload_n (pc := 14) cx (dA ddX7_copy (i := 6) rfl) rfl ?_
      refine x_bipush (pc := 15) (v := -2) cx (dA ddX7_copy (i := 7) rfl) (by decide) ?_
      refine x_V1 (pc := 17) mX7_74 h0 (c_X7_refuse hQ (i := 0) (by decide) rfl) cx (dA ddX7_copy (i := 8) rfl) (kI ?_)
      refine x_ireturn (pc := 20) cx (dA ddX7_copy (i := 9) rfl) (by first | exact Nat.le_of_ble_eq_true rfl | omega) (by first | exact Nat.le_of_ble_eq_true rfl | omega) ?_
      first | exact pCI.r hO (by decide) (if_neg (fun q => cp q.1)) | exact pCI.r hO (by decide) (if_neg (fun q => cq q.2))
theorem c_X7_house {l : Launch} {Z : zP} {G : zG} {V : zV} {x : Nat} {col : Nat → Nat} {S : SX} (hRC : RC Z G V x col S) : CT l Z yX7_house cX7_house 2 (some .int) 8 0 0 [.ref x] G V (pCI Z G V x col (fHouse S)) := by
  refine CT.of (by decide +kernel) (Nat.le_of_ble_eq_true rfl) (fun X hX cx => ?_)
  subst hX
  show Wm Z X 2 G V 0 0 _ 0 [(0, some (.ref x))] []
  have hQ := hRC.1
  have h0 := hQ.1
  have hWd := hRC.2.2.2.2.1
  have hO := RO.refl hRC
  have c66 := hWd.2.1
  have hT := hRC.2.2.2.2.2.2.1
  have hT3 := hT.2.2.1
  have hTA := hQ.2.2.2.1.2
  have hDr := hQ.2.2.2.2.2.2.2.2.2.2.1.2
  refine x_aload_n (pc := 0) cx (dA ddX7_house (i := 0) rfl) rfl ?_
  refine gX7_10 (pc := 1) (rfA hQ.2.1.1) cx (dA ddX7_house (i := 1) rfl) h0 ?_
  refine x_V0 (pc := 4) mX7_145 hQ.2.1.2.1 (c_X6_isFull hQ.2.1.2 hWd.1 c66) cx (dA ddX7_house (i := 2) rfl) (kI ?_)
  refine x_if_eq (pc := 7) (tgt := 17) cx (dA ddX7_house (i := 3) rfl) (by decide) (fun c7 => ?_) (fun c7 => ?_)
  · have c5 : S.1.1 < 6 := by have := b2i_eq c7; omega
    refine x_aload_n (pc := 17) cx (dA ddX7_house (i := 8) rfl) rfl ?_
    refine gX7_22 (pc := 18) (rfA hQ.2.2.2.1.1) cx (dA ddX7_house (i := 9) rfl) h0 ?_
    refine x_aload_n (pc := 21) cx (dA ddX7_house (i := 10) rfl) rfl ?_
    refine gX7_59 (pc := 22) (rfA hQ.2.2.2.2.2.2.2.2.2.2.1.1) cx (dA ddX7_house (i := 11) rfl) h0 ?_
    obtain ⟨o, M, hres⟩ : ∃ o M, rdL S.2.2.1.1 S.2.2.1.2 161 clearP (adv S.2.2.1.1 S.2.2.1.2 0) = (o, M) := ⟨_, _, rfl⟩
    refine x_V1 (pc := 25) mX7_149 hTA.1 (c_X4_readInto hTA hDr (by omega) hT) cx (dA ddX7_house (i := 12) rfl) (kEx fun τ => ?_)
    rw [hres]
    have hTr := hT.rd (h := x + 65) (by omega) (N := M) (τ := τ)
    refine x_istore_n (pc := 28) cx (dA ddX7_house (i := 13) rfl) (by decide) rfl ?_
    refine x_aload_n (pc := 29) cx (dA ddX7_house (i := 14) rfl) rfl ?_
    refine gX7_22 (pc := 30) (rfA hQ.2.2.2.1.1) cx (dA ddX7_house (i := 15) rfl) h0 ?_
    refine x_V0 (pc := 33) mX7_141 hTA.1 (c_X4_clear hTA hTr) cx (dA ddX7_house (i := 16) rfl) (kI ?_)
    refine x_pop (pc := 36) cx rfl (dA ddX7_house (i := 17) rfl) ?_
    refine x_iload_n (pc := 37) cx (dA ddX7_house (i := 18) rfl) rfl ?_
    refine x_iconst (pc := 38) (v := -1) cx (dA ddX7_house (i := 19) rfl) (by decide) ?_
    rcases (show o = none ∨ ∃ f, o = some f by cases o with | none => exact Or.inl rfl | some f => exact Or.inr ⟨f, rfl⟩) with rfl | ⟨f, rfl⟩
    · have ok2 := rdL_OK _ _ _ (adv_tk (Nat.zero_le _)) HOK_clear zzN_clear NZ_clear M hres
      refine x_icmp_ne (pc := 39) (tgt := 54) cx (dA ddX7_house (i := 20) rfl) (by decide) (fun c39 => absurd rfl c39) (fun c39 => ?_)
      refine x_aload_n (pc := 42) cx (dA ddX7_house (i := 21) rfl) rfl ?_
      refine gX7_10 (pc := 43) (rfA hQ.2.1.1) cx (dA ddX7_house (i := 22) rfl) h0 ?_
      refine x_aload_n (pc := 46) cx (dA ddX7_house (i := 23) rfl) rfl ?_
      refine gX7_59 (pc := 47) (rfA hQ.2.2.2.2.2.2.2.2.2.2.1.1) cx (dA ddX7_house (i := 24) rfl) h0 ?_
      have hd1 : (sI (rdV V (x + 35) (x + 65) M τ) 201 (x + 35) (nI 0)).1 302 (x + 1) = S.1.2.2.1 := (((((same4.refl V _).rd2 (by omega) (by omega)).sI (by omega)).1 302)).trans hWd.2.2.2.1
      refine x_V1 (pc := 50) mX7_153 hQ.2.1.2.1 (c_X6_add (V := (sI (rdV V (x + 35) (x + 65) M τ) 201 (x + 35) (nI 0))) hQ.2.1.2 (((((same4.refl V _).rd2 (by omega) (by omega)).sI (by omega)).1 301).trans hWd.1) c5 hDr) cx (dA ddX7_house (i := 25) rfl) (kI ?_)
      refine x_ireturn (pc := 53) cx (dA ddX7_house (i := 26) rfl) (by first | exact Nat.le_of_ble_eq_true rfl | omega) (by first | exact Nat.le_of_ble_eq_true rfl | omega) ?_
      exact pCI.g (S' := (putT (putW S (addW S.1 M)) (S.2.2.1.1, 0))) (by unfold fHouse; rw [if_neg (by omega), hres]) (hRC.tg (S' := (putT (putW S (addW S.1 M)) (S.2.2.1.1, 0))) (T := fun a => a = x + 1 ∨ a = x + 35 ∨ a = x + 66 ∨ a = x + 1 + 5 + 2 * S.1.1 + 1) (gW.refl G x) (fun _ _ => rfl) hRC.2.2.2.1 (fun a _ _ hT => ⟨sameG.refl G a, ((((same4.refl V a).rd2 (by omega) (by omega)).sI (by omega)).rAI (by omega)).sI (by omega)⟩) (fun a ha e => by rcases hRC.out3 e with q | q <;> omega) (Or.inr (hWd.hs (Nat.le_refl _) (fun _ _ => rfl) (fun a _ h2 => by have o := hRC.out3 h2; exact ⟨sameG.refl G a, ((((same4.refl V a).rd2 (by omega) (by omega)).sI (by omega)).rAI (by omega)).sI (by omega)⟩) (sameG.refl G _) (((((same4.refl V _).rd2 (by omega) (by omega)).sI (by omega)).rAI (by omega)).sI (by omega)) (((((same4.refl V _).rd2 (by omega) (by omega)).sI (by omega)).rAI (by omega)).sI (by omega)) sI_eq (show S.1.1 + 1 ≤ 6 by omega) (alt_hh (V := V) (n := S.1.1 + 1) (fun j hj hne => hWd.2.2.1 j (by omega)) ⟨fun j hj => (rAI_at hj).trans (rAI_at hj), ok2.1, ok2.2⟩ (fun j hj _ => ((((same4.refl V _).rd2 (by omega) (by omega)).sI (by omega)).rAI (by omega)).sI (by omega))) ((sI_ne (by decide)).trans hd1) rfl)) (Or.inl ⟨fun a _ _ => by omega, by omega, rfl⟩) (Or.inr ⟨(sI_na (show x + 35 ≠ x + 1 by omega)).trans sI_eq, fun j hj => (rAI_ne (by omega) j).trans (hTr.2.1 j hj), Nat.zero_le _, hT.2.2.2⟩) (Or.inl ⟨by omega, by omega, fun a ha e => by rcases hRC.out2 ha with q | q <;> omega, rfl⟩) (Or.inl ⟨by omega, rfl⟩) (fun i hi => Or.inl fun a _ _ => by omega) (Or.inl fun a _ _ => by omega) (Or.inl fun a _ _ => by omega)) (Nat.le_refl _) (fun _ _ => rfl) (fun a _ ha => by have o := hRC.out0 ha; exact ⟨sameG.refl G a, ((((same4.refl V a).rd2 (by omega) (by omega)).sI (by omega)).rAI (by omega)).sI (by omega)⟩)
    · have rf := rdL_lt _ _ _ (adv_tk (Nat.zero_le _)) HOK_clear zzN_clear f M hres
      refine x_icmp_ne (pc := 39) (tgt := 54) cx (dA ddX7_house (i := 20) rfl) (by decide) (fun c39 => ?_) (fun c39 => absurd c39 (fun e => by have := (nhV_m1 (o := some f) (fun v hv => by cases hv; omega)).mp e; cases this))
      refine x_aload_n (pc := 54) cx (dA ddX7_house (i := 27) rfl) rfl ?_
      refine x_bipush (pc := 55) (v := -2) cx (dA ddX7_house (i := 28) rfl) (by decide) ?_
      refine x_V1 (pc := 57) mX7_74 h0 (c_X7_refuse hQ (i := 0) (by decide) rfl) cx (dA ddX7_house (i := 29) rfl) (kI ?_)
      refine x_pop (pc := 60) cx rfl (dA ddX7_house (i := 30) rfl) ?_
      refine x_bipush (pc := 61) (v := -20) cx (dA ddX7_house (i := 31) rfl) (by decide) ?_
      refine x_iload_n (pc := 63) cx (dA ddX7_house (i := 32) rfl) rfl ?_
      refine x_isub (pc := 64) cx (dA ddX7_house (i := 33) rfl) ?_
      refine x_ireturn (pc := 65) cx (dA ddX7_house (i := 34) rfl) (by first | exact Nat.le_of_ble_eq_true rfl | omega) (by first | exact Nat.le_of_ble_eq_true rfl | omega) ?_
      have r3 : RC Z G (sI (rdV V (x + 35) (x + 65) M τ) 201 (x + 35) (nI 0)) x col (putT S (S.2.2.1.1, 0)) := (hRC.tg (S' := (putT S (S.2.2.1.1, 0))) (T := fun a => a = x + 35 ∨ a = x + 66) (gW.refl G x) (fun _ _ => rfl) hRC.2.2.2.1 (fun a _ _ hT => ⟨sameG.refl G a, ((same4.refl V a).rd2 (by omega) (by omega)).sI (by omega)⟩) (fun a ha e => by rcases hRC.out3 e with q | q <;> omega) (Or.inl ⟨fun a _ _ => by omega, rfl⟩) (Or.inl ⟨fun a _ _ => by omega, by omega, rfl⟩) (Or.inr ⟨sI_eq, fun j hj => hTr.2.1 j hj, Nat.zero_le _, hT.2.2.2⟩) (Or.inl ⟨by omega, by omega, fun a ha e => by rcases hRC.out2 ha with q | q <;> omega, rfl⟩) (Or.inl ⟨by omega, rfl⟩) (fun i hi => Or.inl fun a _ _ => by omega) (Or.inl fun a _ _ => by omega) (Or.inl fun a _ _ => by omega))
      exact pCI.g (S' := refX (putT S (S.2.2.1.1, 0)) 0) (by unfold fHouse; rw [if_neg (by omega), hres]; rfl) (r3.ref (i := 0) (by decide)) (Nat.le_refl _) (fun _ _ => rfl) (fun a _ ha => by have o := hRC.out0 ha; exact ⟨sameG.refl G a, (((same4.refl V a).rd2 (by omega) (by omega)).sI (by omega)).sAI (by omega)⟩)
  · have c6 : S.1.1 = 6 := by have := b2i_ne c7; omega
    refine x_aload_n (pc := 10) cx (dA ddX7_house (i := 4) rfl) rfl ?_
    refine x_bipush (pc := 11) (v := -6) cx (dA ddX7_house (i := 5) rfl) (by decide) ?_
    refine x_V1 (pc := 13) mX7_74 h0 (c_X7_refuse hQ (i := 4) (by decide) rfl) cx (dA ddX7_house (i := 6) rfl) (kI ?_)
    refine x_ireturn (pc := 16) cx (dA ddX7_house (i := 7) rfl) (by first | exact Nat.le_of_ble_eq_true rfl | omega) (by first | exact Nat.le_of_ble_eq_true rfl | omega) ?_
    exact pCI.r hO (by decide) (by unfold fHouse; rw [if_pos c6])
