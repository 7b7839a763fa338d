theorem sAI_nk {V : zV} {a i x j : Nat} {v : Int32} (h : j ≠ i) : (sAI V a i v).2.2.1 x j = V.2.2.1 x j := u2_snd _ _ h
section CP
variable {S : SX} {p q i j n : Int32}
theorem fCopy_r1 {a} (C : oks p ∧ oks q) (h : shX S p = some (.inr a)) : fCopy S p q i j n = (-3, refX S 1) := by
  unfold fCopy
  rw [if_pos C, h]
theorem fCopy_r2 {b} (C : oks p ∧ oks q) (h : shX S q = some (.inr b)) : fCopy S p q i j n = (-3, refX S 1) := by
  unfold fCopy
  rw [if_pos C, h]
  rcases shX S p with _ | (b | b) <;> rfl
theorem fCopy_n1 (C : oks p ∧ oks q) (h : shX S p = none) (h2 : ∀ b, shX S q ≠ some (.inr b)) : fCopy S p q i j n = (-4, refX S 2) := by
  unfold fCopy
  rw [if_pos C, h]
  match e : shX S q with
  | none => rfl
  | some (.inl b) => rfl
  | some (.inr b) => exact absurd e (h2 b)
theorem fCopy_n2 {a} (C : oks p ∧ oks q) (h : shX S p = some (.inl a)) (h2 : shX S q = none) : fCopy S p q i j n = (-4, refX S 2) := by
  unfold fCopy
  rw [if_pos C, h, h2]
theorem fCopy_b {a b} (C : oks p ∧ oks q) (h : shX S p = some (.inl a)) (h2 : shX S q = some (.inl b)) : fCopy S p q i j n = if a.1 ≠ b.1 then (-3, refX S 1) else if (0 ≤ i.toInt ∧ 0 ≤ n.toInt ∧ i.toInt + n.toInt ≤ (a.2.1 : Int)) ∧ 0 ≤ j.toInt ∧ 0 ≤ n.toInt ∧ j.toInt + n.toInt ≤ (b.2.1 : Int) then (n, putS S (tn q) (some (.inl (b.1, b.2.1, fun z => if tn j ≤ z ∧ z < tn j + tn n then a.2.2 (tn i + (z - tn j)) else b.2.2 z)))) else bad S := by
  unfold fCopy
  rw [if_pos C, h, h2]
end CP
theorem mayP_rule {k a : Int32} (h : mayP k a) : 1 ≤ k.toInt ∧ k.toInt ≤ 5 := by
  unfold mayP at h
  omega
theorem mayP_ru {k a : Int32} (h : mayP k a) : (tn k = 1 → uN a ≤ 99) ∧ (tn k = 2 → 1 ≤ uN a ∧ uN a ≤ 6) ∧ (tn k = 3 → uN a < 1000 ∧ 1 ≤ uN a % 10 ∧ uN a % 10 ≤ 6) := by
  have hk := mayP_rule h
  unfold mayP at h
  refine ⟨fun e => ?_, fun e => ?_, fun e => ?_⟩
  · have e1 : k.toInt = 1 := by unfold tn at e; omega
    rw [uN_tn (by omega)]
    unfold tn
    omega
  · have e1 : k.toInt = 2 := by unfold tn at e; omega
    rw [uN_tn (by omega)]
    unfold tn
    omega
  · have e1 : k.toInt = 3 := by unfold tn at e; omega
    have h3 : 0 ≤ a.toInt ∧ a.toInt / 10 ≤ 99 ∧ 1 ≤ a.toInt % 10 ∧ a.toInt % 10 ≤ 6 := by omega
    rw [uN_tn h3.1]
    unfold tn
    omega
theorem c_X8_copy {l : Launch} {Z : zP} {G : zG} {V : zV} {y : Nat} {zk : Option Nat} {S : SX} (hRM : RM Z G V y zk S) {p q i j n : Int32} : CT l Z yX8_copy cX8_copy 7 (some .int) 2 0 0 [.ref y, .int p, .int q, .int i, .int j, .int n] G V (pMI Z G V y zk (fCopy S p q i j n)) := by
  refine CT.of (by decide +kernel) (Nat.le_of_ble_eq_true rfl) (fun X hX cx => ?_)
  subst hX
  show Wm Z X 7 G V 0 0 _ 0 [(0, some (.ref y)), (1, some (.int p)), (2, some (.int q)), (3, some (.int i)), (4, some (.int j)), (5, some (.int n))] []
  have hM := hRM.1
  have h0 := hM.1
  have hc := hRM.2.2.1.1
  have c6 := hRM.2.2.1.2.1
  have hmu := hRM.2.2.2.2.2.2.1
  refine x_iload_n (pc := 0) cx (dA ddX8_copy (i := 0) rfl) rfl ?_
  refine x_i2l (pc := 1) cx (dA ddX8_copy (i := 1) rfl) ?_
  refine x_lconst (pc := 2) (v := lN 0) cx (dA ddX8_copy (i := 2) rfl) rfl ?_
  refine x_ldc2 (pc := 3) cx klX8_113 (dA ddX8_copy (i := 3) rfl) ?_
  refine x_S3 (pc := 6) mX8_94 c_X8_in cx (dA ddX8_copy (i := 4) rfl) (kI ?_)
  rw [l0_toInt, tl_toInt, show (lN 7).toInt = 7 from rfl]
  refine x_if_eq (pc := 9) (tgt := 24) cx (dA ddX8_copy (i := 5) rfl) (by decide) (fun c9 => ?_) (fun c9 => ?_)
  · have c9 := b2i_eq c9
    refine x_aload_n (pc := 24) cx (dA ddX8_copy (i := 12) rfl) rfl ?_
    refine x_bipush (pc := 25) (v := -2) cx (dA ddX8_copy (i := 13) rfl) (by decide) ?_
    refine x_V1 (pc := 27) mX8_119 h0 (c_X8_refuse hM (i := 0) (by decide) rfl) cx (dA ddX8_copy (i := 14) rfl) (kI ?_)
    refine x_ireturn (pc := 30) cx (dA ddX8_copy (i := 15) rfl) (by first | exact Nat.le_of_ble_eq_true rfl | omega) (by first | exact Nat.le_of_ble_eq_true rfl | omega) ?_
    first | exact pMI.r hRM (by decide) (if_neg (fun q => by have z := q.1; exact c9 ⟨z.1, by have := z.2; omega⟩))
  · have cp := b2i_ne c9
    obtain ⟨p, hp, rfl, tp⟩ := i32_in (x := p) (n := 8) ⟨cp.1, by have := cp.2; omega⟩
    have cp : oks (nI p) := ⟨cp.1, by have := cp.2; omega⟩
    refine x_iload_n (pc := 12) cx (dA ddX8_copy (i := 6) rfl) rfl ?_
    refine x_i2l (pc := 13) cx (dA ddX8_copy (i := 7) rfl) ?_
    refine x_lconst (pc := 14) (v := lN 0) cx (dA ddX8_copy (i := 8) rfl) rfl ?_
    refine x_ldc2 (pc := 15) cx klX8_113 (dA ddX8_copy (i := 9) rfl) ?_
    refine x_S3 (pc := 18) mX8_94 c_X8_in cx (dA ddX8_copy (i := 10) rfl) (kI ?_)
    rw [l0_toInt, tl_toInt, show (lN 7).toInt = 7 from rfl]
    refine x_if_ne (pc := 21) (tgt := 31) cx (dA ddX8_copy (i := 11) rfl) (by decide) (fun c21 => ?_) (fun c21 => ?_)
    · have cq := b2i_ne c21
      obtain ⟨q, hq, rfl, tq⟩ := i32_in (x := q) (n := 8) ⟨cq.1, by have := cq.2; omega⟩
      have cq : oks (nI q) := ⟨cq.1, by have := cq.2; omega⟩
      have C : oks (nI p) ∧ oks (nI q) := ⟨cp, cq⟩
      have sp := hRM.2.2.2.1 p hp
      have sq := hRM.2.2.2.1 q hq
      have ep : shX S (nI p) = S.2.2.2.1 p := shX_at hp
      have eq : shX S (nI q) = S.2.2.2.1 q := shX_at hq
      refine x_aload_n (pc := 31) cx (dA ddX8_copy (i := 16) rfl) rfl ?_
      refine gX8_7 (pc := 32) (rfA hM.2.1.1) cx (dA ddX8_copy (i := 17) rfl) h0 ?_
      refine x_iload_n (pc := 35) cx (dA ddX8_copy (i := 18) rfl) rfl ?_
      refine x_iaload (pc := 36) cx (dA ddX8_copy (i := 19) rfl) hM.2.1.2 (by omega) (by decide) ?_
      refine x_iconst (pc := 37) (v := nI 2) cx (dA ddX8_copy (i := 20) rfl) (by decide) ?_
      refine x_icmp_eq (pc := 38) (tgt := 86) cx (dA ddX8_copy (i := 21) rfl) (by decide) (fun c38 => ?_) (fun c38 => ?_)
      · obtain ⟨a, ha⟩ := sp.i2 c38
        refine x_aload_n (pc := 86) cx (dA ddX8_copy (i := 49) rfl) rfl ?_
        refine x_bipush (pc := 87) (v := -3) cx (dA ddX8_copy (i := 50) rfl) (by decide) ?_
        refine x_V1 (pc := 89) mX8_119 h0 (c_X8_refuse hM (i := 1) (by decide) rfl) cx (dA ddX8_copy (i := 51) rfl) (kI ?_)
        refine x_ireturn (pc := 92) cx (dA ddX8_copy (i := 52) rfl) (by first | exact Nat.le_of_ble_eq_true rfl | omega) (by first | exact Nat.le_of_ble_eq_true rfl | omega) ?_
        exact pMI.r hRM (by decide) (fCopy_r1 C (ep.trans ha))
      · refine x_aload_n (pc := 41) cx (dA ddX8_copy (i := 22) rfl) rfl ?_
        refine gX8_7 (pc := 42) (rfA hM.2.1.1) cx (dA ddX8_copy (i := 23) rfl) h0 ?_
        refine x_iload_n (pc := 45) cx (dA ddX8_copy (i := 24) rfl) rfl ?_
        refine x_iaload (pc := 46) cx (dA ddX8_copy (i := 25) rfl) hM.2.1.2 (by omega) (by decide) ?_
        refine x_iconst (pc := 47) (v := nI 2) cx (dA ddX8_copy (i := 26) rfl) (by decide) ?_
        refine x_icmp_eq (pc := 48) (tgt := 86) cx (dA ddX8_copy (i := 27) rfl) (by decide) (fun c48 => ?_) (fun c48 => ?_)
        · obtain ⟨b, hb⟩ := sq.i2 c48
          refine x_aload_n (pc := 86) cx (dA ddX8_copy (i := 49) rfl) rfl ?_
          refine x_bipush (pc := 87) (v := -3) cx (dA ddX8_copy (i := 50) rfl) (by decide) ?_
          refine x_V1 (pc := 89) mX8_119 h0 (c_X8_refuse hM (i := 1) (by decide) rfl) cx (dA ddX8_copy (i := 51) rfl) (kI ?_)
          refine x_ireturn (pc := 92) cx (dA ddX8_copy (i := 52) rfl) (by first | exact Nat.le_of_ble_eq_true rfl | omega) (by first | exact Nat.le_of_ble_eq_true rfl | omega) ?_
          exact pMI.r hRM (by decide) (fCopy_r2 C (eq.trans hb))
        · refine x_aload_n (pc := 51) cx (dA ddX8_copy (i := 28) rfl) rfl ?_
          refine gX8_7 (pc := 52) (rfA hM.2.1.1) cx (dA ddX8_copy (i := 29) rfl) h0 ?_
          refine x_iload_n (pc := 55) cx (dA ddX8_copy (i := 30) rfl) rfl ?_
          refine x_iaload (pc := 56) cx (dA ddX8_copy (i := 31) rfl) hM.2.1.2 (by omega) (by decide) ?_
          refine x_iconst (pc := 57) (v := nI 1) cx (dA ddX8_copy (i := 32) rfl) (by decide) ?_
          refine x_icmp_ne (pc := 58) (tgt := 93) cx (dA ddX8_copy (i := 33) rfl) (by decide) (fun c58 => ?_) (fun c58 => ?_)
          · refine x_aload_n (pc := 93) cx (dA ddX8_copy (i := 53) rfl) rfl ?_
            refine gX8_7 (pc := 94) (rfA hM.2.1.1) cx (dA ddX8_copy (i := 54) rfl) h0 ?_
            refine x_iload_n (pc := 97) cx (dA ddX8_copy (i := 55) rfl) rfl ?_
            refine x_iaload (pc := 98) cx (dA ddX8_copy (i := 56) rfl) hM.2.1.2 (by omega) (by decide) ?_
            refine x_if_eq (pc := 99) (tgt := 111) cx (dA ddX8_copy (i := 57) rfl) (by decide) (fun c99 => ?_) (fun c99 => ?_)
            · have ha := sp.i0 c99
              refine x_aload_n (pc := 111) cx (dA ddX8_copy (i := 63) rfl) rfl ?_
              refine x_bipush (pc := 112) (v := -4) cx (dA ddX8_copy (i := 64) rfl) (by decide) ?_
              refine x_V1 (pc := 114) mX8_119 h0 (c_X8_refuse hM (i := 2) (by decide) rfl) cx (dA ddX8_copy (i := 65) rfl) (kI ?_)
              refine x_ireturn (pc := 117) cx (dA ddX8_copy (i := 66) rfl) (by first | exact Nat.le_of_ble_eq_true rfl | omega) (by first | exact Nat.le_of_ble_eq_true rfl | omega) ?_
              exact pMI.r hRM (by decide) (fCopy_n1 C (ep.trans ha) (fun b hb => c48 ((sq.2.2 b (eq.symm.trans hb)).1)))
            · obtain ⟨a, ha⟩ := sp.n20 c38 c99
              exact absurd (sp.2.1 a ha).1 c58
          · obtain ⟨a, ha⟩ := sp.i1 c58
            obtain ⟨p0, p1, p2, p3, p4, p5⟩ := sp.2.1 a ha
            refine x_aload_n (pc := 61) cx (dA ddX8_copy (i := 34) rfl) rfl ?_
            refine gX8_7 (pc := 62) (rfA hM.2.1.1) cx (dA ddX8_copy (i := 35) rfl) h0 ?_
            refine x_iload_n (pc := 65) cx (dA ddX8_copy (i := 36) rfl) rfl ?_
            refine x_iaload (pc := 66) cx (dA ddX8_copy (i := 37) rfl) hM.2.1.2 (by omega) (by decide) ?_
            refine x_iconst (pc := 67) (v := nI 1) cx (dA ddX8_copy (i := 38) rfl) (by decide) ?_
            refine x_icmp_ne (pc := 68) (tgt := 93) cx (dA ddX8_copy (i := 39) rfl) (by decide) (fun c68 => ?_) (fun c68 => ?_)
            · refine x_aload_n (pc := 93) cx (dA ddX8_copy (i := 53) rfl) rfl ?_
              refine gX8_7 (pc := 94) (rfA hM.2.1.1) cx (dA ddX8_copy (i := 54) rfl) h0 ?_
              refine x_iload_n (pc := 97) cx (dA ddX8_copy (i := 55) rfl) rfl ?_
              refine x_iaload (pc := 98) cx (dA ddX8_copy (i := 56) rfl) hM.2.1.2 (by omega) (by decide) ?_
              refine x_if_eq (pc := 99) (tgt := 111) cx (dA ddX8_copy (i := 57) rfl) (by decide) (fun c99 => absurd c99 (fun e => by rw [p0] at e; exact absurd e (by decide))) (fun c99 => ?_)
              refine x_aload_n (pc := 102) cx (dA ddX8_copy (i := 58) rfl) rfl ?_
              refine gX8_7 (pc := 103) (rfA hM.2.1.1) cx (dA ddX8_copy (i := 59) rfl) h0 ?_
              refine x_iload_n (pc := 106) cx (dA ddX8_copy (i := 60) rfl) rfl ?_
              refine x_iaload (pc := 107) cx (dA ddX8_copy (i := 61) rfl) hM.2.1.2 (by omega) (by decide) ?_
              refine x_if_ne (pc := 108) (tgt := 118) cx (dA ddX8_copy (i := 62) rfl) (by decide) (fun c108 => ?_) (fun c108 => ?_)
              · obtain ⟨b, hb⟩ := sq.n20 c48 c108
                exact absurd (sq.2.1 b hb).1 c68
              · have hb := sq.i0 c108
                refine x_aload_n (pc := 111) cx (dA ddX8_copy (i := 63) rfl) rfl ?_
                refine x_bipush (pc := 112) (v := -4) cx (dA ddX8_copy (i := 64) rfl) (by decide) ?_
                refine x_V1 (pc := 114) mX8_119 h0 (c_X8_refuse hM (i := 2) (by decide) rfl) cx (dA ddX8_copy (i := 65) rfl) (kI ?_)
                refine x_ireturn (pc := 117) cx (dA ddX8_copy (i := 66) rfl) (by first | exact Nat.le_of_ble_eq_true rfl | omega) (by first | exact Nat.le_of_ble_eq_true rfl | omega) ?_
                exact pMI.r hRM (by decide) (fCopy_n2 C (ep.trans ha) (eq.trans hb))
            · obtain ⟨b, hb⟩ := sq.i1 c68
              obtain ⟨q0, q1, q2, q3, q4, q5⟩ := sq.2.1 b hb
              refine x_aload_n (pc := 71) cx (dA ddX8_copy (i := 40) rfl) rfl ?_
              refine gX8_13 (pc := 72) (rfA hM.2.2.1.1) cx (dA ddX8_copy (i := 41) rfl) h0 ?_
              refine x_iload_n (pc := 75) cx (dA ddX8_copy (i := 42) rfl) rfl ?_
              refine x_iaload (pc := 76) cx (dA ddX8_copy (i := 43) rfl) hM.2.2.1.2 (by omega) (by decide) ?_
              rw [p1]
              refine x_aload_n (pc := 77) cx (dA ddX8_copy (i := 44) rfl) rfl ?_
              refine gX8_13 (pc := 78) (rfA hM.2.2.1.1) cx (dA ddX8_copy (i := 45) rfl) h0 ?_
              refine x_iload_n (pc := 81) cx (dA ddX8_copy (i := 46) rfl) rfl ?_
              refine x_iaload (pc := 82) cx (dA ddX8_copy (i := 47) rfl) hM.2.2.1.2 (by omega) (by decide) ?_
              rw [q1]
              refine x_icmp_eq (pc := 83) (tgt := 93) cx (dA ddX8_copy (i := 48) rfl) (by decide) (fun c83 => ?_) (fun c83 => ?_)
              · have c83 := ceqT (by omega) (by omega) c83
                refine x_aload_n (pc := 93) cx (dA ddX8_copy (i := 53) rfl) rfl ?_
                refine gX8_7 (pc := 94) (rfA hM.2.1.1) cx (dA ddX8_copy (i := 54) rfl) h0 ?_
                refine x_iload_n (pc := 97) cx (dA ddX8_copy (i := 55) rfl) rfl ?_
                refine x_iaload (pc := 98) cx (dA ddX8_copy (i := 56) rfl) hM.2.1.2 (by omega) (by decide) ?_
                refine x_if_eq (pc := 99) (tgt := 111) cx (dA ddX8_copy (i := 57) rfl) (by decide) (fun c99 => absurd c99 (fun e => by rw [p0] at e; exact absurd e (by decide))) (fun c99 => ?_)
                refine x_aload_n (pc := 102) cx (dA ddX8_copy (i := 58) rfl) rfl ?_
                refine gX8_7 (pc := 103) (rfA hM.2.1.1) cx (dA ddX8_copy (i := 59) rfl) h0 ?_
                refine x_iload_n (pc := 106) cx (dA ddX8_copy (i := 60) rfl) rfl ?_
                refine x_iaload (pc := 107) cx (dA ddX8_copy (i := 61) rfl) hM.2.1.2 (by omega) (by decide) ?_
                refine x_if_ne (pc := 108) (tgt := 118) cx (dA ddX8_copy (i := 62) rfl) (by decide) (fun c108 => ?_) (fun c108 => absurd c108 (fun e => by rw [q0] at e; exact absurd e (by decide)))
                refine x_iload (pc := 118) cx (dA ddX8_copy (i := 67) rfl) rfl ?_
                refine x_if_lt (pc := 120) (tgt := 181) cx (dA ddX8_copy (i := 68) rfl) (by decide) (fun c120 => ?_) (fun c120 => ?_)
                · rw [i32_lt, toI_0] at c120
                  refine x_aload_n (pc := 181) cx (dA ddX8_copy (i := 101) rfl) rfl ?_
                  refine x_bipush (pc := 182) (v := -2) cx (dA ddX8_copy (i := 102) rfl) (by decide) ?_
                  refine x_V1 (pc := 184) mX8_119 h0 (c_X8_refuse hM (i := 0) (by decide) rfl) cx (dA ddX8_copy (i := 103) rfl) (kI ?_)
                  refine x_ireturn (pc := 187) cx (dA ddX8_copy (i := 104) rfl) (by first | exact Nat.le_of_ble_eq_true rfl | omega) (by first | exact Nat.le_of_ble_eq_true rfl | omega) ?_
                  exact pMI.r hRM (by decide) (by rw [fCopy_b C (ep.trans ha) (eq.trans hb), if_neg (fun z => z c83), if_neg (fun z => by omega)]; rfl)
                · rw [i32_lt, toI_0] at c120
                  refine x_iload_n (pc := 123) cx (dA ddX8_copy (i := 69) rfl) rfl ?_
                  refine x_if_lt (pc := 124) (tgt := 181) cx (dA ddX8_copy (i := 70) rfl) (by decide) (fun c124 => ?_) (fun c124 => ?_)
                  · rw [i32_lt, toI_0] at c124
                    refine x_aload_n (pc := 181) cx (dA ddX8_copy (i := 101) rfl) rfl ?_
                    refine x_bipush (pc := 182) (v := -2) cx (dA ddX8_copy (i := 102) rfl) (by decide) ?_
                    refine x_V1 (pc := 184) mX8_119 h0 (c_X8_refuse hM (i := 0) (by decide) rfl) cx (dA ddX8_copy (i := 103) rfl) (kI ?_)
                    refine x_ireturn (pc := 187) cx (dA ddX8_copy (i := 104) rfl) (by first | exact Nat.le_of_ble_eq_true rfl | omega) (by first | exact Nat.le_of_ble_eq_true rfl | omega) ?_
                    exact pMI.r hRM (by decide) (by rw [fCopy_b C (ep.trans ha) (eq.trans hb), if_neg (fun z => z c83), if_neg (fun z => by omega)]; rfl)
                  · rw [i32_lt, toI_0] at c124
                    refine x_iload (pc := 127) cx (dA ddX8_copy (i := 71) rfl) rfl ?_
                    refine x_if_lt (pc := 129) (tgt := 181) cx (dA ddX8_copy (i := 72) rfl) (by decide) (fun c129 => ?_) (fun c129 => ?_)
                    · rw [i32_lt, toI_0] at c129
                      refine x_aload_n (pc := 181) cx (dA ddX8_copy (i := 101) rfl) rfl ?_
                      refine x_bipush (pc := 182) (v := -2) cx (dA ddX8_copy (i := 102) rfl) (by decide) ?_
                      refine x_V1 (pc := 184) mX8_119 h0 (c_X8_refuse hM (i := 0) (by decide) rfl) cx (dA ddX8_copy (i := 103) rfl) (kI ?_)
                      refine x_ireturn (pc := 187) cx (dA ddX8_copy (i := 104) rfl) (by first | exact Nat.le_of_ble_eq_true rfl | omega) (by first | exact Nat.le_of_ble_eq_true rfl | omega) ?_
                      exact pMI.r hRM (by decide) (by rw [fCopy_b C (ep.trans ha) (eq.trans hb), if_neg (fun z => z c83), if_neg (fun z => by omega)]; rfl)
                    · rw [i32_lt, toI_0] at c129
                      refine x_iload (pc := 132) cx (dA ddX8_copy (i := 73) rfl) rfl ?_
                      refine x_aload_n (pc := 134) cx (dA ddX8_copy (i := 74) rfl) rfl ?_
                      refine gX8_16 (pc := 135) (rfA hM.2.2.2.1.1) cx (dA ddX8_copy (i := 75) rfl) h0 ?_
                      refine x_iload_n (pc := 138) cx (dA ddX8_copy (i := 76) rfl) rfl ?_
                      refine x_iaload (pc := 139) cx (dA ddX8_copy (i := 77) rfl) hM.2.2.2.1.2 (by omega) (by decide) ?_
                      rw [p3]
                      refine x_icmp_gt (pc := 140) (tgt := 181) cx (dA ddX8_copy (i := 78) rfl) (by decide) (fun c140 => ?_) (fun c140 => ?_)
                      · rw [i32_lt, nI_toInt (by omega)] at c140
                        refine x_aload_n (pc := 181) cx (dA ddX8_copy (i := 101) rfl) rfl ?_
                        refine x_bipush (pc := 182) (v := -2) cx (dA ddX8_copy (i := 102) rfl) (by decide) ?_
                        refine x_V1 (pc := 184) mX8_119 h0 (c_X8_refuse hM (i := 0) (by decide) rfl) cx (dA ddX8_copy (i := 103) rfl) (kI ?_)
                        refine x_ireturn (pc := 187) cx (dA ddX8_copy (i := 104) rfl) (by first | exact Nat.le_of_ble_eq_true rfl | omega) (by first | exact Nat.le_of_ble_eq_true rfl | omega) ?_
                        exact pMI.r hRM (by decide) (by rw [fCopy_b C (ep.trans ha) (eq.trans hb), if_neg (fun z => z c83), if_neg (fun z => by omega)]; rfl)
                      · rw [i32_lt, nI_toInt (by omega)] at c140
                        refine x_iload (pc := 143) cx (dA ddX8_copy (i := 79) rfl) rfl ?_
                        refine x_aload_n (pc := 145) cx (dA ddX8_copy (i := 80) rfl) rfl ?_
                        refine gX8_16 (pc := 146) (rfA hM.2.2.2.1.1) cx (dA ddX8_copy (i := 81) rfl) h0 ?_
                        refine x_iload_n (pc := 149) cx (dA ddX8_copy (i := 82) rfl) rfl ?_
                        refine x_iaload (pc := 150) cx (dA ddX8_copy (i := 83) rfl) hM.2.2.2.1.2 (by omega) (by decide) ?_
                        rw [q3]
                        refine x_icmp_gt (pc := 151) (tgt := 181) cx (dA ddX8_copy (i := 84) rfl) (by decide) (fun c151 => ?_) (fun c151 => ?_)
                        · rw [i32_lt, nI_toInt (by omega)] at c151
                          refine x_aload_n (pc := 181) cx (dA ddX8_copy (i := 101) rfl) rfl ?_
                          refine x_bipush (pc := 182) (v := -2) cx (dA ddX8_copy (i := 102) rfl) (by decide) ?_
                          refine x_V1 (pc := 184) mX8_119 h0 (c_X8_refuse hM (i := 0) (by decide) rfl) cx (dA ddX8_copy (i := 103) rfl) (kI ?_)
                          refine x_ireturn (pc := 187) cx (dA ddX8_copy (i := 104) rfl) (by first | exact Nat.le_of_ble_eq_true rfl | omega) (by first | exact Nat.le_of_ble_eq_true rfl | omega) ?_
                          exact pMI.r hRM (by decide) (by rw [fCopy_b C (ep.trans ha) (eq.trans hb), if_neg (fun z => z c83), if_neg (fun z => by omega)]; rfl)
                        · rw [i32_lt, nI_toInt (by omega)] at c151
                          obtain ⟨n, hn, rfl, tn9⟩ := i32_in (x := n) (n := 126) ⟨by omega, by omega⟩
                          rw [nI_toInt (by omega)] at c120 c140 c151
                          refine x_iload_n (pc := 154) cx (dA ddX8_copy (i := 85) rfl) rfl ?_
                          refine x_aload_n (pc := 155) cx (dA ddX8_copy (i := 86) rfl) rfl ?_
                          refine gX8_16 (pc := 156) (rfA hM.2.2.2.1.1) cx (dA ddX8_copy (i := 87) rfl) h0 ?_
                          refine x_iload_n (pc := 159) cx (dA ddX8_copy (i := 88) rfl) rfl ?_
                          refine x_iaload (pc := 160) cx (dA ddX8_copy (i := 89) rfl) hM.2.2.2.1.2 (by omega) (by decide) ?_
                          rw [p3]
                          refine x_iload (pc := 161) cx (dA ddX8_copy (i := 90) rfl) rfl ?_
                          refine x_isub (pc := 163) cx (dA ddX8_copy (i := 91) rfl) ?_
                          rw [pk_sub (by omega)]
                          refine x_icmp_gt (pc := 164) (tgt := 181) cx (dA ddX8_copy (i := 92) rfl) (by decide) (fun c164 => ?_) (fun c164 => ?_)
                          · rw [i32_lt, nI_toInt (by omega)] at c164
                            refine x_aload_n (pc := 181) cx (dA ddX8_copy (i := 101) rfl) rfl ?_
                            refine x_bipush (pc := 182) (v := -2) cx (dA ddX8_copy (i := 102) rfl) (by decide) ?_
                            refine x_V1 (pc := 184) mX8_119 h0 (c_X8_refuse hM (i := 0) (by decide) rfl) cx (dA ddX8_copy (i := 103) rfl) (kI ?_)
                            refine x_ireturn (pc := 187) cx (dA ddX8_copy (i := 104) rfl) (by first | exact Nat.le_of_ble_eq_true rfl | omega) (by first | exact Nat.le_of_ble_eq_true rfl | omega) ?_
                            exact pMI.r hRM (by decide) (by rw [fCopy_b C (ep.trans ha) (eq.trans hb), if_neg (fun z => z c83), if_neg (fun z => by have e := z.1.2.1; rw [nI_toInt (show n < 2 ^ 31 by omega)] at z; omega)]; rfl)
                          · rw [i32_lt, nI_toInt (by omega)] at c164
                            obtain ⟨i, hi, rfl, ti⟩ := i32_in (x := i) (n := 126) ⟨by omega, by omega⟩
                            refine x_iload (pc := 167) cx (dA ddX8_copy (i := 93) rfl) rfl ?_
                            refine x_aload_n (pc := 169) cx (dA ddX8_copy (i := 94) rfl) rfl ?_
                            refine gX8_16 (pc := 170) (rfA hM.2.2.2.1.1) cx (dA ddX8_copy (i := 95) rfl) h0 ?_
                            refine x_iload_n (pc := 173) cx (dA ddX8_copy (i := 96) rfl) rfl ?_
                            refine x_iaload (pc := 174) cx (dA ddX8_copy (i := 97) rfl) hM.2.2.2.1.2 (by omega) (by decide) ?_
                            rw [q3]
                            refine x_iload (pc := 175) cx (dA ddX8_copy (i := 98) rfl) rfl ?_
                            refine x_isub (pc := 177) cx (dA ddX8_copy (i := 99) rfl) ?_
                            rw [pk_sub (by omega)]
                            refine x_icmp_le (pc := 178) (tgt := 188) cx (dA ddX8_copy (i := 100) rfl) (by decide) (fun c178 => ?_) (fun c178 => ?_)
                            · rw [i32_le, nI_toInt (by omega)] at c178
                              obtain ⟨j, hj, rfl, tj⟩ := i32_in (x := j) (n := 126) ⟨by omega, by omega⟩
                              have Cr : (0 ≤ (nI i).toInt ∧ 0 ≤ (nI n).toInt ∧ (nI i).toInt + (nI n).toInt ≤ (a.2.1 : Int)) ∧ 0 ≤ (nI j).toInt ∧ 0 ≤ (nI n).toInt ∧ (nI j).toInt + (nI n).toInt ≤ (b.2.1 : Int) := by rw [nI_toInt (show n < 2 ^ 31 by omega)] at *; omega
                              have ci := Cr.1.2.2
                              have cj := Cr.2.2.2
                              rw [nI_toInt (show i < 2 ^ 31 by omega), nI_toInt (show n < 2 ^ 31 by omega)] at ci
                              rw [nI_toInt (show j < 2 ^ 31 by omega), nI_toInt (show n < 2 ^ 31 by omega)] at cj
                              refine x_iconst (pc := 188) (v := nI 0) cx (dA ddX8_copy (i := 105) rfl) (by decide) ?_
                              refine x_istore (pc := 189) cx (dA ddX8_copy (i := 106) rfl) (by decide) rfl ?_
                              have L191 : ∀ k, k ≤ n → Wm Z X 7 G (rAJ V (y + 13) 0 k (fun z => a.2.2 (i + z))) 0 0 (rQ Z X 0 0 (pMI Z G V y zk (fCopy S (nI p) (nI q) (nI i) (nI j) (nI n)))) 191 [(0, some (.ref y)), (1, some (.int (nI p))), (2, some (.int (nI q))), (3, some (.int (nI i))), (4, some (.int (nI j))), (5, some (.int (nI n))), (6, some (.int (nI k)))] [] := by
                                refine lpU n (fun k hk ih => ?_)
                                refine x_iload (pc := 191) cx (dA ddX8_copy (i := 107) rfl) rfl ?_
                                refine x_iload (pc := 193) cx (dA ddX8_copy (i := 108) rfl) rfl ?_
                                refine x_icmp_ge (pc := 195) (tgt := 222) cx (dA ddX8_copy (i := 109) rfl) (by decide) (fun c195 => ?_) (fun c195 => ?_)
                                · have c195 := cleT (by omega) (by omega) c195
                                  have ek : n = k := by omega
                                  subst ek
                                  refine x_iconst (pc := 222) (v := nI 0) cx (dA ddX8_copy (i := 124) rfl) (by decide) ?_
                                  refine x_istore (pc := 223) cx (dA ddX8_copy (i := 125) rfl) (by decide) rfl ?_
                                  have L225 : ∀ k, k ≤ n → Wm Z X 7 G (rAJ (rAJ V (y + 13) 0 n (fun z => a.2.2 (i + z))) (y + 4 + 1 + q) j k (fun z => a.2.2 (i + z))) 0 0 (rQ Z X 0 0 (pMI Z G V y zk (fCopy S (nI p) (nI q) (nI i) (nI j) (nI n)))) 225 [(0, some (.ref y)), (1, some (.int (nI p))), (2, some (.int (nI q))), (3, some (.int (nI i))), (4, some (.int (nI j))), (5, some (.int (nI n))), (6, some (.int (nI k)))] [] := by
                                    refine lpU n (fun k hk ih2 => ?_)
                                    refine x_iload (pc := 225) cx (dA ddX8_copy (i := 126) rfl) rfl ?_
                                    refine x_iload (pc := 227) cx (dA ddX8_copy (i := 127) rfl) rfl ?_
                                    refine x_icmp_ge (pc := 229) (tgt := 257) cx (dA ddX8_copy (i := 128) rfl) (by decide) (fun c229 => ?_) (fun c229 => ?_)
                                    · have c229 := cleT (by omega) (by omega) c229
                                      have ek : n = k := by omega
                                      subst ek
                                      refine x_iload (pc := 257) cx (dA ddX8_copy (i := 143) rfl) rfl ?_
                                      refine x_ireturn (pc := 259) cx (dA ddX8_copy (i := 144) rfl) (by first | exact Nat.le_of_ble_eq_true rfl | omega) (by first | exact Nat.le_of_ble_eq_true rfl | omega) ?_
                                      refine pMI.m (S' := putS S q (some (.inl (b.1, b.2.1, fun z => if j ≤ z ∧ z < j + n then a.2.2 (i + (z - j)) else b.2.2 z)))) (by rw [fCopy_b C (ep.trans ha) (eq.trans hb), if_neg (fun z => z c83), if_pos Cr, tq, tj, ti, tn9]) (hRM.put hq (fun a a1 a2 a3 a4 a5 a6 a7 a8 a9 => ((same4.refl V a).rAJ a4).rAJ a8) (fun a ha j hj => rfl) (ShM.mkr ?_))
                                      refine ⟨q0, q1, q2, q3, q4, fun z hz => ?_⟩
                                      show (rAJ _ (y + 4 + 1 + q) j n _).2.2.2 (y + 4 + 1 + q) z = if j ≤ z ∧ z < j + n then a.2.2 (i + (z - j)) else b.2.2 z
                                      by_cases e : j ≤ z ∧ z < j + n
                                      · rw [if_pos e, rAJ_off e.1 e.2]
                                      · rw [if_neg e, rAJ_out (by omega), rAJ_ne (by omega)]; exact q5 z hz
                                    · have c229 := cleF (by omega) (by omega) c229
                                      refine x_aload_n (pc := 232) cx (dA ddX8_copy (i := 129) rfl) rfl ?_
                                      refine gX8_21 (pc := 233) (rfA hM.2.2.2.2.1.1) cx (dA ddX8_copy (i := 130) rfl) h0 ?_
                                      refine x_iload_n (pc := 236) cx (dA ddX8_copy (i := 131) rfl) rfl ?_
                                      refine x_aaload (pc := 237) cx (dA ddX8_copy (i := 132) rfl) hM.2.2.2.2.1.2.1 (by decide) (by decide) hq (by decide) ?_
                                      rw [arA (hM.2.2.2.2.1.2.2 q hq).1]
                                      refine x_iload (pc := 238) cx (dA ddX8_copy (i := 133) rfl) rfl ?_
                                      refine x_iload (pc := 240) cx (dA ddX8_copy (i := 134) rfl) rfl ?_
                                      refine x_iadd (pc := 242) cx (dA ddX8_copy (i := 135) rfl) ?_
                                      rw [nI_add]
                                      refine x_aload_n (pc := 243) cx (dA ddX8_copy (i := 136) rfl) rfl ?_
                                      refine gX8_24 (pc := 244) (rfA hM.2.2.2.2.2.1.1) cx (dA ddX8_copy (i := 137) rfl) h0 ?_
                                      refine x_iload (pc := 247) cx (dA ddX8_copy (i := 138) rfl) rfl ?_
                                      refine x_laload (pc := 249) cx (dA ddX8_copy (i := 139) rfl) hM.2.2.2.2.2.1.2 (by omega) (by decide) ?_
                                      rw [show (rAJ (rAJ V (y + 13) 0 n (fun z => a.2.2 (i + z))) (y + 4 + 1 + q) j k (fun z => a.2.2 (i + z))).2.2.2 (y + 13) k = a.2.2 (i + k) from (rAJ_ne (by omega) _).trans (rAJ_at (by omega))]
                                      refine x_lastore (pc := 250) cx (dA ddX8_copy (i := 140) rfl) (hM.2.2.2.2.1.2.2 q hq).2 (by omega) (by decide) ?_
                                      rw [show sAJ (rAJ (rAJ V (y + 13) 0 n (fun z => a.2.2 (i + z))) (y + 4 + 1 + q) j k (fun z => a.2.2 (i + z))) (y + 4 + 1 + q) (j + k) (a.2.2 (i + k)) = (rAJ (rAJ V (y + 13) 0 n (fun z => a.2.2 (i + z))) (y + 4 + 1 + q) j (k + 1) (fun z => a.2.2 (i + z))) from rAJ_s _ _ _ _ _ rfl]
                                      refine x_iinc (pc := 251) cx (dA ddX8_copy (i := 141) rfl) rfl (iinc1 _) (by decide) rfl ?_
                                      refine x_goto (pc := 254) (tgt := 225) cx (dA ddX8_copy (i := 142) rfl) (by decide) ?_
                                      exact x_enter (ih2 (by omega)) ⟨.inr rfl, .inr rfl, .inr rfl, .inr rfl, .inr rfl, .inr rfl, .inr rfl, trivial⟩
                                  have L := L225 0 (Nat.zero_le _)
                                  rw [show (rAJ (rAJ V (y + 13) 0 n (fun z => a.2.2 (i + z))) (y + 4 + 1 + q) j 0 (fun z => a.2.2 (i + z))) = (rAJ V (y + 13) 0 n (fun z => a.2.2 (i + z))) from rAJ_0 _ _ _ _] at L
                                  exact x_enter L ⟨.inr rfl, .inr rfl, .inr rfl, .inr rfl, .inr rfl, .inr rfl, .inr rfl, trivial⟩
                                · have c195 := cleF (by omega) (by omega) c195
                                  refine x_aload_n (pc := 198) cx (dA ddX8_copy (i := 110) rfl) rfl ?_
                                  refine gX8_24 (pc := 199) (rfA hM.2.2.2.2.2.1.1) cx (dA ddX8_copy (i := 111) rfl) h0 ?_
                                  refine x_iload (pc := 202) cx (dA ddX8_copy (i := 112) rfl) rfl ?_
                                  refine x_aload_n (pc := 204) cx (dA ddX8_copy (i := 113) rfl) rfl ?_
                                  refine gX8_21 (pc := 205) (rfA hM.2.2.2.2.1.1) cx (dA ddX8_copy (i := 114) rfl) h0 ?_
                                  refine x_iload_n (pc := 208) cx (dA ddX8_copy (i := 115) rfl) rfl ?_
                                  refine x_aaload (pc := 209) cx (dA ddX8_copy (i := 116) rfl) hM.2.2.2.2.1.2.1 (by decide) (by decide) hp (by decide) ?_
                                  rw [arA (hM.2.2.2.2.1.2.2 p hp).1]
                                  refine x_iload_n (pc := 210) cx (dA ddX8_copy (i := 117) rfl) rfl ?_
                                  refine x_iload (pc := 211) cx (dA ddX8_copy (i := 118) rfl) rfl ?_
                                  refine x_iadd (pc := 213) cx (dA ddX8_copy (i := 119) rfl) ?_
                                  rw [nI_add]
                                  refine x_laload (pc := 214) cx (dA ddX8_copy (i := 120) rfl) (hM.2.2.2.2.1.2.2 p hp).2 (by omega) (by decide) ?_
                                  rw [show (rAJ V (y + 13) 0 k (fun z => a.2.2 (i + z))).2.2.2 (y + 4 + 1 + p) (i + k) = a.2.2 (i + k) from (rAJ_ne (by omega) _).trans (p5 _ (by omega))]
                                  refine x_lastore (pc := 215) cx (dA ddX8_copy (i := 121) rfl) hM.2.2.2.2.2.1.2 (by omega) (by decide) ?_
                                  rw [show sAJ (rAJ V (y + 13) 0 k (fun z => a.2.2 (i + z))) (y + 13) k (a.2.2 (i + k)) = (rAJ V (y + 13) 0 (k + 1) (fun z => a.2.2 (i + z))) from rAJ_s0 _ _ _ _ rfl]
                                  refine x_iinc (pc := 216) cx (dA ddX8_copy (i := 122) rfl) rfl (iinc1 _) (by decide) rfl ?_
                                  refine x_goto (pc := 219) (tgt := 191) cx (dA ddX8_copy (i := 123) rfl) (by decide) ?_
                                  exact x_enter (ih (by omega)) ⟨.inr rfl, .inr rfl, .inr rfl, .inr rfl, .inr rfl, .inr rfl, .inr rfl, trivial⟩
                              have L := L191 0 (Nat.zero_le _)
                              rw [show (rAJ V (y + 13) 0 0 (fun z => a.2.2 (i + z))) = V from rAJ_0 _ _ _ _] at L
                              exact x_enter L ⟨.inr rfl, .inr rfl, .inr rfl, .inr rfl, .inr rfl, .inr rfl, .inr rfl, trivial⟩
                            · rw [i32_le, nI_toInt (by omega)] at c178
                              refine x_aload_n (pc := 181) cx (dA ddX8_copy (i := 101) rfl) rfl ?_
                              refine x_bipush (pc := 182) (v := -2) cx (dA ddX8_copy (i := 102) rfl) (by decide) ?_
                              refine x_V1 (pc := 184) mX8_119 h0 (c_X8_refuse hM (i := 0) (by decide) rfl) cx (dA ddX8_copy (i := 103) rfl) (kI ?_)
                              refine x_ireturn (pc := 187) cx (dA ddX8_copy (i := 104) rfl) (by first | exact Nat.le_of_ble_eq_true rfl | omega) (by first | exact Nat.le_of_ble_eq_true rfl | omega) ?_
                              exact pMI.r hRM (by decide) (by rw [fCopy_b C (ep.trans ha) (eq.trans hb), if_neg (fun z => z c83), if_neg (fun z => by have e := z.1.2.1; rw [nI_toInt (show n < 2 ^ 31 by omega)] at z; omega)]; rfl)
              · have c83 := ceqF (by omega) (by omega) c83
                refine x_aload_n (pc := 86) cx (dA ddX8_copy (i := 49) rfl) rfl ?_
                refine x_bipush (pc := 87) (v := -3) cx (dA ddX8_copy (i := 50) rfl) (by decide) ?_
                refine x_V1 (pc := 89) mX8_119 h0 (c_X8_refuse hM (i := 1) (by decide) rfl) cx (dA ddX8_copy (i := 51) rfl) (kI ?_)
                refine x_ireturn (pc := 92) cx (dA ddX8_copy (i := 52) rfl) (by first | exact Nat.le_of_ble_eq_true rfl | omega) (by first | exact Nat.le_of_ble_eq_true rfl | omega) ?_
                exact pMI.r hRM (by decide) (by rw [fCopy_b C (ep.trans ha) (eq.trans hb), if_pos c83])
    · have c21 := b2i_eq c21
      refine x_aload_n (pc := 24) cx (dA ddX8_copy (i := 12) rfl) rfl ?_
      refine x_bipush (pc := 25) (v := -2) cx (dA ddX8_copy (i := 13) rfl) (by decide) ?_
      refine x_V1 (pc := 27) mX8_119 h0 (c_X8_refuse hM (i := 0) (by decide) rfl) cx (dA ddX8_copy (i := 14) rfl) (kI ?_)
      refine x_ireturn (pc := 30) cx (dA ddX8_copy (i := 15) rfl) (by first | exact Nat.le_of_ble_eq_true rfl | omega) (by first | exact Nat.le_of_ble_eq_true rfl | omega) ?_
      first | exact pMI.r hRM (by decide) (if_neg (fun q => by have z := q.2; exact c21 ⟨z.1, by have := z.2; omega⟩))
theorem c_X8_rule {l : Launch} {Z : zP} {G : zG} {V : zV} {y : Nat} {zk : Option Nat} {S : SX} (hRM : RM Z G V y zk S) {r k a : Int32} : CT l Z yX8_rule cX8_rule 5 (some .int) 2 0 0 [.ref y, .int r, .int k, .int a] G V (pMI Z G V y zk (fRule S r k a)) := by
  refine CT.of (by decide +kernel) (Nat.le_of_ble_eq_true rfl) (fun X hX cx => ?_)
  subst hX
  show Wm Z X 5 G V 0 0 _ 0 [(0, some (.ref y)), (1, some (.int r)), (2, some (.int k)), (3, some (.int a))] []
  have hM := hRM.1
  have h0 := hM.1
  have hc := hRM.2.2.1.1
  have c6 := hRM.2.2.1.2.1
  have hmu := hRM.2.2.2.2.2.2.1
  refine x_iload_n (pc := 0) cx (dA ddX8_rule (i := 0) rfl) rfl ?_
  refine x_i2l (pc := 1) cx (dA ddX8_rule (i := 1) rfl) ?_
  refine x_lconst (pc := 2) (v := lN 0) cx (dA ddX8_rule (i := 2) rfl) rfl ?_
  refine x_ldc2 (pc := 3) cx klX8_113 (dA ddX8_rule (i := 3) rfl) ?_
  refine x_S3 (pc := 6) mX8_94 c_X8_in cx (dA ddX8_rule (i := 4) rfl) (kI ?_)
  rw [l0_toInt, tl_toInt, show (lN 7).toInt = 7 from rfl]
  refine x_if_eq (pc := 9) (tgt := 32) cx (dA ddX8_rule (i := 5) rfl) (by decide) (fun c9 => ?_) (fun c9 => ?_)
  · have c9 := b2i_eq c9
    refine x_aload_n (pc := 32) cx (dA ddX8_rule (i := 16) rfl) rfl ?_
    refine x_bipush (pc := 33) (v := -2) cx (dA ddX8_rule (i := 17) rfl) (by decide) ?_
    refine x_V1 (pc := 35) mX8_119 h0 (c_X8_refuse hM (i := 0) (by decide) rfl) cx (dA ddX8_rule (i := 18) rfl) (kI ?_)
    refine x_ireturn (pc := 38) cx (dA ddX8_rule (i := 19) rfl) (by first | exact Nat.le_of_ble_eq_true rfl | omega) (by first | exact Nat.le_of_ble_eq_true rfl | omega) ?_
    first | exact pMI.r hRM (by decide) (if_neg (fun q => by have z := q.1; exact c9 ⟨z.1, by have := z.2; omega⟩))
  · have cr := b2i_ne c9
    obtain ⟨r, hr, rfl, tr⟩ := i32_in (x := r) (n := 8) ⟨cr.1, by have := cr.2; omega⟩
    have cr : oks (nI r) := ⟨cr.1, by have := cr.2; omega⟩
    refine x_iload_n (pc := 12) cx (dA ddX8_rule (i := 6) rfl) rfl ?_
    refine x_i2l (pc := 13) cx (dA ddX8_rule (i := 7) rfl) ?_
    refine x_lconst (pc := 14) (v := lN 1) cx (dA ddX8_rule (i := 8) rfl) rfl ?_
    refine x_ldc2 (pc := 15) cx klX8_130 (dA ddX8_rule (i := 9) rfl) ?_
    refine x_S3 (pc := 18) mX8_94 c_X8_in cx (dA ddX8_rule (i := 10) rfl) (kI ?_)
    rw [tl_toInt, show (lN 1).toInt = 1 from rfl, show (lN 5).toInt = 5 from rfl]
    refine x_if_eq (pc := 21) (tgt := 32) cx (dA ddX8_rule (i := 11) rfl) (by decide) (fun c21 => ?_) (fun c21 => ?_)
    · have c21 := b2i_eq c21
      refine x_aload_n (pc := 32) cx (dA ddX8_rule (i := 16) rfl) rfl ?_
      refine x_bipush (pc := 33) (v := -2) cx (dA ddX8_rule (i := 17) rfl) (by decide) ?_
      refine x_V1 (pc := 35) mX8_119 h0 (c_X8_refuse hM (i := 0) (by decide) rfl) cx (dA ddX8_rule (i := 18) rfl) (kI ?_)
      refine x_ireturn (pc := 38) cx (dA ddX8_rule (i := 19) rfl) (by first | exact Nat.le_of_ble_eq_true rfl | omega) (by first | exact Nat.le_of_ble_eq_true rfl | omega) ?_
      first | exact pMI.r hRM (by decide) (if_neg (fun q => c21 (mayP_rule q.2)))
    · have ck := b2i_ne c21
      refine x_iload_n (pc := 24) cx (dA ddX8_rule (i := 12) rfl) rfl ?_
      refine x_iload_n (pc := 25) cx (dA ddX8_rule (i := 13) rfl) rfl ?_
      refine x_S2 (pc := 26) mX8_132 (c_X8_mayBy ck.1 ck.2) cx (dA ddX8_rule (i := 14) rfl) (kI ?_)
      refine x_if_ne (pc := 29) (tgt := 39) cx (dA ddX8_rule (i := 15) rfl) (by decide) (fun c29 => ?_) (fun c29 => ?_)
      · have cm := b2i_ne c29
        have mr := mayP_ru cm
        refine x_iload_n (pc := 39) cx (dA ddX8_rule (i := 20) rfl) rfl ?_
        refine x_iconst (pc := 40) (v := nI 5) cx (dA ddX8_rule (i := 21) rfl) (by decide) ?_
        refine x_icmp_ne (pc := 41) (tgt := 144) cx (dA ddX8_rule (i := 22) rfl) (by decide) (fun c41 => ?_) (fun c41 => ?_)
        · have k5 : ¬ k.toInt = 5 := fun e => c41 (Int32.toInt_inj.mp e)
          obtain ⟨k, hk, rfl, tk⟩ := i32_in (x := k) (n := 6) ⟨by omega, by omega⟩
          have k15 : 1 ≤ k ∧ k ≤ 5 := by rw [nI_toInt (by omega)] at ck; omega
          have k9 : k ≠ 5 := fun e => k5 (by rw [e]; rfl)
          refine x_aload_n (pc := 144) cx (dA ddX8_rule (i := 81) rfl) rfl ?_
          refine gX8_7 (pc := 145) (rfA hM.2.1.1) cx (dA ddX8_rule (i := 82) rfl) h0 ?_
          refine x_iload_n (pc := 148) cx (dA ddX8_rule (i := 83) rfl) rfl ?_
          refine x_iconst (pc := 149) (v := nI 2) cx (dA ddX8_rule (i := 84) rfl) (by decide) ?_
          refine x_iastore (pc := 150) cx (dA ddX8_rule (i := 85) rfl) hM.2.1.2 (by omega) (by decide) ?_
          refine x_aload_n (pc := 151) cx (dA ddX8_rule (i := 86) rfl) rfl ?_
          refine gX8_28 (pc := 152) (rfA hM.2.2.2.2.2.2.1.1) cx (dA ddX8_rule (i := 87) rfl) h0 ?_
          refine x_iload_n (pc := 155) cx (dA ddX8_rule (i := 88) rfl) rfl ?_
          refine x_iload_n (pc := 156) cx (dA ddX8_rule (i := 89) rfl) rfl ?_
          refine x_iastore (pc := 157) cx (dA ddX8_rule (i := 90) rfl) hM.2.2.2.2.2.2.1.2 (by omega) (by decide) ?_
          refine x_aload_n (pc := 158) cx (dA ddX8_rule (i := 91) rfl) rfl ?_
          refine gX8_31 (pc := 159) (rfA hM.2.2.2.2.2.2.2.1.1) cx (dA ddX8_rule (i := 92) rfl) h0 ?_
          refine x_iload_n (pc := 162) cx (dA ddX8_rule (i := 93) rfl) rfl ?_
          refine x_iload_n (pc := 163) cx (dA ddX8_rule (i := 94) rfl) rfl ?_
          refine x_iastore (pc := 164) cx (dA ddX8_rule (i := 95) rfl) hM.2.2.2.2.2.2.2.1.2 (by omega) (by decide) ?_
          refine x_iconst (pc := 165) (v := nI 1) cx (dA ddX8_rule (i := 96) rfl) (by decide) ?_
          refine x_ireturn (pc := 166) cx (dA ddX8_rule (i := 97) rfl) (by first | exact Nat.le_of_ble_eq_true rfl | omega) (by first | exact Nat.le_of_ble_eq_true rfl | omega) ?_
          refine pMI.m (S' := putS S r (some (.inr (k, uN a, 0, noF)))) (by unfold fRule; rw [if_pos ⟨cr, cm⟩, if_neg k5, tr, tk]; rfl) (hRM.put hr (fun a a1 a2 a3 a4 a5 a6 a7 a8 a9 => (((same4.refl V a).sAI a1).sAI a5).sAI a6) (fun a ha j hj => by show u2 (u2 (u2 V.2.2.1 _ _ _) _ _ _) _ _ _ a j = _; rw [u2_snd _ _ hj, u2_snd _ _ hj, u2_snd _ _ hj]) (ShM.mkq ⟨(sAI_ne (by omega)).trans ((sAI_ne (by omega)).trans sAI_eq), ⟨(sAI_ne (by omega)).trans sAI_eq, k15, sAI_eq.trans (nI_uN a).symm, fun e => ?_, fun e => ?_, fun e => ?_, fun e => absurd e k9⟩, fun e => absurd e k9⟩))
          · exact mr.1 (tk.trans e)
          · exact mr.2.1 (tk.trans e)
          · exact mr.2.2 (tk.trans e)
        · have ek : k = nI 5 := c41
          subst ek
          have am : 0 ≤ a.toInt ∧ a.toInt < 8 := by have h := cm; unfold mayP at h; rw [show (nI 5).toInt = 5 from rfl] at h; omega
          obtain ⟨a, ha, rfl, ta⟩ := i32_in (x := a) (n := 8) am
          have sa := hRM.2.2.2.1 a ha
          refine x_aload_n (pc := 44) cx (dA ddX8_rule (i := 23) rfl) rfl ?_
          refine gX8_7 (pc := 45) (rfA hM.2.1.1) cx (dA ddX8_rule (i := 24) rfl) h0 ?_
          refine x_iload_n (pc := 48) cx (dA ddX8_rule (i := 25) rfl) rfl ?_
          refine x_iaload (pc := 49) cx (dA ddX8_rule (i := 26) rfl) hM.2.1.2 (by omega) (by decide) ?_
          refine x_iconst (pc := 50) (v := nI 2) cx (dA ddX8_rule (i := 27) rfl) (by decide) ?_
          refine x_icmp_ne (pc := 51) (tgt := 61) cx (dA ddX8_rule (i := 28) rfl) (by decide) (fun c51 => ?_) (fun c51 => ?_)
          · refine x_aload_n (pc := 61) cx (dA ddX8_rule (i := 33) rfl) rfl ?_
            refine gX8_7 (pc := 62) (rfA hM.2.1.1) cx (dA ddX8_rule (i := 34) rfl) h0 ?_
            refine x_iload_n (pc := 65) cx (dA ddX8_rule (i := 35) rfl) rfl ?_
            refine x_iaload (pc := 66) cx (dA ddX8_rule (i := 36) rfl) hM.2.1.2 (by omega) (by decide) ?_
            refine x_if_ne (pc := 67) (tgt := 77) cx (dA ddX8_rule (i := 37) rfl) (by decide) (fun c67 => ?_) (fun c67 => ?_)
            · obtain ⟨q, hq⟩ := sa.n20 c51 c67
              obtain ⟨q0, q1, q2, q3, q4, q5⟩ := sa.2.1 q hq
              refine x_aload_n (pc := 77) cx (dA ddX8_rule (i := 42) rfl) rfl ?_
              refine gX8_52 (pc := 78) (rfA hM.2.2.2.2.2.2.2.2.2.2.2.2.1.1) cx (dA ddX8_rule (i := 43) rfl) h0 ?_
              refine x_iload_n (pc := 81) cx (dA ddX8_rule (i := 44) rfl) rfl ?_
              refine x_aload_n (pc := 82) cx (dA ddX8_rule (i := 45) rfl) rfl ?_
              refine gX8_16 (pc := 83) (rfA hM.2.2.2.1.1) cx (dA ddX8_rule (i := 46) rfl) h0 ?_
              refine x_iload_n (pc := 86) cx (dA ddX8_rule (i := 47) rfl) rfl ?_
              refine x_iaload (pc := 87) cx (dA ddX8_rule (i := 48) rfl) hM.2.2.2.1.2 (by omega) (by decide) ?_
              rw [q3]
              refine x_iastore (pc := 88) cx (dA ddX8_rule (i := 49) rfl) hM.2.2.2.2.2.2.2.2.2.2.2.2.1.2 (by omega) (by decide) ?_
              refine x_iconst (pc := 89) (v := nI 0) cx (dA ddX8_rule (i := 50) rfl) (by decide) ?_
              refine x_istore (pc := 90) cx (dA ddX8_rule (i := 51) rfl) (by decide) rfl ?_
              have L92 : ∀ i, i ≤ 125 → Wm Z X 5 G (rAI (sAI V (y + 38) r (nI q.2.1)) (y + 16 + 1 + r) 0 i (fun i => nI (if (decide (i < q.2.1) && decide (q.2.2 i ≠ 0)) = true then 1 else 0))) 0 0 (rQ Z X 0 0 (pMI Z G V y zk (fRule S (nI r) (nI 5) (nI a)))) 92 [(0, some (.ref y)), (1, some (.int (nI r))), (2, some (.int (nI 5))), (3, some (.int (nI a))), (4, some (.int (nI i)))] [] := by
                refine lpU 125 (fun i hi ih => ?_)
                refine x_iload (pc := 92) cx (dA ddX8_rule (i := 52) rfl) rfl ?_
                refine x_bipush (pc := 94) (v := nI 125) cx (dA ddX8_rule (i := 53) rfl) (by decide) ?_
                refine x_icmp_ge (pc := 96) (tgt := 144) cx (dA ddX8_rule (i := 54) rfl) (by decide) (fun c96 => ?_) (fun c96 => ?_)
                · have c96 := cleT (by omega) (by omega) c96
                  have ei : i = 125 := by omega
                  subst ei
                  refine x_aload_n (pc := 144) cx (dA ddX8_rule (i := 81) rfl) rfl ?_
                  refine gX8_7 (pc := 145) (rfA hM.2.1.1) cx (dA ddX8_rule (i := 82) rfl) h0 ?_
                  refine x_iload_n (pc := 148) cx (dA ddX8_rule (i := 83) rfl) rfl ?_
                  refine x_iconst (pc := 149) (v := nI 2) cx (dA ddX8_rule (i := 84) rfl) (by decide) ?_
                  refine x_iastore (pc := 150) cx (dA ddX8_rule (i := 85) rfl) hM.2.1.2 (by omega) (by decide) ?_
                  refine x_aload_n (pc := 151) cx (dA ddX8_rule (i := 86) rfl) rfl ?_
                  refine gX8_28 (pc := 152) (rfA hM.2.2.2.2.2.2.1.1) cx (dA ddX8_rule (i := 87) rfl) h0 ?_
                  refine x_iload_n (pc := 155) cx (dA ddX8_rule (i := 88) rfl) rfl ?_
                  refine x_iload_n (pc := 156) cx (dA ddX8_rule (i := 89) rfl) rfl ?_
                  refine x_iastore (pc := 157) cx (dA ddX8_rule (i := 90) rfl) hM.2.2.2.2.2.2.1.2 (by omega) (by decide) ?_
                  refine x_aload_n (pc := 158) cx (dA ddX8_rule (i := 91) rfl) rfl ?_
                  refine gX8_31 (pc := 159) (rfA hM.2.2.2.2.2.2.2.1.1) cx (dA ddX8_rule (i := 92) rfl) h0 ?_
                  refine x_iload_n (pc := 162) cx (dA ddX8_rule (i := 93) rfl) rfl ?_
                  refine x_iload_n (pc := 163) cx (dA ddX8_rule (i := 94) rfl) rfl ?_
                  refine x_iastore (pc := 164) cx (dA ddX8_rule (i := 95) rfl) hM.2.2.2.2.2.2.2.1.2 (by omega) (by decide) ?_
                  refine x_iconst (pc := 165) (v := nI 1) cx (dA ddX8_rule (i := 96) rfl) (by decide) ?_
                  refine x_ireturn (pc := 166) cx (dA ddX8_rule (i := 97) rfl) (by first | exact Nat.le_of_ble_eq_true rfl | omega) (by first | exact Nat.le_of_ble_eq_true rfl | omega) ?_
                  refine pMI.m (S' := putS S r (some (.inr (5, uN (nI a), q.2.1, fun i => decide (q.2.2 i ≠ 0))))) (by unfold fRule; rw [if_pos ⟨cr, cm⟩, if_pos (show (nI 5).toInt = 5 from rfl), shX_at ha, hq, tr]; rfl) (hRM.put hr (fun a a1 a2 a3 a4 a5 a6 a7 a8 a9 => (((((same4.refl V a).sAI a7).rAI a9).sAI a1).sAI a5).sAI a6) (fun x hx j hj => ?_) (ShM.mkq ⟨(sAI_ne (by omega)).trans ((sAI_ne (by omega)).trans sAI_eq), ⟨(sAI_ne (by omega)).trans sAI_eq, ⟨(by show 1 ≤ 5; decide), (by show 5 ≤ 5; decide)⟩, sAI_eq.trans (nI_uN _).symm, fun e => absurd e (by show ¬ 5 = 1; decide), fun e => absurd e (by show ¬ 5 = 2; decide), fun e => absurd e (by show ¬ 5 = 3; decide), fun _ i hi => ?_⟩, fun _ => ⟨?_, q4⟩⟩))
                  · rw [sAI_nk hj, sAI_nk hj, sAI_nk hj, rAI_ne (by omega), sAI_nk hj]
                  · exact (sAI_ne (by omega)).trans ((sAI_ne (by omega)).trans ((sAI_ne (by omega)).trans (rAI_at hi)))
                  · exact (sAI_ne (by omega)).trans ((sAI_ne (by omega)).trans ((sAI_ne (by omega)).trans ((rAI_ne (by omega) _).trans sAI_eq)))
                · have c96 := cleF (by omega) (by omega) c96
                  refine x_aload_n (pc := 99) cx (dA ddX8_rule (i := 55) rfl) rfl ?_
                  refine gX8_36 (pc := 100) (rfA hM.2.2.2.2.2.2.2.2.1.1) cx (dA ddX8_rule (i := 56) rfl) h0 ?_
                  refine x_iload_n (pc := 103) cx (dA ddX8_rule (i := 57) rfl) rfl ?_
                  refine x_aaload (pc := 104) cx (dA ddX8_rule (i := 58) rfl) hM.2.2.2.2.2.2.2.2.1.2.1 (by decide) (by decide) (by omega) (by decide) ?_
                  rw [arA (hM.2.2.2.2.2.2.2.2.1.2.2 r (by omega)).1]
                  refine x_iload (pc := 105) cx (dA ddX8_rule (i := 59) rfl) rfl ?_
                  refine x_iload (pc := 107) cx (dA ddX8_rule (i := 60) rfl) rfl ?_
                  refine x_aload_n (pc := 109) cx (dA ddX8_rule (i := 61) rfl) rfl ?_
                  refine gX8_16 (pc := 110) (rfA hM.2.2.2.1.1) cx (dA ddX8_rule (i := 62) rfl) h0 ?_
                  refine x_iload_n (pc := 113) cx (dA ddX8_rule (i := 63) rfl) rfl ?_
                  refine x_iaload (pc := 114) cx (dA ddX8_rule (i := 64) rfl) hM.2.2.2.1.2 (by omega) (by decide) ?_
                  rw [show (rAI (sAI V (y + 38) r (nI q.2.1)) (y + 16 + 1 + r) 0 i (fun i => nI (if (decide (i < q.2.1) && decide (q.2.2 i ≠ 0)) = true then 1 else 0))).2.2.1 (y + 3) a = nI q.2.1 from (rAI_ne (by omega) _).trans ((sAI_ne (by omega)).trans q3)]
                  refine x_icmp_ge (pc := 115) (tgt := 136) cx (dA ddX8_rule (i := 65) rfl) (by decide) (fun c115 => ?_) (fun c115 => ?_)
                  · have c115 := cleT (by omega) (by omega) c115
                    have ef : (fun i => nI (if (decide (i < q.2.1) && decide (q.2.2 i ≠ 0)) = true then 1 else 0)) i = nI 0 := congrArg nI (if_neg (fun e => by rw [decide_eq_false (by omega)] at e; exact Bool.noConfusion e))
                    refine x_iconst (pc := 136) (v := nI 0) cx (dA ddX8_rule (i := 77) rfl) (by decide) ?_
                    refine x_iastore (pc := 137) cx (dA ddX8_rule (i := 78) rfl) (hM.2.2.2.2.2.2.2.2.1.2.2 r (by omega)).2 (by omega) (by decide) ?_
                    rw [← ef]
                    rw [show sAI (rAI (sAI V (y + 38) r (nI q.2.1)) (y + 16 + 1 + r) 0 i (fun i => nI (if (decide (i < q.2.1) && decide (q.2.2 i ≠ 0)) = true then 1 else 0))) (y + 16 + 1 + r) i ((fun i => nI (if (decide (i < q.2.1) && decide (q.2.2 i ≠ 0)) = true then 1 else 0)) i) = (rAI (sAI V (y + 38) r (nI q.2.1)) (y + 16 + 1 + r) 0 (i + 1) (fun i => nI (if (decide (i < q.2.1) && decide (q.2.2 i ≠ 0)) = true then 1 else 0))) from rAI_s0 _ _ _ _ rfl]
                    refine x_iinc (pc := 138) cx (dA ddX8_rule (i := 79) rfl) rfl (iinc1 _) (by decide) rfl ?_
                    refine x_goto (pc := 141) (tgt := 92) cx (dA ddX8_rule (i := 80) rfl) (by decide) ?_
                    exact x_enter (ih (by omega)) ⟨.inr rfl, .inr rfl, .inr rfl, .inr rfl, .inr rfl, trivial⟩
                  · have c115 := cleF (by omega) (by omega) c115
                    refine x_aload_n (pc := 118) cx (dA ddX8_rule (i := 66) rfl) rfl ?_
                    refine gX8_21 (pc := 119) (rfA hM.2.2.2.2.1.1) cx (dA ddX8_rule (i := 67) rfl) h0 ?_
                    refine x_iload_n (pc := 122) cx (dA ddX8_rule (i := 68) rfl) rfl ?_
                    refine x_aaload (pc := 123) cx (dA ddX8_rule (i := 69) rfl) hM.2.2.2.2.1.2.1 (by decide) (by decide) ha (by decide) ?_
                    rw [arA (hM.2.2.2.2.1.2.2 a ha).1]
                    refine x_iload (pc := 124) cx (dA ddX8_rule (i := 70) rfl) rfl ?_
                    refine x_laload (pc := 126) cx (dA ddX8_rule (i := 71) rfl) (hM.2.2.2.2.1.2.2 a ha).2 (by omega) (by decide) ?_
                    rw [show (rAI (sAI V (y + 38) r (nI q.2.1)) (y + 16 + 1 + r) 0 i (fun i => nI (if (decide (i < q.2.1) && decide (q.2.2 i ≠ 0)) = true then 1 else 0))).2.2.2 (y + 4 + 1 + a) i = q.2.2 i from q5 i c115]
                    refine x_lconst (pc := 127) (v := lN 0) cx (dA ddX8_rule (i := 72) rfl) rfl ?_
                    refine x_lc_eq (pc := 128) (tgt := 136) cx (dA ddX8_rule (i := 73) rfl) (dA ddX8_rule (i := 74) rfl) (by decide) (fun c128 => ?_) (fun c128 => ?_)
                    · have ef : (fun i => nI (if (decide (i < q.2.1) && decide (q.2.2 i ≠ 0)) = true then 1 else 0)) i = nI 0 := congrArg nI (if_neg (fun e => by rw [show decide (q.2.2 i ≠ 0) = false from decide_eq_false (fun z => z c128), Bool.and_false] at e; exact Bool.noConfusion e))
                      refine x_iconst (pc := 136) (v := nI 0) cx (dA ddX8_rule (i := 77) rfl) (by decide) ?_
                      refine x_iastore (pc := 137) cx (dA ddX8_rule (i := 78) rfl) (hM.2.2.2.2.2.2.2.2.1.2.2 r (by omega)).2 (by omega) (by decide) ?_
                      rw [← ef]
                      rw [show sAI (rAI (sAI V (y + 38) r (nI q.2.1)) (y + 16 + 1 + r) 0 i (fun i => nI (if (decide (i < q.2.1) && decide (q.2.2 i ≠ 0)) = true then 1 else 0))) (y + 16 + 1 + r) i ((fun i => nI (if (decide (i < q.2.1) && decide (q.2.2 i ≠ 0)) = true then 1 else 0)) i) = (rAI (sAI V (y + 38) r (nI q.2.1)) (y + 16 + 1 + r) 0 (i + 1) (fun i => nI (if (decide (i < q.2.1) && decide (q.2.2 i ≠ 0)) = true then 1 else 0))) from rAI_s0 _ _ _ _ rfl]
                      refine x_iinc (pc := 138) cx (dA ddX8_rule (i := 79) rfl) rfl (iinc1 _) (by decide) rfl ?_
                      refine x_goto (pc := 141) (tgt := 92) cx (dA ddX8_rule (i := 80) rfl) (by decide) ?_
                      exact x_enter (ih (by omega)) ⟨.inr rfl, .inr rfl, .inr rfl, .inr rfl, .inr rfl, trivial⟩
                    · have ef : (fun i => nI (if (decide (i < q.2.1) && decide (q.2.2 i ≠ 0)) = true then 1 else 0)) i = nI 1 := congrArg nI (if_pos (by rw [decide_eq_true c115, decide_eq_true (show q.2.2 i ≠ 0 from c128)]; rfl))
                      refine x_iconst (pc := 132) (v := nI 1) cx (dA ddX8_rule (i := 75) rfl) (by decide) ?_
                      refine x_goto (pc := 133) (tgt := 137) cx (dA ddX8_rule (i := 76) rfl) (by decide) ?_
                      refine x_iastore (pc := 137) cx (dA ddX8_rule (i := 78) rfl) (hM.2.2.2.2.2.2.2.2.1.2.2 r (by omega)).2 (by omega) (by decide) ?_
                      rw [← ef]
                      rw [show sAI (rAI (sAI V (y + 38) r (nI q.2.1)) (y + 16 + 1 + r) 0 i (fun i => nI (if (decide (i < q.2.1) && decide (q.2.2 i ≠ 0)) = true then 1 else 0))) (y + 16 + 1 + r) i ((fun i => nI (if (decide (i < q.2.1) && decide (q.2.2 i ≠ 0)) = true then 1 else 0)) i) = (rAI (sAI V (y + 38) r (nI q.2.1)) (y + 16 + 1 + r) 0 (i + 1) (fun i => nI (if (decide (i < q.2.1) && decide (q.2.2 i ≠ 0)) = true then 1 else 0))) from rAI_s0 _ _ _ _ rfl]
                      refine x_iinc (pc := 138) cx (dA ddX8_rule (i := 79) rfl) rfl (iinc1 _) (by decide) rfl ?_
                      refine x_goto (pc := 141) (tgt := 92) cx (dA ddX8_rule (i := 80) rfl) (by decide) ?_
                      exact x_enter (ih (by omega)) ⟨.inr rfl, .inr rfl, .inr rfl, .inr rfl, .inr rfl, trivial⟩
              have L := L92 0 (Nat.zero_le _)
              rw [show (rAI (sAI V (y + 38) r (nI q.2.1)) (y + 16 + 1 + r) 0 0 (fun i => nI (if (decide (i < q.2.1) && decide (q.2.2 i ≠ 0)) = true then 1 else 0))) = (sAI V (y + 38) r (nI q.2.1)) from rAI_0 _ _ _ _] at L
              exact x_enter L ⟨.inr rfl, .inr rfl, .inr rfl, .inr rfl, .inr rfl, trivial⟩
            · have hq := sa.i0 c67
              refine x_aload_n (pc := 70) cx (dA ddX8_rule (i := 38) rfl) rfl ?_
              refine x_bipush (pc := 71) (v := -4) cx (dA ddX8_rule (i := 39) rfl) (by decide) ?_
              refine x_V1 (pc := 73) mX8_119 h0 (c_X8_refuse hM (i := 2) (by decide) rfl) cx (dA ddX8_rule (i := 40) rfl) (kI ?_)
              refine x_ireturn (pc := 76) cx (dA ddX8_rule (i := 41) rfl) (by first | exact Nat.le_of_ble_eq_true rfl | omega) (by first | exact Nat.le_of_ble_eq_true rfl | omega) ?_
              exact pMI.r hRM (by decide) (by unfold fRule; rw [if_pos ⟨cr, cm⟩, if_pos (show (nI 5).toInt = 5 from rfl), shX_at ha, hq])
          · obtain ⟨q, hq⟩ := sa.i2 c51
            refine x_aload_n (pc := 54) cx (dA ddX8_rule (i := 29) rfl) rfl ?_
            refine x_bipush (pc := 55) (v := -3) cx (dA ddX8_rule (i := 30) rfl) (by decide) ?_
            refine x_V1 (pc := 57) mX8_119 h0 (c_X8_refuse hM (i := 1) (by decide) rfl) cx (dA ddX8_rule (i := 31) rfl) (kI ?_)
            refine x_ireturn (pc := 60) cx (dA ddX8_rule (i := 32) rfl) (by first | exact Nat.le_of_ble_eq_true rfl | omega) (by first | exact Nat.le_of_ble_eq_true rfl | omega) ?_
            exact pMI.r hRM (by decide) (by unfold fRule; rw [if_pos ⟨cr, cm⟩, if_pos (show (nI 5).toInt = 5 from rfl), shX_at ha, hq])
      · have c29 := b2i_eq c29
        refine x_aload_n (pc := 32) cx (dA ddX8_rule (i := 16) rfl) rfl ?_
        refine x_bipush (pc := 33) (v := -2) cx (dA ddX8_rule (i := 17) rfl) (by decide) ?_
        refine x_V1 (pc := 35) mX8_119 h0 (c_X8_refuse hM (i := 0) (by decide) rfl) cx (dA ddX8_rule (i := 18) rfl) (kI ?_)
        refine x_ireturn (pc := 38) cx (dA ddX8_rule (i := 19) rfl) (by first | exact Nat.le_of_ble_eq_true rfl | omega) (by first | exact Nat.le_of_ble_eq_true rfl | omega) ?_
        first | exact pMI.r hRM (by decide) (if_neg (fun q => c29 q.2))
