theorem shrA : ∀ (D : Fin 8) (k : Fin 3), (nI D.val >>> (nI k.val &&& 31)) &&& nI 1 = nI (D.val / 2 ^ k.val % 2) := by decide +kernel
theorem orbA : ∀ (D : Fin 8) (b : Fin 3), nI D.val ||| (nI 1 <<< (nI b.val &&& 31)) = nI (D.val ||| 2 ^ b.val) ∧ (D.val ||| 2 ^ b.val) < 8 := by decide +kernel
theorem orkA : ∀ (D : Fin 8) (b k : Fin 3), ((D.val ||| 2 ^ b.val) / 2 ^ k.val % 2 = 1) ↔ (D.val / 2 ^ k.val % 2 = 1 ∨ k.val = b.val) := by decide +kernel
theorem mxsA : ∀ (n : Fin 4) (t : Fin 3) (a b c : Fin 10), t.val < n.val → (mxB (hF a.val b.val c.val) (mxO (hF a.val b.val c.val) n.val t.val) n.val).isSome = true := by decide +kernel
/-- the holds of a house's sorts -/
def hoF (N : Nat → Nat) : Nat → Nat := fun k => N (5 + 5 * k + 2)
theorem hoF_e {N : Nat → Nat} (hN : HOK N) : ∀ k, k < N 4 → hoF N k = hF (min (N (5 + 5 * 0 + 2)) 9) (min (N (5 + 5 * 1 + 2)) 9) (min (N (5 + 5 * 2 + 2)) 9) k := by
  intro k hk
  have h4 := hN.1.1
  have : N (5 + 5 * k + 2) ≤ 9 := (hN.2.2.2.2 k hk 2 (by decide)).2
  unfold hoF
  rcases (show k = 0 ∨ k = 1 ∨ k = 2 by omega) with q | q | q <;> subst q
  · show _ = min _ 9; omega
  · show _ = min _ 9; omega
  · show _ = min _ 9; omega
theorem mx_some {N : Nat → Nat} (hN : HOK N) {t : Nat} (ht : t < N 4) : ∃ b, mxB (hoF N) (mxO (hoF N) (N 4) t) (N 4) = some b := by
  have h4 := hN.1.1
  have e := hoF_e hN
  rw [mxO_congr e t, mxB_congr (N 4) e]
  exact Option.isSome_iff_exists.mp (mxsA ⟨N 4, by omega⟩ ⟨t, by omega⟩ ⟨min (N (5 + 5 * 0 + 2)) 9, by omega⟩ ⟨min (N (5 + 5 * 1 + 2)) 9, by omega⟩ ⟨min (N (5 + 5 * 2 + 2)) 9, by omega⟩ ht)
/-- a set of sorts as a number -/
def mskD (dn : List Nat) (D : Nat) : Prop := D < 8 ∧ ∀ k, k < 3 → (dn.contains k = true ↔ D / 2 ^ k % 2 = 1)
theorem mskD_0 : mskD [] 0 := ⟨by decide, fun k hk => by rcases (show k = 0 ∨ k = 1 ∨ k = 2 by omega) with q | q | q <;> subst q <;> decide⟩
theorem mskD_s {dn : List Nat} {D b : Nat} (h : mskD dn D) (hb : b < 3) : mskD (dn ++ [b]) (D ||| 2 ^ b) := by
  refine ⟨(orbA ⟨D, h.1⟩ ⟨b, hb⟩).2, fun k hk => ?_⟩
  have o := orkA ⟨D, h.1⟩ ⟨b, hb⟩ ⟨k, hk⟩
  have o : ((D ||| 2 ^ b) / 2 ^ k % 2 = 1) ↔ (D / 2 ^ k % 2 = 1 ∨ k = b) := o
  rw [o, ← h.2 k hk]
  simp [List.contains_iff_mem]
/-- filled in by the first t choices -/
def fiT (N : Nat → Nat) (s t : Nat) : Nat × Nat := (mxO (hoF N) (N 4) t).foldl (fun y q => fiS N s q y) (N 2, 0)
theorem fiT_s {N : Nat → Nat} {s t b : Nat} (hb : mxB (hoF N) (mxO (hoF N) (N 4) t) (N 4) = some b) : mxO (hoF N) (N 4) (t + 1) = mxO (hoF N) (N 4) t ++ [b] ∧ fiT N s (t + 1) = fiS N s b (fiT N s t) := by
  have e : mxO (hoF N) (N 4) (t + 1) = mxO (hoF N) (N 4) t ++ [b] := by
    show (match mxB (hoF N) (mxO (hoF N) (N 4) t) (N 4) with | none => _ | some b => _) = _
    rw [hb]
  refine ⟨e, ?_⟩
  unfold fiT
  rw [e, List.foldl_append]
  rfl
theorem fiS_le {N : Nat → Nat} {s k : Nat} {p : Nat × Nat} : (fiS N s k p).1 ≤ p.1 := Nat.sub_le _ _
theorem fiF_le {N : Nat → Nat} {s : Nat} : ∀ (l : List Nat) (p : Nat × Nat), (l.foldl (fun y q => fiS N s q y) p).1 ≤ p.1
  | [], p => Nat.le_refl _
  | q :: l, p => Nat.le_trans (fiF_le l (fiS N s q p)) fiS_le
theorem fiT_le {N : Nat → Nat} {s t : Nat} : (fiT N s t).1 ≤ N 2 := fiF_le _ _
theorem c_X8_fillOf {l : Launch} {Z : zP} {G : zG} {V : zV} {y : Nat} (hM : ModelAt Z G y) {h : Nat} (hh : h < 8) {N : Nat → Nat} (hR : MH V y h N) (hB : HouseB N) (hN : HOK N) {s : Nat} (hs : s < 125) : CT l Z yX8_fillOf cX8_fillOf 10 (some .int) 2 0 0 [.ref y, .int (nI h), .int (nI s)] G V (pI (nI (fillP N s)) G V) := by
  refine CT.of (by decide +kernel) (Nat.le_of_ble_eq_true rfl) (fun X hX cx => ?_)
  subst hX
  show Wm Z X 10 G V 0 0 _ 0 [(0, some (.ref y)), (1, some (.int (nI h))), (2, some (.int (nI s)))] []
  have h0 := hM.1
  have b4 := hB.1
  refine x_iconst (pc := 0) (v := nI 0) cx (dA ddX8_fillOf (i := 0) rfl) (by decide) ?_
  refine x_istore_n (pc := 1) cx (dA ddX8_fillOf (i := 1) rfl) (by decide) rfl ?_
  refine x_aload_n (pc := 2) cx (dA ddX8_fillOf (i := 2) rfl) rfl ?_
  refine gX8_45 (pc := 3) (rfA hM.2.2.2.2.2.2.2.2.2.2.2.1.1) cx (dA ddX8_fillOf (i := 3) rfl) h0 ?_
  refine x_iload_n (pc := 6) cx (dA ddX8_fillOf (i := 4) rfl) rfl ?_
  refine x_aaload (pc := 7) cx (dA ddX8_fillOf (i := 5) rfl) hM.2.2.2.2.2.2.2.2.2.2.2.1.2.1 (by decide) (by decide) hh (by decide) ?_
  rw [arA (hM.2.2.2.2.2.2.2.2.2.2.2.1.2.2 h hh).1]
  refine x_iconst (pc := 8) (v := nI 2) cx (dA ddX8_fillOf (i := 6) rfl) (by decide) ?_
  refine x_iaload (pc := 9) cx (dA ddX8_fillOf (i := 7) rfl) (hM.2.2.2.2.2.2.2.2.2.2.2.1.2.2 h hh).2 (by decide) (by decide) ?_
  rw [hR 2 (by omega)]
  refine x_istore (pc := 10) cx (dA ddX8_fillOf (i := 8) rfl) (by decide) rfl ?_
  refine x_iconst (pc := 12) (v := nI 0) cx (dA ddX8_fillOf (i := 9) rfl) (by decide) ?_
  refine x_istore (pc := 13) cx (dA ddX8_fillOf (i := 10) rfl) (by decide) rfl ?_
  refine x_iconst (pc := 15) (v := nI 0) cx (dA ddX8_fillOf (i := 11) rfl) (by decide) ?_
  refine x_istore (pc := 16) cx (dA ddX8_fillOf (i := 12) rfl) (by decide) rfl ?_
  have L18 : ∀ t, t ≤ N 4 → ∀ D, mskD (mxO (hoF N) (N 4) t) D → Wm Z X 10 G V 0 0 (rQ Z X 0 0 (pI (nI (fillP N s)) G V)) 18 [(0, some (.ref y)), (1, some (.int (nI h))), (2, some (.int (nI s))), (3, some (.int (nI (fiT N s t).2))), (4, some (.int (nI (fiT N s t).1))), (5, some (.int (nI D))), (6, some (.int (nI t)))] [] := by
    refine lpU (N 4) (fun t ht ih => ?_)
    intro D hD
    refine x_iload (pc := 18) cx (dA ddX8_fillOf (i := 13) rfl) rfl ?_
    refine x_aload_n (pc := 20) cx (dA ddX8_fillOf (i := 14) rfl) rfl ?_
    refine x_iload_n (pc := 21) cx (dA ddX8_fillOf (i := 15) rfl) rfl ?_
    refine x_V1 (pc := 22) mX8_98 h0 (c_X8_sorts hM hh hR hB) cx (dA ddX8_fillOf (i := 16) rfl) (kI ?_)
    refine x_icmp_ge (pc := 25) (tgt := 167) cx (dA ddX8_fillOf (i := 17) rfl) (by decide) (fun c25 => ?_) (fun c25 => ?_)
    · have c25 := cleT (by omega) (by omega) c25
      have et : t = N 4 := by omega
      subst et
      refine x_iload_n (pc := 167) cx (dA ddX8_fillOf (i := 94) rfl) rfl ?_
      refine x_ireturn (pc := 168) cx (dA ddX8_fillOf (i := 95) rfl) (by first | exact Nat.le_of_ble_eq_true rfl | omega) (by first | exact Nat.le_of_ble_eq_true rfl | omega) ?_
      exact rI (by rw [fillP_mx hN]; rfl)
    · have c25 := cleF (by omega) (by omega) c25
      refine x_iconst (pc := 28) (v := -1) cx (dA ddX8_fillOf (i := 18) rfl) (by decide) ?_
      refine x_istore (pc := 29) cx (dA ddX8_fillOf (i := 19) rfl) (by decide) rfl ?_
      refine x_iconst (pc := 31) (v := nI 0) cx (dA ddX8_fillOf (i := 20) rfl) (by decide) ?_
      refine x_istore (pc := 32) cx (dA ddX8_fillOf (i := 21) rfl) (by decide) rfl ?_
      have L34 : ∀ k, k ≤ N 4 → Wm Z X 10 G V 0 0 (rQ Z X 0 0 (pI (nI (fillP N s)) G V)) 34 [(0, some (.ref y)), (1, some (.int (nI h))), (2, some (.int (nI s))), (3, some (.int (nI (fiT N s t).2))), (4, some (.int (nI (fiT N s t).1))), (5, some (.int (nI D))), (6, some (.int (nI t))), (7, some (.int (nhV (mxB (hoF N) (mxO (hoF N) (N 4) t) k)))), (8, some (.int (nI k)))] [] := by
        refine lpU (N 4) (fun k hk ih2 => ?_)
        refine x_iload (pc := 34) cx (dA ddX8_fillOf (i := 22) rfl) rfl ?_
        refine x_aload_n (pc := 36) cx (dA ddX8_fillOf (i := 23) rfl) rfl ?_
        refine x_iload_n (pc := 37) cx (dA ddX8_fillOf (i := 24) rfl) rfl ?_
        refine x_V1 (pc := 38) mX8_98 h0 (c_X8_sorts hM hh hR hB) cx (dA ddX8_fillOf (i := 25) rfl) (kI ?_)
        refine x_icmp_ge (pc := 41) (tgt := 89) cx (dA ddX8_fillOf (i := 26) rfl) (by decide) (fun c41 => ?_) (fun c41 => ?_)
        · have c41 := cleT (by omega) (by omega) c41
          have ek : k = N 4 := by omega
          subst ek
          obtain ⟨b, hb⟩ := mx_some hN c25
          have b4n := mxB_lt hb
          obtain ⟨eL, eF⟩ := fiT_s (s := s) hb
          rw [hb, show nhV (some b) = nI b from rfl]
          have e1 : 1 ≤ N (5 + 5 * b + 0) := (hN.2.2.2.2 b b4n 0 (by decide)).1
          have e9 := hB.2 (5 + 5 * b + 0) (by omega)
          have fl := fiT_le (N := N) (s := s) (t := t)
          have b2 := hB.2 2 (by omega)
          have dl := dig_lt s b
          refine x_iload (pc := 89) cx (dA ddX8_fillOf (i := 51) rfl) rfl ?_
          refine x_iconst (pc := 91) (v := nI 1) cx (dA ddX8_fillOf (i := 52) rfl) (by decide) ?_
          refine x_iload (pc := 92) cx (dA ddX8_fillOf (i := 53) rfl) rfl ?_
          refine x_ishl (pc := 94) cx (dA ddX8_fillOf (i := 54) rfl) ?_
          refine x_ior (pc := 95) cx (dA ddX8_fillOf (i := 55) rfl) ?_
          rw [(orbA ⟨D, hD.1⟩ ⟨b, by omega⟩).1]
          refine x_istore (pc := 96) cx (dA ddX8_fillOf (i := 56) rfl) (by decide) rfl ?_
          refine x_aload_n (pc := 98) cx (dA ddX8_fillOf (i := 57) rfl) rfl ?_
          refine x_iload_n (pc := 99) cx (dA ddX8_fillOf (i := 58) rfl) rfl ?_
          refine x_iload (pc := 100) cx (dA ddX8_fillOf (i := 59) rfl) rfl ?_
          refine x_iconst (pc := 102) (v := nI 0) cx (dA ddX8_fillOf (i := 60) rfl) (by decide) ?_
          refine x_V3 (pc := 103) mX8_229 h0 (c_X8_numberOf hM hh hR hB (k := b) (w := 0) b4n (by omega)) cx (dA ddX8_fillOf (i := 61) rfl) (kI ?_)
          refine x_istore (pc := 106) cx (dA ddX8_fillOf (i := 62) rfl) (by decide) rfl ?_
          refine x_iload (pc := 108) cx (dA ddX8_fillOf (i := 63) rfl) rfl ?_
          refine x_iload (pc := 110) cx (dA ddX8_fillOf (i := 64) rfl) rfl ?_
          refine x_idiv (pc := 112) cx (nI_ne0 e1 (by omega)) (dA ddX8_fillOf (i := 65) rfl) ?_
          rw [div32 (by omega) e1 (by omega)]
          have qd := Nat.div_le_self (fiT N s t).1 (N (5 + 5 * b + 0))
          refine x_istore (pc := 113) cx (dA ddX8_fillOf (i := 66) rfl) (by decide) rfl ?_
          refine x_iload (pc := 115) cx (dA ddX8_fillOf (i := 67) rfl) rfl ?_
          refine x_iload_n (pc := 117) cx (dA ddX8_fillOf (i := 68) rfl) rfl ?_
          refine x_iload (pc := 118) cx (dA ddX8_fillOf (i := 69) rfl) rfl ?_
          refine x_S2 (pc := 120) mX8_226 (c_X8_ofState hs (by omega)) cx (dA ddX8_fillOf (i := 70) rfl) (kI ?_)
          refine x_icmp_le (pc := 123) (tgt := 135) cx (dA ddX8_fillOf (i := 71) rfl) (by decide) (fun c123 => ?_) (fun c123 => ?_)
          · have c123 := cleT (by omega) (by omega) c123
            have em : min (dig s b) ((fiT N s t).1 / N (5 + 5 * b + 0)) = (fiT N s t).1 / N (5 + 5 * b + 0) := Nat.min_eq_right c123
            refine x_iload (pc := 135) cx (dA ddX8_fillOf (i := 76) rfl) rfl ?_
            rw [← em]
            refine x_istore (pc := 137) cx (dA ddX8_fillOf (i := 77) rfl) (by decide) rfl ?_
            refine x_iload (pc := 139) cx (dA ddX8_fillOf (i := 78) rfl) rfl ?_
            refine x_iload (pc := 141) cx (dA ddX8_fillOf (i := 79) rfl) rfl ?_
            refine x_iload (pc := 143) cx (dA ddX8_fillOf (i := 80) rfl) rfl ?_
            refine x_imul (pc := 145) cx (dA ddX8_fillOf (i := 81) rfl) ?_
            refine x_isub (pc := 146) cx (dA ddX8_fillOf (i := 82) rfl) ?_
            rw [nI_cmul, pk_sub (Nat.le_trans (Nat.mul_le_mul_right _ (Nat.min_le_right _ _)) (Nat.div_mul_le_self _ _))]
            refine x_istore (pc := 147) cx (dA ddX8_fillOf (i := 83) rfl) (by decide) rfl ?_
            refine x_iload_n (pc := 149) cx (dA ddX8_fillOf (i := 84) rfl) rfl ?_
            refine x_iload (pc := 150) cx (dA ddX8_fillOf (i := 85) rfl) rfl ?_
            refine x_iconst (pc := 152) (v := nI 5) cx (dA ddX8_fillOf (i := 86) rfl) (by decide) ?_
            refine x_iload (pc := 153) cx (dA ddX8_fillOf (i := 87) rfl) rfl ?_
            refine x_S2 (pc := 155) mX8_102 (c_X8_power (by omega)) cx (dA ddX8_fillOf (i := 88) rfl) (kI ?_)
            refine x_imul (pc := 158) cx (dA ddX8_fillOf (i := 89) rfl) ?_
            refine x_iadd (pc := 159) cx (dA ddX8_fillOf (i := 90) rfl) ?_
            rw [nI_cmul, nI_add]
            refine x_istore_n (pc := 160) cx (dA ddX8_fillOf (i := 91) rfl) (by decide) rfl ?_
            refine x_iinc (pc := 161) cx (dA ddX8_fillOf (i := 92) rfl) rfl (iinc1 _) (by decide) rfl ?_
            refine x_goto (pc := 164) (tgt := 18) cx (dA ddX8_fillOf (i := 93) rfl) (by decide) ?_
            have L := ih (by omega) (D ||| 2 ^ b) (by rw [eL]; exact mskD_s hD (by omega))
            rw [eF] at L
            exact x_enter L ⟨.inr rfl, .inr rfl, .inr rfl, .inr rfl, .inr rfl, .inr rfl, .inr rfl, trivial⟩
          · have c123 := cleF (by omega) (by omega) c123
            have em : min (dig s b) ((fiT N s t).1 / N (5 + 5 * b + 0)) = dig s b := Nat.min_eq_left (by omega)
            refine x_iload_n (pc := 126) cx (dA ddX8_fillOf (i := 72) rfl) rfl ?_
            refine x_iload (pc := 127) cx (dA ddX8_fillOf (i := 73) rfl) rfl ?_
            refine x_S2 (pc := 129) mX8_226 (c_X8_ofState hs (by omega)) cx (dA ddX8_fillOf (i := 74) rfl) (kI ?_)
            refine x_goto (pc := 132) (tgt := 137) cx (dA ddX8_fillOf (i := 75) rfl) (by decide) ?_
            rw [← em]
            refine x_istore (pc := 137) cx (dA ddX8_fillOf (i := 77) rfl) (by decide) rfl ?_
            refine x_iload (pc := 139) cx (dA ddX8_fillOf (i := 78) rfl) rfl ?_
            refine x_iload (pc := 141) cx (dA ddX8_fillOf (i := 79) rfl) rfl ?_
            refine x_iload (pc := 143) cx (dA ddX8_fillOf (i := 80) rfl) rfl ?_
            refine x_imul (pc := 145) cx (dA ddX8_fillOf (i := 81) rfl) ?_
            refine x_isub (pc := 146) cx (dA ddX8_fillOf (i := 82) rfl) ?_
            rw [nI_cmul, pk_sub (Nat.le_trans (Nat.mul_le_mul_right _ (Nat.min_le_right _ _)) (Nat.div_mul_le_self _ _))]
            refine x_istore (pc := 147) cx (dA ddX8_fillOf (i := 83) rfl) (by decide) rfl ?_
            refine x_iload_n (pc := 149) cx (dA ddX8_fillOf (i := 84) rfl) rfl ?_
            refine x_iload (pc := 150) cx (dA ddX8_fillOf (i := 85) rfl) rfl ?_
            refine x_iconst (pc := 152) (v := nI 5) cx (dA ddX8_fillOf (i := 86) rfl) (by decide) ?_
            refine x_iload (pc := 153) cx (dA ddX8_fillOf (i := 87) rfl) rfl ?_
            refine x_S2 (pc := 155) mX8_102 (c_X8_power (by omega)) cx (dA ddX8_fillOf (i := 88) rfl) (kI ?_)
            refine x_imul (pc := 158) cx (dA ddX8_fillOf (i := 89) rfl) ?_
            refine x_iadd (pc := 159) cx (dA ddX8_fillOf (i := 90) rfl) ?_
            rw [nI_cmul, nI_add]
            refine x_istore_n (pc := 160) cx (dA ddX8_fillOf (i := 91) rfl) (by decide) rfl ?_
            refine x_iinc (pc := 161) cx (dA ddX8_fillOf (i := 92) rfl) rfl (iinc1 _) (by decide) rfl ?_
            refine x_goto (pc := 164) (tgt := 18) cx (dA ddX8_fillOf (i := 93) rfl) (by decide) ?_
            have L := ih (by omega) (D ||| 2 ^ b) (by rw [eL]; exact mskD_s hD (by omega))
            rw [eF] at L
            exact x_enter L ⟨.inr rfl, .inr rfl, .inr rfl, .inr rfl, .inr rfl, .inr rfl, .inr rfl, trivial⟩
        · have c41 := cleF (by omega) (by omega) c41
          have rv : ∀ v, (mxB (hoF N) (mxO (hoF N) (N 4) t) k) = some v → v < 2 ^ 31 := fun v e => by have := mxB_lt e; omega
          have mk := hD.2 k (by omega)
          have bd : D / 2 ^ k % 2 < 2 := Nat.mod_lt _ (by decide)
          refine x_iload (pc := 44) cx (dA ddX8_fillOf (i := 27) rfl) rfl ?_
          refine x_iload (pc := 46) cx (dA ddX8_fillOf (i := 28) rfl) rfl ?_
          refine x_ishr (pc := 48) cx (dA ddX8_fillOf (i := 29) rfl) ?_
          refine x_iconst (pc := 49) (v := nI 1) cx (dA ddX8_fillOf (i := 30) rfl) (by decide) ?_
          refine x_iand (pc := 50) cx (dA ddX8_fillOf (i := 31) rfl) ?_
          rw [show (nI D >>> (nI k &&& 31)) &&& nI 1 = nI (D / 2 ^ k % 2) from shrA ⟨D, hD.1⟩ ⟨k, by omega⟩]
          refine x_if_ne (pc := 51) (tgt := 83) cx (dA ddX8_fillOf (i := 32) rfl) (by decide) (fun c51 => ?_) (fun c51 => ?_)
          · have d1 : D / 2 ^ k % 2 = 1 := by
              have : ¬ D / 2 ^ k % 2 = 0 := fun e => c51 (by rw [e]; rfl)
              omega
            have ct := mk.mpr d1
            have e0 : mxB (hoF N) (mxO (hoF N) (N 4) t) (k + 1) = match (mxB (hoF N) (mxO (hoF N) (N 4) t) k) with | none => if ((mxO (hoF N) (N 4) t)).contains k = true then none else some k | some b => if ((mxO (hoF N) (N 4) t)).contains k = false ∧ hoF N b < hoF N k then some k else some b := rfl
            have eB : mxB (hoF N) (mxO (hoF N) (N 4) t) (k + 1) = (mxB (hoF N) (mxO (hoF N) (N 4) t) k) := by rw [e0]; cases (mxB (hoF N) (mxO (hoF N) (N 4) t) k) with | none => exact if_pos ct | some b => exact if_neg (fun q => by rw [ct] at q; cases q.1)
            refine x_iinc (pc := 83) cx (dA ddX8_fillOf (i := 49) rfl) rfl (iinc1 _) (by decide) rfl ?_
            refine x_goto (pc := 86) (tgt := 34) cx (dA ddX8_fillOf (i := 50) rfl) (by decide) ?_
            have L := ih2 (by omega)
            rw [eB] at L
            exact x_enter L ⟨.inr rfl, .inr rfl, .inr rfl, .inr rfl, .inr rfl, .inr rfl, .inr rfl, .inr rfl, .inr rfl, trivial⟩
          · have d0 : D / 2 ^ k % 2 = 0 := nI_inj (b := 0) (by omega) (by decide) c51
            have ct : ((mxO (hoF N) (N 4) t)).contains k = false := by cases q : ((mxO (hoF N) (N 4) t)).contains k with | false => rfl | true => have := mk.mp q; omega
            have e0 : mxB (hoF N) (mxO (hoF N) (N 4) t) (k + 1) = match (mxB (hoF N) (mxO (hoF N) (N 4) t) k) with | none => if ((mxO (hoF N) (N 4) t)).contains k = true then none else some k | some b => if ((mxO (hoF N) (N 4) t)).contains k = false ∧ hoF N b < hoF N k then some k else some b := rfl
            refine x_iload (pc := 54) cx (dA ddX8_fillOf (i := 33) rfl) rfl ?_
            refine x_iconst (pc := 56) (v := -1) cx (dA ddX8_fillOf (i := 34) rfl) (by decide) ?_
            refine x_icmp_eq (pc := 57) (tgt := 79) cx (dA ddX8_fillOf (i := 35) rfl) (by decide) (fun c57 => ?_) (fun c57 => ?_)
            · have bn : (mxB (hoF N) (mxO (hoF N) (N 4) t) k) = none := (nhV_m1 rv).mp c57
              have eB : mxB (hoF N) (mxO (hoF N) (N 4) t) (k + 1) = some k := by rw [e0, bn]; exact if_neg (by rw [ct]; exact fun q => Bool.noConfusion q)
              refine x_iload (pc := 79) cx (dA ddX8_fillOf (i := 47) rfl) rfl ?_
              refine x_istore (pc := 81) cx (dA ddX8_fillOf (i := 48) rfl) (by decide) rfl ?_
              refine x_iinc (pc := 83) cx (dA ddX8_fillOf (i := 49) rfl) rfl (iinc1 _) (by decide) rfl ?_
              refine x_goto (pc := 86) (tgt := 34) cx (dA ddX8_fillOf (i := 50) rfl) (by decide) ?_
              have L := ih2 (by omega)
              rw [eB] at L
              exact x_enter L ⟨.inr rfl, .inr rfl, .inr rfl, .inr rfl, .inr rfl, .inr rfl, .inr rfl, .inr rfl, .inr rfl, trivial⟩
            · obtain ⟨b, hb⟩ : ∃ b, (mxB (hoF N) (mxO (hoF N) (N 4) t) k) = some b := by cases q : (mxB (hoF N) (mxO (hoF N) (N 4) t) k) with | none => exact absurd ((nhV_m1 rv).mpr q) c57 | some b => exact ⟨b, rfl⟩
              have bk := mxB_lt hb
              rw [hb, show nhV (some b) = nI b from rfl]
              have h9a := hB.2 (5 + 5 * k + 2) (by omega)
              have h9b := hB.2 (5 + 5 * b + 2) (by omega)
              refine x_aload_n (pc := 60) cx (dA ddX8_fillOf (i := 36) rfl) rfl ?_
              refine x_iload_n (pc := 61) cx (dA ddX8_fillOf (i := 37) rfl) rfl ?_
              refine x_iload (pc := 62) cx (dA ddX8_fillOf (i := 38) rfl) rfl ?_
              refine x_iconst (pc := 64) (v := nI 2) cx (dA ddX8_fillOf (i := 39) rfl) (by decide) ?_
              refine x_V3 (pc := 65) mX8_229 h0 (c_X8_numberOf hM hh hR hB (k := k) (w := 2) c41 (by omega)) cx (dA ddX8_fillOf (i := 40) rfl) (kI ?_)
              refine x_aload_n (pc := 68) cx (dA ddX8_fillOf (i := 41) rfl) rfl ?_
              refine x_iload_n (pc := 69) cx (dA ddX8_fillOf (i := 42) rfl) rfl ?_
              refine x_iload (pc := 70) cx (dA ddX8_fillOf (i := 43) rfl) rfl ?_
              refine x_iconst (pc := 72) (v := nI 2) cx (dA ddX8_fillOf (i := 44) rfl) (by decide) ?_
              refine x_V3 (pc := 73) mX8_229 h0 (c_X8_numberOf hM hh hR hB (k := b) (w := 2) (by omega) (by omega)) cx (dA ddX8_fillOf (i := 45) rfl) (kI ?_)
              refine x_icmp_le (pc := 76) (tgt := 83) cx (dA ddX8_fillOf (i := 46) rfl) (by decide) (fun c76 => ?_) (fun c76 => ?_)
              · have c76 := cleT (by omega) (by omega) c76
                have eB : mxB (hoF N) (mxO (hoF N) (N 4) t) (k + 1) = some b := by rw [e0, hb]; exact if_neg (fun q => absurd q.2 (show ¬ N (5 + 5 * b + 2) < N (5 + 5 * k + 2) by omega))
                refine x_iinc (pc := 83) cx (dA ddX8_fillOf (i := 49) rfl) rfl (iinc1 _) (by decide) rfl ?_
                refine x_goto (pc := 86) (tgt := 34) cx (dA ddX8_fillOf (i := 50) rfl) (by decide) ?_
                have L := ih2 (by omega)
                rw [eB] at L
                exact x_enter L ⟨.inr rfl, .inr rfl, .inr rfl, .inr rfl, .inr rfl, .inr rfl, .inr rfl, .inr rfl, .inr rfl, trivial⟩
              · have c76 := cleF (by omega) (by omega) c76
                have eB : mxB (hoF N) (mxO (hoF N) (N 4) t) (k + 1) = some k := by rw [e0, hb]; exact if_pos ⟨ct, show N (5 + 5 * b + 2) < N (5 + 5 * k + 2) by omega⟩
                refine x_iload (pc := 79) cx (dA ddX8_fillOf (i := 47) rfl) rfl ?_
                refine x_istore (pc := 81) cx (dA ddX8_fillOf (i := 48) rfl) (by decide) rfl ?_
                refine x_iinc (pc := 83) cx (dA ddX8_fillOf (i := 49) rfl) rfl (iinc1 _) (by decide) rfl ?_
                refine x_goto (pc := 86) (tgt := 34) cx (dA ddX8_fillOf (i := 50) rfl) (by decide) ?_
                have L := ih2 (by omega)
                rw [eB] at L
                exact x_enter L ⟨.inr rfl, .inr rfl, .inr rfl, .inr rfl, .inr rfl, .inr rfl, .inr rfl, .inr rfl, .inr rfl, trivial⟩
      exact x_enter (L34 0 (Nat.zero_le _)) ⟨.inr rfl, .inr rfl, .inr rfl, .inr rfl, .inr rfl, .inr rfl, .inr rfl, .inr rfl, .inr rfl, trivial⟩
  exact x_enter (L18 0 (Nat.zero_le _) 0 mskD_0) ⟨.inr rfl, .inr rfl, .inr rfl, .inr rfl, .inr rfl, .inr rfl, .inr rfl, trivial⟩
