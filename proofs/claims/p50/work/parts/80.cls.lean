/-! THE CLASS: what is asked of houses' plans -/
theorem sh3 (h : SH) : h = none ∨ (∃ q, h = some (.inl q)) ∨ ∃ q, h = some (.inr q) := by
  match h with
  | none => exact Or.inl rfl
  | some (.inl q) => exact Or.inr (Or.inl ⟨q, rfl⟩)
  | some (.inr q) => exact Or.inr (Or.inr ⟨q, rfl⟩)
theorem z0t (n : Nat) : 0 ≤ (nI 0).toInt ∧ (nI 0).toInt < ((5 ^ n : Nat) : Int) := by
  have h : 0 < 5 ^ n := Nat.pow_pos (by decide)
  rw [nI_toInt (by decide)]
  omega
section RCL
variable {Z : zP} {G : zG} {V V2 V3 : zV} {x : Nat} {col : Nat → Nat} {S : SX}
theorem RC.sh0 (h : RC Z G V x col S) {r : Nat} (hr : r < 8) (e : S.2.2.2.1 r = none) : slA G (x + 37) (nI r) = none ∧ slA G (x + 38) (nI r) = none := by
  rw [slA_n hr, slA_n hr]
  exact (h.2.2.2.2.2.2.2.1 r hr).1 e
theorem RC.shl (h : RC Z G V x col S) {r : Nat} (hr : r < 8) {q} (e : S.2.2.2.1 r = some (.inl q)) : slA G (x + 38) (nI r) = none ∧ ∃ a, slA G (x + 37) (nI r) = some a ∧ RowAt Z G a q.2.1 ∧ V.1 100 a = nI q.1 ∧ q.1 < 5 ∧ (∀ j, j < q.2.1 → V.2.2.2 (a + 1) j = q.2.2 j) ∧ col a = 2 ∧ col (a + 1) = 2 := by
  rw [slA_n hr, slA_n hr]
  obtain ⟨a, b, c, d⟩ := (h.2.2.2.2.2.2.2.1 r hr).2.1 q e
  exact ⟨c, a, b, d⟩
theorem RC.shr (h : RC Z G V x col S) {r : Nat} (hr : r < 8) {q} (e : S.2.2.2.1 r = some (.inr q)) : slA G (x + 37) (nI r) = none ∧ ∃ a, slA G (x + 38) (nI r) = some a ∧ RlC Z G V col a q := by
  rw [slA_n hr, slA_n hr]
  exact (h.2.2.2.2.2.2.2.1 r hr).2.2 q e
theorem RO.pn (h : RO Z G V x col S V2) {l : Launch} {v : Int32} (hn : ¬ okc S v) : CT l Z yX7_planOf cX7_planOf 4 (some (.object "SendTheBox$Plan")) 4 0 0 [.ref x, .int v] G V2 (pR none G V2) := c_X7_planOf_n h.1.1 h.1.2.2.2.2.1.1 h.1.2.2.2.2.1.2.1 (if_neg hn)
theorem RO.po (h : RO Z G V x col S V2) {l : Launch} {i : Nat} (hi : i < S.1.1) : CT l Z yX7_planOf cX7_planOf 4 (some (.object "SendTheBox$Plan")) 4 0 0 [.ref x, .int (nI i)] G V2 (pRx (some (x + 70 + 12 * i)) G (fun V' => PlanT V' (x + 70 + 12 * i) (S.1.2.1 i) ∧ SameB V2 V' (x + 70 + 12 * i) (x + 70 + 12 * i + 12))) := by
  have hW := h.1.2.2.2.2.1
  have c6 := hW.2.1
  obtain ⟨N, a, b, c, d⟩ := h.1.2.2.2.2.2.2.2.2.2.2.1 i (by omega)
  obtain ⟨oV, oN, zN⟩ := hW.2.2.1 i hi
  exact c_X7_planOf h.1.1 hW.1 c6 hi a b c d oV oN zN
theorem RO.tu (h : RO Z G V x col S V2) {i : Nat} (hi : i < 6) {N : Nat → Nat} (zN : NZ N) (h2 : PlanT V3 (x + 70 + 12 * i) N ∧ SameB V2 V3 (x + 70 + 12 * i) (x + 70 + 12 * i + 12)) : RO Z G V x col S V3 ∧ PlanT V3 (x + 70 + 12 * i) N := ⟨h.pl (Or.inl ⟨i, hi, rfl⟩) h2.2 (h2.1.pl zN), h2.1⟩
theorem RO.px (h : RO Z G V x col S V2) {i L : Nat} (hi : i < 6) {N : Nat → Nat} (zN : NZ N) (hT : PlanT V2 (x + 70 + 12 * i) N) (hx : PX V2 (x + 70 + 12 * i) N L V3) : RO Z G V x col S V3 ∧ PlanT V3 (x + 70 + 12 * i) N := h.tu hi zN (hT.px hx)
theorem RO.pw (h : RO Z G V x col S V2) {i K : Nat} (hi : i < 6) {N : Nat → Nat} (zN : NZ N) (hT : PlanT V2 (x + 70 + 12 * i) N) (hx : PW V2 V3 (x + 70 + 12 * i) N K) : RO Z G V x col S V3 ∧ PlanT V3 (x + 70 + 12 * i) N := h.tu hi zN (hT.pw hx)
theorem PlanT.ch {p : Nat} {N g : Nat → Nat} (h : PlanT V p N) : PlanT (chJ V p N g) p N := by
  obtain ⟨a, ⟨K, b⟩, c⟩ := h
  exact ⟨a, ⟨K, b.ch⟩, c⟩
theorem RO.ch (h : RO Z G V x col S V2) {i : Nat} (hi : i < 6) {N g : Nat → Nat} (zN : NZ N) (hT : PlanT V2 (x + 70 + 12 * i) N) : RO Z G V x col S (chJ V2 (x + 70 + 12 * i) N g) := (h.tu hi zN ⟨hT.ch, (SameB.refl V2 _ _).ch⟩).1
end RCL
theorem c_X7_fill {l : Launch} {Z : zP} {G : zG} {V : zV} {x : Nat} {col : Nat → Nat} {S : SX} (hRC : RC Z G V x col S) {h t : Int32} : CT l Z yX7_fill cX7_fill 4 (some .int) 8 0 0 [.ref x, .int h, .int t] G V (pCI Z G V x col (fFill S h t)) := by
  refine CT.of (by decide +kernel) (Nat.le_of_ble_eq_true rfl) (fun X hX cx => ?_)
  subst hX
  show Wm Z X 4 G V 0 0 _ 0 [(0, some (.ref x)), (1, some (.int h)), (2, some (.int t))] []
  have hQ := hRC.1
  have h0 := hQ.1
  have hWd := hRC.2.2.2.2.1
  have c6 := hWd.2.1
  have hO := RO.refl hRC
  refine x_aload_n (pc := 0) cx (dA ddX7_fill (i := 0) rfl) rfl ?_
  refine x_iload_n (pc := 1) cx (dA ddX7_fill (i := 1) rfl) rfl ?_
  by_cases ch : okc S h
  · obtain ⟨i, hi, rfl, ti⟩ := i32_in ch
    have i6 : i < 6 := by omega
    have eX : hX S (nI i) = S.1.2.1 i := hX_at (by omega)
    have hP := (hQ.2.2.2.2.2.2.2.2.2.2.2.2 i i6).2
    obtain ⟨-, hN, zN⟩ := hWd.2.2.1 i hi
    have hB := hN.1
    have b4 := hB.1
    have n125 := st125 b4
    have h06 := hN.2.1
    refine x_V1 (pc := 2) mX7_183 h0 (hO.po hi) cx (dA ddX7_fill (i := 2) rfl) (kRx fun V2 h2 => ?_)
    obtain ⟨hO, hT⟩ := hO.tu i6 zN h2
    rw [show va_rf (some (x + 70 + 12 * i)) = .ref (x + 70 + 12 * i) from rfl]
    refine x_astore_n (pc := 5) cx (dA ddX7_fill (i := 3) rfl) (by decide) rfl ?_
    refine x_aload_n (pc := 6) cx (dA ddX7_fill (i := 4) rfl) rfl ?_
    refine x_ifnull_s (pc := 7) cx (dA ddX7_fill (i := 5) rfl) ?_
    refine x_aload_n (pc := 10) cx (dA ddX7_fill (i := 6) rfl) rfl ?_
    refine x_iload_n (pc := 11) cx (dA ddX7_fill (i := 7) rfl) rfl ?_
    refine x_V1 (pc := 12) mX7_187 hP.1 (c_X1_hasState hP hT.1) cx (dA ddX7_fill (i := 8) rfl) (kI ?_)
    refine x_if_ne (pc := 15) (tgt := 25) cx (dA ddX7_fill (i := 9) rfl) (by decide) (fun c15 => ?_) (fun c15 => ?_)
    · have cP := b2i_ne c15
      obtain ⟨t, ht, rfl, tt⟩ := i32_in (x := t) (n := 5 ^ S.1.2.1 i 4) cP
      have cP : okt (hX S (nI i)) (nI t) := by rw [eX]; exact cP
      refine x_aload_n (pc := 25) cx (dA ddX7_fill (i := 14) rfl) rfl ?_
      refine x_iload_n (pc := 26) cx (dA ddX7_fill (i := 15) rfl) rfl ?_
      refine x_V1 (pc := 27) mX7_214 hP.1 (c_X1_fillOf hP hT.1 (s := t) ht) cx (dA ddX7_fill (i := 16) rfl) (kI ?_)
      refine x_ireturn (pc := 30) cx (dA ddX7_fill (i := 17) rfl) (by first | exact Nat.le_of_ble_eq_true rfl | omega) (by first | exact Nat.le_of_ble_eq_true rfl | omega) ?_
      exact pCI.q hO (by unfold fFill; rw [if_pos ⟨ch, cP⟩]; simp only [hX, ti, tt])
    · have cP : ¬ okt (hX S (nI i)) t := by rw [eX]; exact b2i_eq c15
      refine x_aload_n (pc := 18) cx (dA ddX7_fill (i := 10) rfl) rfl ?_
      refine x_bipush (pc := 19) (v := -2) cx (dA ddX7_fill (i := 11) rfl) (by decide) ?_
      refine x_V1 (pc := 21) mX7_74 h0 (c_X7_refuse hQ (i := 0) (by decide) rfl) cx (dA ddX7_fill (i := 12) rfl) (kI ?_)
      refine x_ireturn (pc := 24) cx (dA ddX7_fill (i := 13) rfl) (by first | exact Nat.le_of_ble_eq_true rfl | omega) (by first | exact Nat.le_of_ble_eq_true rfl | omega) ?_
      first | exact pCI.r hO (by decide) (if_neg (fun q => ch q.1)) | exact pCI.r hO (by decide) (if_neg (fun q => cP q.2))
  · refine x_V1 (pc := 2) mX7_183 h0 (hO.pn ch) cx (dA ddX7_fill (i := 2) rfl) (kR ?_)
    rw [show va_rf none = .null from rfl]
    refine x_astore_nN (pc := 5) cx (dA ddX7_fill (i := 3) rfl) (by decide) rfl ?_
    refine x_aload_nN (pc := 6) cx (dA ddX7_fill (i := 4) rfl) rfl ?_
    refine x_ifnull_n (pc := 7) (tgt := 18) cx (dA ddX7_fill (i := 5) rfl) (by decide) ?_
    refine x_aload_n (pc := 18) cx (dA ddX7_fill (i := 10) rfl) rfl ?_
    refine x_bipush (pc := 19) (v := -2) cx (dA ddX7_fill (i := 11) rfl) (by decide) ?_
    refine x_V1 (pc := 21) mX7_74 h0 (c_X7_refuse hQ (i := 0) (by decide) rfl) cx (dA ddX7_fill (i := 12) rfl) (kI ?_)
    refine x_ireturn (pc := 24) cx (dA ddX7_fill (i := 13) rfl) (by first | exact Nat.le_of_ble_eq_true rfl | omega) (by first | exact Nat.le_of_ble_eq_true rfl | omega) ?_
    first | exact pCI.r hO (by decide) (if_neg (fun q => ch q.1)) | exact pCI.r hO (by decide) (if_neg (fun q => cP q.2))
theorem c_X7_cost {l : Launch} {Z : zP} {G : zG} {V : zV} {x : Nat} {col : Nat → Nat} {S : SX} (hRC : RC Z G V x col S) {h d t : Int32} : CT l Z yX7_cost cX7_cost 5 (some .long) 8 0 0 [.ref x, .int h, .int d, .int t] G V (pCJ Z G V x col (fCost S h d t)) := by
  refine CT.of (by decide +kernel) (Nat.le_of_ble_eq_true rfl) (fun X hX cx => ?_)
  subst hX
  show Wm Z X 5 G V 0 0 _ 0 [(0, some (.ref x)), (1, some (.int h)), (2, some (.int d)), (3, some (.int t))] []
  have hQ := hRC.1
  have h0 := hQ.1
  have hWd := hRC.2.2.2.2.1
  have c6 := hWd.2.1
  have hO := RO.refl hRC
  refine x_aload_n (pc := 0) cx (dA ddX7_cost (i := 0) rfl) rfl ?_
  refine x_iload_n (pc := 1) cx (dA ddX7_cost (i := 1) rfl) rfl ?_
  by_cases ch : okc S h
  · obtain ⟨i, hi, rfl, ti⟩ := i32_in ch
    have i6 : i < 6 := by omega
    have eX : hX S (nI i) = S.1.2.1 i := hX_at (by omega)
    have hP := (hQ.2.2.2.2.2.2.2.2.2.2.2.2 i i6).2
    obtain ⟨-, hN, zN⟩ := hWd.2.2.1 i hi
    have hB := hN.1
    have b4 := hB.1
    have n125 := st125 b4
    have h06 := hN.2.1
    refine x_V1 (pc := 2) mX7_183 h0 (hO.po hi) cx (dA ddX7_cost (i := 2) rfl) (kRx fun V2 h2 => ?_)
    obtain ⟨hO, hT⟩ := hO.tu i6 zN h2
    rw [show va_rf (some (x + 70 + 12 * i)) = .ref (x + 70 + 12 * i) from rfl]
    refine x_astore (pc := 5) cx (dA ddX7_cost (i := 3) rfl) (by decide) rfl ?_
    refine x_aload (pc := 7) cx (dA ddX7_cost (i := 4) rfl) rfl ?_
    refine x_ifnull_s (pc := 9) cx (dA ddX7_cost (i := 5) rfl) ?_
    refine x_aload (pc := 12) cx (dA ddX7_cost (i := 6) rfl) rfl ?_
    refine x_iload_n (pc := 14) cx (dA ddX7_cost (i := 7) rfl) rfl ?_
    refine x_iload_n (pc := 15) cx (dA ddX7_cost (i := 8) rfl) rfl ?_
    refine x_V2 (pc := 16) mX7_203 hP.1 (c_X1_hasPlace hP hT.1) cx (dA ddX7_cost (i := 9) rfl) (kI ?_)
    refine x_if_ne (pc := 19) (tgt := 30) cx (dA ddX7_cost (i := 10) rfl) (by decide) (fun c19 => ?_) (fun c19 => ?_)
    · have cP := b2i_ne c19
      obtain ⟨d, hd, rfl, td⟩ := i32_in (x := d) (n := S.1.2.1 i 0 + 1) ⟨cP.1.1, by have := cP.1.2; omega⟩
      obtain ⟨t, ht, rfl, tt⟩ := i32_in (x := t) (n := 5 ^ S.1.2.1 i 4) cP.2
      have cP : okl (hX S (nI i)) (nI d) ∧ okt (hX S (nI i)) (nI t) := by rw [eX]; exact cP
      refine x_aload (pc := 30) cx (dA ddX7_cost (i := 16) rfl) rfl ?_
      refine x_iload_n (pc := 32) cx (dA ddX7_cost (i := 17) rfl) rfl ?_
      refine x_iload_n (pc := 33) cx (dA ddX7_cost (i := 18) rfl) rfl ?_
      obtain ⟨K, hC⟩ := hT.2.1
      refine x_V2 (pc := 34) mX7_205 hP.1 (c_X1_leastCost hP hT.1 hC (z := d) (by omega) ht) cx (dA ddX7_cost (i := 19) rfl) (kJx fun V2 h2 => ?_)
      obtain ⟨hO, hT⟩ := hO.px i6 zN hT h2
      refine x_lreturn (pc := 37) cx (dA ddX7_cost (i := 20) rfl) (by first | exact Nat.le_of_ble_eq_true rfl | omega) (by first | exact Nat.le_of_ble_eq_true rfl | omega) ?_
      exact pCJ.q hO (by unfold fCost; rw [if_pos ⟨ch, cP⟩]; simp only [hX, ti, td, tt])
    · have cP : ¬ (okl (hX S (nI i)) d ∧ okt (hX S (nI i)) t) := by rw [eX]; exact b2i_eq c19
      refine x_aload_n (pc := 22) cx (dA ddX7_cost (i := 11) rfl) rfl ?_
      refine x_bipush (pc := 23) (v := -2) cx (dA ddX7_cost (i := 12) rfl) (by decide) ?_
      refine x_V1 (pc := 25) mX7_74 h0 (c_X7_refuse hQ (i := 0) (by decide) rfl) cx (dA ddX7_cost (i := 13) rfl) (kI ?_)
      refine x_i2l (pc := 28) cx (dA ddX7_cost (i := 14) rfl) ?_
      refine x_lreturn (pc := 29) cx (dA ddX7_cost (i := 15) rfl) (by first | exact Nat.le_of_ble_eq_true rfl | omega) (by first | exact Nat.le_of_ble_eq_true rfl | omega) ?_
      first | exact pCJ.r hO (by decide) (if_neg (fun q => ch q.1)) | exact pCJ.r hO (by decide) (if_neg (fun q => cP ⟨q.2.1, q.2.2⟩))
  · refine x_V1 (pc := 2) mX7_183 h0 (hO.pn ch) cx (dA ddX7_cost (i := 2) rfl) (kR ?_)
    rw [show va_rf none = .null from rfl]
    refine x_astoreN (pc := 5) cx (dA ddX7_cost (i := 3) rfl) (by decide) rfl ?_
    refine x_aloadN (pc := 7) cx (dA ddX7_cost (i := 4) rfl) rfl ?_
    refine x_ifnull_n (pc := 9) (tgt := 22) cx (dA ddX7_cost (i := 5) rfl) (by decide) ?_
    refine x_aload_n (pc := 22) cx (dA ddX7_cost (i := 11) rfl) rfl ?_
    refine x_bipush (pc := 23) (v := -2) cx (dA ddX7_cost (i := 12) rfl) (by decide) ?_
    refine x_V1 (pc := 25) mX7_74 h0 (c_X7_refuse hQ (i := 0) (by decide) rfl) cx (dA ddX7_cost (i := 13) rfl) (kI ?_)
    refine x_i2l (pc := 28) cx (dA ddX7_cost (i := 14) rfl) ?_
    refine x_lreturn (pc := 29) cx (dA ddX7_cost (i := 15) rfl) (by first | exact Nat.le_of_ble_eq_true rfl | omega) (by first | exact Nat.le_of_ble_eq_true rfl | omega) ?_
    first | exact pCJ.r hO (by decide) (if_neg (fun q => ch q.1)) | exact pCJ.r hO (by decide) (if_neg (fun q => cP ⟨q.2.1, q.2.2⟩))
theorem c_X7_best {l : Launch} {Z : zP} {G : zG} {V : zV} {x : Nat} {col : Nat → Nat} {S : SX} (hRC : RC Z G V x col S) {h d t : Int32} : CT l Z yX7_best cX7_best 5 (some .int) 8 0 0 [.ref x, .int h, .int d, .int t] G V (pCI Z G V x col (fBest S h d t)) := by
  refine CT.of (by decide +kernel) (Nat.le_of_ble_eq_true rfl) (fun X hX cx => ?_)
  subst hX
  show Wm Z X 5 G V 0 0 _ 0 [(0, some (.ref x)), (1, some (.int h)), (2, some (.int d)), (3, some (.int t))] []
  have hQ := hRC.1
  have h0 := hQ.1
  have hWd := hRC.2.2.2.2.1
  have c6 := hWd.2.1
  have hO := RO.refl hRC
  refine x_aload_n (pc := 0) cx (dA ddX7_best (i := 0) rfl) rfl ?_
  refine x_iload_n (pc := 1) cx (dA ddX7_best (i := 1) rfl) rfl ?_
  by_cases ch : okc S h
  · obtain ⟨i, hi, rfl, ti⟩ := i32_in ch
    have i6 : i < 6 := by omega
    have eX : hX S (nI i) = S.1.2.1 i := hX_at (by omega)
    have hP := (hQ.2.2.2.2.2.2.2.2.2.2.2.2 i i6).2
    obtain ⟨-, hN, zN⟩ := hWd.2.2.1 i hi
    have hB := hN.1
    have b4 := hB.1
    have n125 := st125 b4
    have h06 := hN.2.1
    refine x_V1 (pc := 2) mX7_183 h0 (hO.po hi) cx (dA ddX7_best (i := 2) rfl) (kRx fun V2 h2 => ?_)
    obtain ⟨hO, hT⟩ := hO.tu i6 zN h2
    rw [show va_rf (some (x + 70 + 12 * i)) = .ref (x + 70 + 12 * i) from rfl]
    refine x_astore (pc := 5) cx (dA ddX7_best (i := 3) rfl) (by decide) rfl ?_
    refine x_aload (pc := 7) cx (dA ddX7_best (i := 4) rfl) rfl ?_
    refine x_ifnull_s (pc := 9) cx (dA ddX7_best (i := 5) rfl) ?_
    refine x_aload (pc := 12) cx (dA ddX7_best (i := 6) rfl) rfl ?_
    refine x_iload_n (pc := 14) cx (dA ddX7_best (i := 7) rfl) rfl ?_
    refine x_iload_n (pc := 15) cx (dA ddX7_best (i := 8) rfl) rfl ?_
    refine x_V2 (pc := 16) mX7_208 hP.1 (c_X1_hasDay hP hT.1) cx (dA ddX7_best (i := 9) rfl) (kI ?_)
    refine x_if_ne (pc := 19) (tgt := 29) cx (dA ddX7_best (i := 10) rfl) (by decide) (fun c19 => ?_) (fun c19 => ?_)
    · have cP := b2i_ne c19
      obtain ⟨d, hd, rfl, td⟩ := i32_in (x := d) (n := S.1.2.1 i 0 + 1) ⟨by have := cP.1.1; omega, by have := cP.1.2; omega⟩
      obtain ⟨t, ht, rfl, tt⟩ := i32_in (x := t) (n := 5 ^ S.1.2.1 i 4) cP.2
      have cP : okl1 (hX S (nI i)) (nI d) ∧ okt (hX S (nI i)) (nI t) := by rw [eX]; exact cP
      have d1 : 1 ≤ d := by have := cP.1.1; rw [nI_toInt (by omega)] at this; omega
      refine x_aload (pc := 29) cx (dA ddX7_best (i := 15) rfl) rfl ?_
      refine x_iload_n (pc := 31) cx (dA ddX7_best (i := 16) rfl) rfl ?_
      refine x_iload_n (pc := 32) cx (dA ddX7_best (i := 17) rfl) rfl ?_
      obtain ⟨K, hC⟩ := hT.2.1
      refine x_V2 (pc := 33) mX7_211 hP.1 (c_X1_bestLoad hP hT.1 hC (z := d) d1 (by omega) ht) cx (dA ddX7_best (i := 18) rfl) (kIx fun V2 h2 => ?_)
      obtain ⟨hO, hT⟩ := hO.px i6 zN hT h2
      refine x_ireturn (pc := 36) cx (dA ddX7_best (i := 19) rfl) (by first | exact Nat.le_of_ble_eq_true rfl | omega) (by first | exact Nat.le_of_ble_eq_true rfl | omega) ?_
      exact pCI.q hO (by unfold fBest; rw [if_pos ⟨ch, cP⟩]; simp only [hX, ti, td, tt])
    · have cP : ¬ (okl1 (hX S (nI i)) d ∧ okt (hX S (nI i)) t) := by rw [eX]; exact b2i_eq c19
      refine x_aload_n (pc := 22) cx (dA ddX7_best (i := 11) rfl) rfl ?_
      refine x_bipush (pc := 23) (v := -2) cx (dA ddX7_best (i := 12) rfl) (by decide) ?_
      refine x_V1 (pc := 25) mX7_74 h0 (c_X7_refuse hQ (i := 0) (by decide) rfl) cx (dA ddX7_best (i := 13) rfl) (kI ?_)
      refine x_ireturn (pc := 28) cx (dA ddX7_best (i := 14) rfl) (by first | exact Nat.le_of_ble_eq_true rfl | omega) (by first | exact Nat.le_of_ble_eq_true rfl | omega) ?_
      first | exact pCI.r hO (by decide) (if_neg (fun q => ch q.1)) | exact pCI.r hO (by decide) (if_neg (fun q => cP ⟨q.2.1, q.2.2⟩))
  · refine x_V1 (pc := 2) mX7_183 h0 (hO.pn ch) cx (dA ddX7_best (i := 2) rfl) (kR ?_)
    rw [show va_rf none = .null from rfl]
    refine x_astoreN (pc := 5) cx (dA ddX7_best (i := 3) rfl) (by decide) rfl ?_
    refine x_aloadN (pc := 7) cx (dA ddX7_best (i := 4) rfl) rfl ?_
    refine x_ifnull_n (pc := 9) (tgt := 22) cx (dA ddX7_best (i := 5) rfl) (by decide) ?_
    refine x_aload_n (pc := 22) cx (dA ddX7_best (i := 11) rfl) rfl ?_
    refine x_bipush (pc := 23) (v := -2) cx (dA ddX7_best (i := 12) rfl) (by decide) ?_
    refine x_V1 (pc := 25) mX7_74 h0 (c_X7_refuse hQ (i := 0) (by decide) rfl) cx (dA ddX7_best (i := 13) rfl) (kI ?_)
    refine x_ireturn (pc := 28) cx (dA ddX7_best (i := 14) rfl) (by first | exact Nat.le_of_ble_eq_true rfl | omega) (by first | exact Nat.le_of_ble_eq_true rfl | omega) ?_
    first | exact pCI.r hO (by decide) (if_neg (fun q => ch q.1)) | exact pCI.r hO (by decide) (if_neg (fun q => cP ⟨q.2.1, q.2.2⟩))
theorem c_X7_waits {l : Launch} {Z : zP} {G : zG} {V : zV} {x : Nat} {col : Nat → Nat} {S : SX} (hRC : RC Z G V x col S) {h d t : Int32} : CT l Z yX7_waits cX7_waits 5 (some .long) 8 0 0 [.ref x, .int h, .int d, .int t] G V (pCJ Z G V x col (fWaits S h d t)) := by
  refine CT.of (by decide +kernel) (Nat.le_of_ble_eq_true rfl) (fun X hX cx => ?_)
  subst hX
  show Wm Z X 5 G V 0 0 _ 0 [(0, some (.ref x)), (1, some (.int h)), (2, some (.int d)), (3, some (.int t))] []
  have hQ := hRC.1
  have h0 := hQ.1
  have hWd := hRC.2.2.2.2.1
  have c6 := hWd.2.1
  have hO := RO.refl hRC
  refine x_aload_n (pc := 0) cx (dA ddX7_waits (i := 0) rfl) rfl ?_
  refine x_iload_n (pc := 1) cx (dA ddX7_waits (i := 1) rfl) rfl ?_
  by_cases ch : okc S h
  · obtain ⟨i, hi, rfl, ti⟩ := i32_in ch
    have i6 : i < 6 := by omega
    have eX : hX S (nI i) = S.1.2.1 i := hX_at (by omega)
    have hP := (hQ.2.2.2.2.2.2.2.2.2.2.2.2 i i6).2
    obtain ⟨-, hN, zN⟩ := hWd.2.2.1 i hi
    have hB := hN.1
    have b4 := hB.1
    have n125 := st125 b4
    have h06 := hN.2.1
    refine x_V1 (pc := 2) mX7_183 h0 (hO.po hi) cx (dA ddX7_waits (i := 2) rfl) (kRx fun V2 h2 => ?_)
    obtain ⟨hO, hT⟩ := hO.tu i6 zN h2
    rw [show va_rf (some (x + 70 + 12 * i)) = .ref (x + 70 + 12 * i) from rfl]
    refine x_astore (pc := 5) cx (dA ddX7_waits (i := 3) rfl) (by decide) rfl ?_
    refine x_aload (pc := 7) cx (dA ddX7_waits (i := 4) rfl) rfl ?_
    refine x_ifnull_s (pc := 9) cx (dA ddX7_waits (i := 5) rfl) ?_
    refine x_aload (pc := 12) cx (dA ddX7_waits (i := 6) rfl) rfl ?_
    refine x_iload_n (pc := 14) cx (dA ddX7_waits (i := 7) rfl) rfl ?_
    refine x_iload_n (pc := 15) cx (dA ddX7_waits (i := 8) rfl) rfl ?_
    refine x_V2 (pc := 16) mX7_208 hP.1 (c_X1_hasDay hP hT.1) cx (dA ddX7_waits (i := 9) rfl) (kI ?_)
    refine x_if_ne (pc := 19) (tgt := 30) cx (dA ddX7_waits (i := 10) rfl) (by decide) (fun c19 => ?_) (fun c19 => ?_)
    · have cP := b2i_ne c19
      obtain ⟨d, hd, rfl, td⟩ := i32_in (x := d) (n := S.1.2.1 i 0 + 1) ⟨by have := cP.1.1; omega, by have := cP.1.2; omega⟩
      obtain ⟨t, ht, rfl, tt⟩ := i32_in (x := t) (n := 5 ^ S.1.2.1 i 4) cP.2
      have cP : okl1 (hX S (nI i)) (nI d) ∧ okt (hX S (nI i)) (nI t) := by rw [eX]; exact cP
      have d1 : 1 ≤ d := by have := cP.1.1; rw [nI_toInt (by omega)] at this; omega
      refine x_aload (pc := 30) cx (dA ddX7_waits (i := 16) rfl) rfl ?_
      refine x_iload_n (pc := 32) cx (dA ddX7_waits (i := 17) rfl) rfl ?_
      refine x_iload_n (pc := 33) cx (dA ddX7_waits (i := 18) rfl) rfl ?_
      refine x_iconst (pc := 34) (v := nI 0) cx (dA ddX7_waits (i := 19) rfl) (by decide) ?_
      obtain ⟨K, hC⟩ := hT.2.1
      refine x_V3 (pc := 35) mX7_217 hP.1 (c_X1_costWith hP hT.1 hC (z := d) d1 (by omega) ht (by omega)) cx (dA ddX7_waits (i := 20) rfl) (kJx fun V2 h2 => ?_)
      obtain ⟨hO, hT⟩ := hO.px i6 zN hT h2
      refine x_aload (pc := 38) cx (dA ddX7_waits (i := 21) rfl) rfl ?_
      refine x_iload_n (pc := 40) cx (dA ddX7_waits (i := 22) rfl) rfl ?_
      refine x_iload_n (pc := 41) cx (dA ddX7_waits (i := 23) rfl) rfl ?_
      obtain ⟨K, hC⟩ := hT.2.1
      refine x_V2 (pc := 42) mX7_205 hP.1 (c_X1_leastCost hP hT.1 hC (z := d) (by omega) ht) cx (dA ddX7_waits (i := 24) rfl) (kJx fun V2 h2 => ?_)
      obtain ⟨hO, hT⟩ := hO.px i6 zN hT h2
      refine x_lsub (pc := 45) cx (dA ddX7_waits (i := 25) rfl) ?_
      refine x_lreturn (pc := 46) cx (dA ddX7_waits (i := 26) rfl) (by first | exact Nat.le_of_ble_eq_true rfl | omega) (by first | exact Nat.le_of_ble_eq_true rfl | omega) ?_
      exact pCJ.q hO (by unfold fWaits; rw [if_pos ⟨ch, cP⟩]; simp only [hX, ti, td, tt])
    · have cP : ¬ (okl1 (hX S (nI i)) d ∧ okt (hX S (nI i)) t) := by rw [eX]; exact b2i_eq c19
      refine x_aload_n (pc := 22) cx (dA ddX7_waits (i := 11) rfl) rfl ?_
      refine x_bipush (pc := 23) (v := -2) cx (dA ddX7_waits (i := 12) rfl) (by decide) ?_
      refine x_V1 (pc := 25) mX7_74 h0 (c_X7_refuse hQ (i := 0) (by decide) rfl) cx (dA ddX7_waits (i := 13) rfl) (kI ?_)
      refine x_i2l (pc := 28) cx (dA ddX7_waits (i := 14) rfl) ?_
      refine x_lreturn (pc := 29) cx (dA ddX7_waits (i := 15) rfl) (by first | exact Nat.le_of_ble_eq_true rfl | omega) (by first | exact Nat.le_of_ble_eq_true rfl | omega) ?_
      first | exact pCJ.r hO (by decide) (if_neg (fun q => ch q.1)) | exact pCJ.r hO (by decide) (if_neg (fun q => cP ⟨q.2.1, q.2.2⟩))
  · refine x_V1 (pc := 2) mX7_183 h0 (hO.pn ch) cx (dA ddX7_waits (i := 2) rfl) (kR ?_)
    rw [show va_rf none = .null from rfl]
    refine x_astoreN (pc := 5) cx (dA ddX7_waits (i := 3) rfl) (by decide) rfl ?_
    refine x_aloadN (pc := 7) cx (dA ddX7_waits (i := 4) rfl) rfl ?_
    refine x_ifnull_n (pc := 9) (tgt := 22) cx (dA ddX7_waits (i := 5) rfl) (by decide) ?_
    refine x_aload_n (pc := 22) cx (dA ddX7_waits (i := 11) rfl) rfl ?_
    refine x_bipush (pc := 23) (v := -2) cx (dA ddX7_waits (i := 12) rfl) (by decide) ?_
    refine x_V1 (pc := 25) mX7_74 h0 (c_X7_refuse hQ (i := 0) (by decide) rfl) cx (dA ddX7_waits (i := 13) rfl) (kI ?_)
    refine x_i2l (pc := 28) cx (dA ddX7_waits (i := 14) rfl) ?_
    refine x_lreturn (pc := 29) cx (dA ddX7_waits (i := 15) rfl) (by first | exact Nat.le_of_ble_eq_true rfl | omega) (by first | exact Nat.le_of_ble_eq_true rfl | omega) ?_
    first | exact pCJ.r hO (by decide) (if_neg (fun q => ch q.1)) | exact pCJ.r hO (by decide) (if_neg (fun q => cP ⟨q.2.1, q.2.2⟩))
theorem c_X7_once {l : Launch} {Z : zP} {G : zG} {V : zV} {x : Nat} {col : Nat → Nat} {S : SX} (hRC : RC Z G V x col S) {h d t : Int32} : CT l Z yX7_once cX7_once 5 (some .long) 8 0 0 [.ref x, .int h, .int d, .int t] G V (pCJ Z G V x col (fOnce S h d t)) := by
  refine CT.of (by decide +kernel) (Nat.le_of_ble_eq_true rfl) (fun X hX cx => ?_)
  subst hX
  show Wm Z X 5 G V 0 0 _ 0 [(0, some (.ref x)), (1, some (.int h)), (2, some (.int d)), (3, some (.int t))] []
  have hQ := hRC.1
  have h0 := hQ.1
  have hWd := hRC.2.2.2.2.1
  have c6 := hWd.2.1
  have hO := RO.refl hRC
  refine x_aload_n (pc := 0) cx (dA ddX7_once (i := 0) rfl) rfl ?_
  refine x_iload_n (pc := 1) cx (dA ddX7_once (i := 1) rfl) rfl ?_
  by_cases ch : okc S h
  · obtain ⟨i, hi, rfl, ti⟩ := i32_in ch
    have i6 : i < 6 := by omega
    have eX : hX S (nI i) = S.1.2.1 i := hX_at (by omega)
    have hP := (hQ.2.2.2.2.2.2.2.2.2.2.2.2 i i6).2
    obtain ⟨-, hN, zN⟩ := hWd.2.2.1 i hi
    have hB := hN.1
    have b4 := hB.1
    have n125 := st125 b4
    have h06 := hN.2.1
    refine x_V1 (pc := 2) mX7_183 h0 (hO.po hi) cx (dA ddX7_once (i := 2) rfl) (kRx fun V2 h2 => ?_)
    obtain ⟨hO, hT⟩ := hO.tu i6 zN h2
    rw [show va_rf (some (x + 70 + 12 * i)) = .ref (x + 70 + 12 * i) from rfl]
    refine x_astore (pc := 5) cx (dA ddX7_once (i := 3) rfl) (by decide) rfl ?_
    refine x_aload (pc := 7) cx (dA ddX7_once (i := 4) rfl) rfl ?_
    refine x_ifnull_s (pc := 9) cx (dA ddX7_once (i := 5) rfl) ?_
    refine x_aload (pc := 12) cx (dA ddX7_once (i := 6) rfl) rfl ?_
    refine x_iload_n (pc := 14) cx (dA ddX7_once (i := 7) rfl) rfl ?_
    refine x_iload_n (pc := 15) cx (dA ddX7_once (i := 8) rfl) rfl ?_
    refine x_V2 (pc := 16) mX7_208 hP.1 (c_X1_hasDay hP hT.1) cx (dA ddX7_once (i := 9) rfl) (kI ?_)
    refine x_if_ne (pc := 19) (tgt := 30) cx (dA ddX7_once (i := 10) rfl) (by decide) (fun c19 => ?_) (fun c19 => ?_)
    · have cP := b2i_ne c19
      obtain ⟨d, hd, rfl, td⟩ := i32_in (x := d) (n := S.1.2.1 i 0 + 1) ⟨by have := cP.1.1; omega, by have := cP.1.2; omega⟩
      obtain ⟨t, ht, rfl, tt⟩ := i32_in (x := t) (n := 5 ^ S.1.2.1 i 4) cP.2
      have cP : okl1 (hX S (nI i)) (nI d) ∧ okt (hX S (nI i)) (nI t) := by rw [eX]; exact cP
      have d1 : 1 ≤ d := by have := cP.1.1; rw [nI_toInt (by omega)] at this; omega
      refine x_aload (pc := 30) cx (dA ddX7_once (i := 16) rfl) rfl ?_
      refine x_iload_n (pc := 32) cx (dA ddX7_once (i := 17) rfl) rfl ?_
      refine x_iload_n (pc := 33) cx (dA ddX7_once (i := 18) rfl) rfl ?_
      refine x_aload (pc := 34) cx (dA ddX7_once (i := 19) rfl) rfl ?_
      refine x_iload_n (pc := 36) cx (dA ddX7_once (i := 20) rfl) rfl ?_
      refine x_V1 (pc := 37) mX7_214 hP.1 (c_X1_fillOf hP hT.1 (s := t) ht) cx (dA ddX7_once (i := 21) rfl) (kI ?_)
      obtain ⟨K, hC⟩ := hT.2.1
      refine x_V3 (pc := 40) mX7_217 hP.1 (c_X1_costWith hP hT.1 hC (z := d) d1 (by omega) ht (fillP_le hN (by omega))) cx (dA ddX7_once (i := 22) rfl) (kJx fun V2 h2 => ?_)
      obtain ⟨hO, hT⟩ := hO.px i6 zN hT h2
      refine x_aload (pc := 43) cx (dA ddX7_once (i := 23) rfl) rfl ?_
      refine x_iload_n (pc := 45) cx (dA ddX7_once (i := 24) rfl) rfl ?_
      refine x_iload_n (pc := 46) cx (dA ddX7_once (i := 25) rfl) rfl ?_
      obtain ⟨K, hC⟩ := hT.2.1
      refine x_V2 (pc := 47) mX7_205 hP.1 (c_X1_leastCost hP hT.1 hC (z := d) (by omega) ht) cx (dA ddX7_once (i := 26) rfl) (kJx fun V2 h2 => ?_)
      obtain ⟨hO, hT⟩ := hO.px i6 zN hT h2
      refine x_lsub (pc := 50) cx (dA ddX7_once (i := 27) rfl) ?_
      refine x_lreturn (pc := 51) cx (dA ddX7_once (i := 28) rfl) (by first | exact Nat.le_of_ble_eq_true rfl | omega) (by first | exact Nat.le_of_ble_eq_true rfl | omega) ?_
      exact pCJ.q hO (by unfold fOnce; rw [if_pos ⟨ch, cP⟩]; simp only [hX, ti, td, tt])
    · have cP : ¬ (okl1 (hX S (nI i)) d ∧ okt (hX S (nI i)) t) := by rw [eX]; exact b2i_eq c19
      refine x_aload_n (pc := 22) cx (dA ddX7_once (i := 11) rfl) rfl ?_
      refine x_bipush (pc := 23) (v := -2) cx (dA ddX7_once (i := 12) rfl) (by decide) ?_
      refine x_V1 (pc := 25) mX7_74 h0 (c_X7_refuse hQ (i := 0) (by decide) rfl) cx (dA ddX7_once (i := 13) rfl) (kI ?_)
      refine x_i2l (pc := 28) cx (dA ddX7_once (i := 14) rfl) ?_
      refine x_lreturn (pc := 29) cx (dA ddX7_once (i := 15) rfl) (by first | exact Nat.le_of_ble_eq_true rfl | omega) (by first | exact Nat.le_of_ble_eq_true rfl | omega) ?_
      first | exact pCJ.r hO (by decide) (if_neg (fun q => ch q.1)) | exact pCJ.r hO (by decide) (if_neg (fun q => cP ⟨q.2.1, q.2.2⟩))
  · refine x_V1 (pc := 2) mX7_183 h0 (hO.pn ch) cx (dA ddX7_once (i := 2) rfl) (kR ?_)
    rw [show va_rf none = .null from rfl]
    refine x_astoreN (pc := 5) cx (dA ddX7_once (i := 3) rfl) (by decide) rfl ?_
    refine x_aloadN (pc := 7) cx (dA ddX7_once (i := 4) rfl) rfl ?_
    refine x_ifnull_n (pc := 9) (tgt := 22) cx (dA ddX7_once (i := 5) rfl) (by decide) ?_
    refine x_aload_n (pc := 22) cx (dA ddX7_once (i := 11) rfl) rfl ?_
    refine x_bipush (pc := 23) (v := -2) cx (dA ddX7_once (i := 12) rfl) (by decide) ?_
    refine x_V1 (pc := 25) mX7_74 h0 (c_X7_refuse hQ (i := 0) (by decide) rfl) cx (dA ddX7_once (i := 13) rfl) (kI ?_)
    refine x_i2l (pc := 28) cx (dA ddX7_once (i := 14) rfl) ?_
    refine x_lreturn (pc := 29) cx (dA ddX7_once (i := 15) rfl) (by first | exact Nat.le_of_ble_eq_true rfl | omega) (by first | exact Nat.le_of_ble_eq_true rfl | omega) ?_
    first | exact pCJ.r hO (by decide) (if_neg (fun q => ch q.1)) | exact pCJ.r hO (by decide) (if_neg (fun q => cP ⟨q.2.1, q.2.2⟩))
theorem c_X7_promise {l : Launch} {Z : zP} {G : zG} {V : zV} {x : Nat} {col : Nat → Nat} {S : SX} (hRC : RC Z G V x col S) {h d : Int32} : CT l Z yX7_promise cX7_promise 4 (some .long) 8 0 0 [.ref x, .int h, .int d] G V (pCJ Z G V x col (fPromise S h d)) := by
  refine CT.of (by decide +kernel) (Nat.le_of_ble_eq_true rfl) (fun X hX cx => ?_)
  subst hX
  show Wm Z X 4 G V 0 0 _ 0 [(0, some (.ref x)), (1, some (.int h)), (2, some (.int d))] []
  have hQ := hRC.1
  have h0 := hQ.1
  have hWd := hRC.2.2.2.2.1
  have c6 := hWd.2.1
  have hO := RO.refl hRC
  refine x_aload_n (pc := 0) cx (dA ddX7_promise (i := 0) rfl) rfl ?_
  refine x_iload_n (pc := 1) cx (dA ddX7_promise (i := 1) rfl) rfl ?_
  by_cases ch : okc S h
  · obtain ⟨i, hi, rfl, ti⟩ := i32_in ch
    have i6 : i < 6 := by omega
    have eX : hX S (nI i) = S.1.2.1 i := hX_at (by omega)
    have hP := (hQ.2.2.2.2.2.2.2.2.2.2.2.2 i i6).2
    obtain ⟨-, hN, zN⟩ := hWd.2.2.1 i hi
    have hB := hN.1
    have b4 := hB.1
    have n125 := st125 b4
    have h06 := hN.2.1
    refine x_V1 (pc := 2) mX7_183 h0 (hO.po hi) cx (dA ddX7_promise (i := 2) rfl) (kRx fun V2 h2 => ?_)
    obtain ⟨hO, hT⟩ := hO.tu i6 zN h2
    rw [show va_rf (some (x + 70 + 12 * i)) = .ref (x + 70 + 12 * i) from rfl]
    refine x_astore_n (pc := 5) cx (dA ddX7_promise (i := 3) rfl) (by decide) rfl ?_
    refine x_aload_n (pc := 6) cx (dA ddX7_promise (i := 4) rfl) rfl ?_
    refine x_ifnull_s (pc := 7) cx (dA ddX7_promise (i := 5) rfl) ?_
    refine x_aload_n (pc := 10) cx (dA ddX7_promise (i := 6) rfl) rfl ?_
    refine x_iload_n (pc := 11) cx (dA ddX7_promise (i := 7) rfl) rfl ?_
    refine x_iconst (pc := 12) (v := nI 0) cx (dA ddX7_promise (i := 8) rfl) (by decide) ?_
    refine x_V2 (pc := 13) mX7_208 hP.1 (c_X1_hasDay hP hT.1) cx (dA ddX7_promise (i := 9) rfl) (kI ?_)
    refine x_if_ne (pc := 16) (tgt := 27) cx (dA ddX7_promise (i := 10) rfl) (by decide) (fun c16 => ?_) (fun c16 => ?_)
    · have cP := b2i_ne c16
      obtain ⟨d, hd, rfl, td⟩ := i32_in (x := d) (n := S.1.2.1 i 0 + 1) ⟨by have := cP.1.1; omega, by have := cP.1.2; omega⟩
      have cP : okl1 (hX S (nI i)) (nI d) := by rw [eX]; exact cP.1
      have d1 : 1 ≤ d := by have := cP.1; rw [nI_toInt (by omega)] at this; omega
      refine x_aload_n (pc := 27) cx (dA ddX7_promise (i := 16) rfl) rfl ?_
      refine x_iload_n (pc := 28) cx (dA ddX7_promise (i := 17) rfl) rfl ?_
      obtain ⟨K, hC⟩ := hT.2.1
      refine x_V1 (pc := 29) mX7_225 hP.1 (c_X1_costOfPromise hP hT.1 hC (z := d) d1 (by omega)) cx (dA ddX7_promise (i := 18) rfl) (kJx fun V2 h2 => ?_)
      obtain ⟨hO, hT⟩ := hO.px i6 zN hT h2
      refine x_aload_n (pc := 32) cx (dA ddX7_promise (i := 19) rfl) rfl ?_
      refine x_aload_n (pc := 33) cx (dA ddX7_promise (i := 20) rfl) rfl ?_
      refine gX7_228 (pc := 34) (congrArg Value.int hT.1.2.2.1) cx (dA ddX7_promise (i := 21) rfl) hP.1 ?_
      refine x_iconst (pc := 37) (v := nI 0) cx (dA ddX7_promise (i := 22) rfl) (by decide) ?_
      obtain ⟨K, hC⟩ := hT.2.1
      refine x_V2 (pc := 38) mX7_205 hP.1 (c_X1_leastCost hP hT.1 hC (z := S.1.2.1 i 0) (by omega) (s := 0) (Nat.pow_pos (by decide))) cx (dA ddX7_promise (i := 23) rfl) (kJx fun V2 h2 => ?_)
      obtain ⟨hO, hT⟩ := hO.px i6 zN hT h2
      refine x_lsub (pc := 41) cx (dA ddX7_promise (i := 24) rfl) ?_
      refine x_lreturn (pc := 42) cx (dA ddX7_promise (i := 25) rfl) (by first | exact Nat.le_of_ble_eq_true rfl | omega) (by first | exact Nat.le_of_ble_eq_true rfl | omega) ?_
      exact pCJ.q hO (by unfold fPromise; rw [if_pos ⟨ch, cP⟩]; simp only [hX, ti, td])
    · have cP : ¬ okl1 (hX S (nI i)) d := by rw [eX]; exact fun q => b2i_eq c16 ⟨q, z0t _⟩
      refine x_aload_n (pc := 19) cx (dA ddX7_promise (i := 11) rfl) rfl ?_
      refine x_bipush (pc := 20) (v := -2) cx (dA ddX7_promise (i := 12) rfl) (by decide) ?_
      refine x_V1 (pc := 22) mX7_74 h0 (c_X7_refuse hQ (i := 0) (by decide) rfl) cx (dA ddX7_promise (i := 13) rfl) (kI ?_)
      refine x_i2l (pc := 25) cx (dA ddX7_promise (i := 14) rfl) ?_
      refine x_lreturn (pc := 26) cx (dA ddX7_promise (i := 15) rfl) (by first | exact Nat.le_of_ble_eq_true rfl | omega) (by first | exact Nat.le_of_ble_eq_true rfl | omega) ?_
      first | exact pCJ.r hO (by decide) (if_neg (fun q => ch q.1)) | exact pCJ.r hO (by decide) (if_neg (fun q => cP q.2))
  · refine x_V1 (pc := 2) mX7_183 h0 (hO.pn ch) cx (dA ddX7_promise (i := 2) rfl) (kR ?_)
    rw [show va_rf none = .null from rfl]
    refine x_astore_nN (pc := 5) cx (dA ddX7_promise (i := 3) rfl) (by decide) rfl ?_
    refine x_aload_nN (pc := 6) cx (dA ddX7_promise (i := 4) rfl) rfl ?_
    refine x_ifnull_n (pc := 7) (tgt := 19) cx (dA ddX7_promise (i := 5) rfl) (by decide) ?_
    refine x_aload_n (pc := 19) cx (dA ddX7_promise (i := 11) rfl) rfl ?_
    refine x_bipush (pc := 20) (v := -2) cx (dA ddX7_promise (i := 12) rfl) (by decide) ?_
    refine x_V1 (pc := 22) mX7_74 h0 (c_X7_refuse hQ (i := 0) (by decide) rfl) cx (dA ddX7_promise (i := 13) rfl) (kI ?_)
    refine x_i2l (pc := 25) cx (dA ddX7_promise (i := 14) rfl) ?_
    refine x_lreturn (pc := 26) cx (dA ddX7_promise (i := 15) rfl) (by first | exact Nat.le_of_ble_eq_true rfl | omega) (by first | exact Nat.le_of_ble_eq_true rfl | omega) ?_
    first | exact pCJ.r hO (by decide) (if_neg (fun q => ch q.1)) | exact pCJ.r hO (by decide) (if_neg (fun q => cP q.2))
