theorem same4.ds {V V' : zV} {a w wd : Nat} {τ : WK} {d : Int32} (h : same4 V V' a) (h1 : a ≠ w) (h2 : a ≠ wd) : same4 V (dsV V' w wd τ d) a := (h.sI h2).wk h1
section RW
variable {Z : zP} {G : zG} {V V2 : zV} {col : Nat → Nat} {x : Nat} {S : SX}
/-- days of the week under way -/
theorem RC.wk (h : RC Z G V x col S) {ws : WS} (e : S.1.2.2.2 = some ws) {τ : WK} {d : Int32} (h1 : τ.1 ≤ ws.1 0) (h2 : τ.2.1 < 5 ^ ws.1 4) : RC Z G (dsV V (x + 1 + 2) (x + 1) τ d) x col (putW S (S.1.1, S.1.2.1, d, some (ws.1, ws.2.1, τ))) := by
  have hWd := h.2.2.2.2.1
  obtain ⟨q, q1, q2, q3, q4, q5, -, -⟩ := hWd.2.2.2.2.2 ws e
  refine h.tg (S' := putW S (S.1.1, S.1.2.1, d, some (ws.1, ws.2.1, τ))) (T := fun a => a = x + 1 ∨ a = x + 1 + 2) (gW.refl G x) (fun _ _ => rfl) h.2.2.2.1 (fun a _ _ hT => ⟨sameG.refl G a, (same4.refl V a).ds (by omega) (by omega)⟩) (fun a ha e => by rcases h.out3 e with q | q <;> omega) (Or.inr ⟨((wkV_lo (Or.inr (by decide))).trans (sI_ne (by decide))).trans hWd.1, hWd.2.1, fun i hi => ⟨(hWd.2.2.1 i hi).1, (hWd.2.2.1 i hi).2⟩, ds_302, fun z => (by cases z), fun ws' hws => ?_⟩) (Or.inl ⟨fun a _ _ => by omega, by omega, rfl⟩) (Or.inl ⟨by omega, by omega, rfl⟩) (Or.inl ⟨by omega, by omega, fun a ha e => by rcases h.out2 ha with q | q <;> omega, rfl⟩) (Or.inl ⟨by omega, rfl⟩) (fun i hi => Or.inl fun a _ _ => by omega) (Or.inl fun a _ _ => by omega) (Or.inl fun a _ _ => by omega)
  cases hws
  exact ⟨q, q1, q2.st (Nat.le_refl _) (fun _ _ => rfl) (fun a _ h3 => by have o := h.out3 h3; exact ⟨sameG.refl G a, (same4.refl V a).ds (by omega) (by omega)⟩), q3, q4, q5, wkV_V, h1, h2⟩
/-- draws -/
theorem RC.dr (h : RC Z G V x col S) {d : Int32} {V' : zV} {G' : zG} (hg : gW G G' x) (he : G'.1 = G.1) (hs : ∀ a, a ≠ x + 1 → a ≠ x + 67 → a ≠ x + 69 → sameG G G' a ∧ same4 V V' a) (hc : V'.1 301 (x + 1) = V.1 301 (x + 1)) (hd : V'.1 302 (x + 1) = d) (g1 : sameG G G' (x + 1)) : RC Z G' V' x col (putW S (S.1.1, S.1.2.1, d, S.1.2.2.2)) := by
  have hWd := h.2.2.2.2.1
  refine h.tg (S' := putW S (S.1.1, S.1.2.1, d, S.1.2.2.2)) (T := fun a => a = x + 1 ∨ a = x + 67 ∨ a = x + 69) hg (fun _ _ => rfl) (fun a ha => h.2.2.2.1 a (by omega)) (fun a _ _ hT => hs a (by omega) (by omega) (by omega)) (fun a ha e => by rcases h.out3 e with q | q <;> omega) (Or.inr (hWd.hs hg.1 (fun _ _ => rfl) (fun a _ h2 => by have o := h.out3 h2; exact hs a (by omega) (by omega) (by omega)) (hs _ (by omega) (by omega) (by omega)).1 (hs _ (by omega) (by omega) (by omega)).2 (hs _ (by omega) (by omega) (by omega)).2 (hc.trans hWd.1) hWd.2.1 (fun i hi => ⟨(hWd.2.2.1 i hi).1.same (hs _ (by omega) (by have := hWd.2.1; have : i < S.1.1 := hi; omega) (by have := hWd.2.1; have : i < S.1.1 := hi; omega)).2, (hWd.2.2.1 i hi).2⟩) hd rfl)) (Or.inl ⟨fun a _ _ => by omega, by omega, rfl⟩) (Or.inl ⟨by omega, by omega, rfl⟩) (Or.inl ⟨by omega, by omega, fun a ha e => by rcases h.out2 ha with q | q <;> omega, rfl⟩) (Or.inl ⟨by omega, rfl⟩) (fun i hi => Or.inl fun a _ _ => by omega) (Or.inl fun a _ _ => by omega) (Or.inl fun a _ _ => by omega)
end RW
theorem sR_s8 {G : zG} {f a b j : Nat} {v : Option Nat} : (sR G f a v).2.2.2 b j = G.2.2.2 b j := rfl
theorem c_X7_step {l : Launch} {Z : zP} {G : zG} {V : zV} {x : Nat} {col : Nat → Nat} {S : SX} (hRC : RC Z G V x col S) {D : Int32 → Int32} {vl : Int32 → Nat} (hDr : ∀ d, drw d = D d) (hvl : ∀ d, dvl d = vl d) (hv4 : ∀ d, vl d < 4) {n : Int32} : CT l Z yX7_step cX7_step 3 (some .int) 8 0 0 [.ref x, .int n] G V (pCI Z G V x col (fStep D vl S n)) := by
  refine CT.of (by decide +kernel) (Nat.le_of_ble_eq_true rfl) (fun X hX cx => ?_)
  subst hX
  show Wm Z X 3 G V 0 0 _ 0 [(0, some (.ref x)), (1, some (.int n))] []
  have hQ := hRC.1
  have h0 := hQ.1
  have hWd := hRC.2.2.2.2.1
  have c6 := hWd.2.1
  have hO := RO.refl hRC
  have eW : S.1.2.2.2 = none ∨ ∃ ws, S.1.2.2.2 = some ws := by cases S.1.2.2.2 with | none => exact Or.inl rfl | some ws => exact Or.inr ⟨ws, rfl⟩
  refine x_iload_n (pc := 0) cx (dA ddX7_step (i := 0) rfl) rfl ?_
  refine x_iconst (pc := 1) (v := nI 1) cx (dA ddX7_step (i := 1) rfl) (by decide) ?_
  refine x_icmp_lt (pc := 2) (tgt := 11) cx (dA ddX7_step (i := 2) rfl) (by decide) (fun c2 => ?_) (fun c2 => ?_)
  · rw [i32_lt, show (nI 1).toInt = 1 from rfl] at c2
    refine x_aload_n (pc := 11) cx (dA ddX7_step (i := 6) rfl) rfl ?_
    refine x_bipush (pc := 12) (v := -2) cx (dA ddX7_step (i := 7) rfl) (by decide) ?_
    refine x_V1 (pc := 14) mX7_74 h0 (c_X7_refuse hQ (i := 0) (by decide) rfl) cx (dA ddX7_step (i := 8) rfl) (kI ?_)
    refine x_ireturn (pc := 17) cx (dA ddX7_step (i := 9) rfl) (by first | exact Nat.le_of_ble_eq_true rfl | omega) (by first | exact Nat.le_of_ble_eq_true rfl | omega) ?_
    first | exact pCI.r hO (by decide) (if_neg (fun q => by have := q; omega))
  · rw [i32_lt, show (nI 1).toInt = 1 from rfl] at c2
    refine x_iload_n (pc := 5) cx (dA ddX7_step (i := 3) rfl) rfl ?_
    refine x_bipush (pc := 6) (v := nI 6) cx (dA ddX7_step (i := 4) rfl) (by decide) ?_
    refine x_icmp_le (pc := 8) (tgt := 18) cx (dA ddX7_step (i := 5) rfl) (by decide) (fun c8 => ?_) (fun c8 => ?_)
    · rw [i32_le, show (nI 6).toInt = 6 from rfl] at c8
      have cN : 1 ≤ n.toInt ∧ n.toInt ≤ 6 := by omega
      obtain ⟨n, hn, rfl, tn9⟩ := i32_in (x := n) (n := 7) (by omega)
      have hWk := hQ.2.1.2.2.2.2.2.1
      have hPw := hQ.2.2.2.2.2.2.2.2.1.2
      refine x_aload_n (pc := 18) cx (dA ddX7_step (i := 10) rfl) rfl ?_
      refine gX7_10 (pc := 19) (rfA hQ.2.1.1) cx (dA ddX7_step (i := 11) rfl) h0 ?_
      refine gX7_307 (pc := 22) (rfA hQ.2.1.2.2.2.2.1) cx (dA ddX7_step (i := 12) rfl) hQ.2.1.2.1 ?_
      refine x_astore_n (pc := 25) cx (dA ddX7_step (i := 13) rfl) (by decide) rfl ?_
      refine x_aload_n (pc := 26) cx (dA ddX7_step (i := 14) rfl) rfl ?_
      rcases eW with e | ⟨ws, e⟩
      · have e9 := hWd.2.2.2.2.1 e
        refine x_V0 (pc := 27) mX7_314 hWk.1 (c_X5_isUnderWay_n hWk e9) cx (dA ddX7_step (i := 15) rfl) (kI ?_)
        refine x_if_eq (pc := 30) (tgt := 40) cx (dA ddX7_step (i := 16) rfl) (by decide) (fun c30 => ?_) (fun c30 => absurd rfl c30)
        refine x_aload_n (pc := 40) cx (dA ddX7_step (i := 20) rfl) rfl ?_
        refine x_bipush (pc := 41) (v := -5) cx (dA ddX7_step (i := 21) rfl) (by decide) ?_
        refine x_V1 (pc := 43) mX7_74 h0 (c_X7_refuse hQ (i := 3) (by decide) rfl) cx (dA ddX7_step (i := 22) rfl) (kI ?_)
        refine x_ireturn (pc := 46) cx (dA ddX7_step (i := 23) rfl) (by first | exact Nat.le_of_ble_eq_true rfl | omega) (by first | exact Nat.le_of_ble_eq_true rfl | omega) ?_
        exact pCI.r hO (by decide) (by unfold fStep; rw [if_pos cN, e])
      · obtain ⟨q, e9, hR0, oV, oN, ozN, hWV, hl, hs⟩ := hWd.2.2.2.2.2 ws e
        have o06 := oN.2.1
        have lt6 : ws.2.2.1 ≤ 6 := by omega
        refine x_V0 (pc := 27) mX7_314 hWk.1 (c_X5_isUnderWay_s hWk e9) cx (dA ddX7_step (i := 15) rfl) (kI ?_)
        refine x_if_eq (pc := 30) (tgt := 40) cx (dA ddX7_step (i := 16) rfl) (by decide) (fun c30 => absurd c30 (by decide)) (fun c30 => ?_)
        refine x_aload_n (pc := 33) cx (dA ddX7_step (i := 17) rfl) rfl ?_
        refine x_V0 (pc := 34) mX7_317 hWk.1 (c_X5_daysLeft hWk hWV) cx (dA ddX7_step (i := 18) rfl) (kI ?_)
        refine x_if_ne (pc := 37) (tgt := 47) cx (dA ddX7_step (i := 19) rfl) (by decide) (fun c37 => ?_) (fun c37 => ?_)
        · have nz : ¬ ws.2.2.1 = 0 := fun z => c37 (by rw [z]; rfl)
          refine x_aload_n (pc := 47) cx (dA ddX7_step (i := 24) rfl) rfl ?_
          refine gX7_49 (pc := 48) (rfA hQ.2.2.2.2.2.2.2.2.1.1) cx (dA ddX7_step (i := 25) rfl) h0 ?_
          refine x_aload_n (pc := 51) cx (dA ddX7_step (i := 26) rfl) rfl ?_
          refine gX7_320 (pc := 52) (rfA hWk.2.1) cx (dA ddX7_step (i := 27) rfl) hWk.1 ?_
          obtain ⟨N0, w1, w2, w3, w4⟩ := hRC.2.2.2.2.2.2.2.2.2.2.2.1
          refine x_V1 (pc := 55) mX7_292 hPw.1 (c_X1_turnTo hPw w1 w2 w3 w4 hWk.2.2 oV oN ozN (by omega)) cx (dA ddX7_step (i := 28) rfl) (kVx fun V2 h2 => ?_)
          have hO := hO.pl (Or.inr (Or.inl rfl)) h2.2 (h2.1.pl ozN)
          have hT := h2.1
          refine x_aload_n (pc := 58) cx (dA ddX7_step (i := 29) rfl) rfl ?_
          refine gX7_49 (pc := 59) (rfA hQ.2.2.2.2.2.2.2.2.1.1) cx (dA ddX7_step (i := 30) rfl) h0 ?_
          refine x_aload_n (pc := 62) cx (dA ddX7_step (i := 31) rfl) rfl ?_
          refine gX7_321 (pc := 63) (rfA e9) cx (dA ddX7_step (i := 32) rfl) hWk.1 ?_
          obtain ⟨K, hC⟩ := hT.2.1
          obtain ⟨q2, e92, hR, -⟩ := hO.1.2.2.2.2.1.2.2.2.2.2 ws e
          rw [e9] at e92
          cases e92
          refine x_V1 (pc := 66) mX7_325 hPw.1 (c_X1_getReadyFor hPw hT.1 hC hR.1) cx (dA ddX7_step (i := 33) rfl) (kVx fun V3 h3 => ?_)
          obtain ⟨K2, -, hk4, h3⟩ := h3
          have t3 := hT.pw h3
          have hO := hO.pl (Or.inr (Or.inl rfl)) t3.2 (t3.1.pl ozN)
          have hC := h3.2.1
          refine x_aload_n (pc := 69) cx (dA ddX7_step (i := 34) rfl) rfl ?_
          refine x_aload_n (pc := 70) cx (dA ddX7_step (i := 35) rfl) rfl ?_
          refine x_aload_n (pc := 71) cx (dA ddX7_step (i := 36) rfl) rfl ?_
          refine gX7_49 (pc := 72) (rfA hQ.2.2.2.2.2.2.2.2.1.1) cx (dA ddX7_step (i := 37) rfl) h0 ?_
          refine x_iload_n (pc := 75) cx (dA ddX7_step (i := 38) rfl) rfl ?_
          obtain ⟨q2, e92, hR, oV, -, -, hWV, -, -⟩ := hO.1.2.2.2.2.1.2.2.2.2.2 ws e
          rw [e9] at e92
          cases e92
          refine x_V3 (pc := 76) mX7_329 h0 (c_X7_passDays (V := V3) hQ hWk oV hPw t3.1.1 hC hR.1 e9 hDr hvl hv4 hWV hO.1.2.2.2.2.1.2.2.2.1 hl hs (fun e => by have := hk4 e; omega) (n := n) (by omega)) cx (dA ddX7_step (i := 39) rfl) (kI ?_)
          refine x_ireturn (pc := 79) cx (dA ddX7_step (i := 40) rfl) (by first | exact Nat.le_of_ble_eq_true rfl | omega) (by first | exact Nat.le_of_ble_eq_true rfl | omega) ?_
          have st := pdA_st (D := D) (vl := vl) (L := ruR ws.1 ws.2.1) (d := S.1.2.2.1) oN.1.1 hs n
          have r4 := hO.1.wk e (τ := (pdA D vl ws.1 (ruR ws.1 ws.2.1) ws.2.2 S.1.2.2.1 n).2.1) (d := (pdA D vl ws.1 (ruR ws.1 ws.2.1) ws.2.2 S.1.2.2.1 n).2.2) (by omega) st.2
          exact pCI.g (S' := putW S (S.1.1, S.1.2.1, (pdA D vl ws.1 (ruR ws.1 ws.2.1) ws.2.2 S.1.2.2.1 n).2.2, some (ws.1, ws.2.1, (pdA D vl ws.1 (ruR ws.1 ws.2.1) ws.2.2 S.1.2.2.1 n).2.1))) (by unfold fStep; rw [if_pos cN, e, tn9]; exact if_neg nz) r4 (Nat.le_refl _) (fun _ _ => rfl) (fun a _ ha => by have o := hRC.out0 ha; exact ⟨sameG.refl G a, (hO.2 a ha).ds (by omega) (by omega)⟩)
        · have z0 : ws.2.2.1 = 0 := nI_inj (b := 0) (by omega) (by decide) c37
          refine x_aload_n (pc := 40) cx (dA ddX7_step (i := 20) rfl) rfl ?_
          refine x_bipush (pc := 41) (v := -5) cx (dA ddX7_step (i := 21) rfl) (by decide) ?_
          refine x_V1 (pc := 43) mX7_74 h0 (c_X7_refuse hQ (i := 3) (by decide) rfl) cx (dA ddX7_step (i := 22) rfl) (kI ?_)
          refine x_ireturn (pc := 46) cx (dA ddX7_step (i := 23) rfl) (by first | exact Nat.le_of_ble_eq_true rfl | omega) (by first | exact Nat.le_of_ble_eq_true rfl | omega) ?_
          exact pCI.r hO (by decide) (by unfold fStep; rw [if_pos cN, e]; exact if_pos z0)
    · rw [i32_le, show (nI 6).toInt = 6 from rfl] at c8
      refine x_aload_n (pc := 11) cx (dA ddX7_step (i := 6) rfl) rfl ?_
      refine x_bipush (pc := 12) (v := -2) cx (dA ddX7_step (i := 7) rfl) (by decide) ?_
      refine x_V1 (pc := 14) mX7_74 h0 (c_X7_refuse hQ (i := 0) (by decide) rfl) cx (dA ddX7_step (i := 8) rfl) (kI ?_)
      refine x_ireturn (pc := 17) cx (dA ddX7_step (i := 9) rfl) (by first | exact Nat.le_of_ble_eq_true rfl | omega) (by first | exact Nat.le_of_ble_eq_true rfl | omega) ?_
      first | exact pCI.r hO (by decide) (if_neg (fun q => by have := q; omega))
theorem c_X7_weeks {l : Launch} {Z : zP} {G : zG} {V : zV} {x : Nat} {col : Nat → Nat} {S : SX} (hRC : RC Z G V x col S) {D : Int32 → Int32} {vl : Int32 → Nat} (hDr : ∀ d, drw d = D d) (hvl : ∀ d, dvl d = vl d) (hv4 : ∀ d, vl d < 4) {h r n : Int32} : CT l Z yX7_weeks cX7_weeks 8 (some .int) 8 0 0 [.ref x, .int h, .int r, .int n] G V (pCI Z G V x col (fWeeks D vl S h r n)) := by
  refine CT.of (by decide +kernel) (Nat.le_of_ble_eq_true rfl) (fun X hX cx => ?_)
  subst hX
  show Wm Z X 8 G V 0 0 _ 0 [(0, some (.ref x)), (1, some (.int h)), (2, some (.int r)), (3, some (.int n))] []
  have hQ := hRC.1
  have h0 := hQ.1
  have hWd := hRC.2.2.2.2.1
  have c6 := hWd.2.1
  have hO := RO.refl hRC
  refine x_aload_n (pc := 0) cx (dA ddX7_weeks (i := 0) rfl) rfl ?_
  refine x_iload_n (pc := 1) cx (dA ddX7_weeks (i := 1) rfl) rfl ?_
  by_cases ch : okc S h
  · obtain ⟨i, hi, rfl, ti⟩ := i32_in ch
    have i6 : i < 6 := by omega
    have eX : hX S (nI i) = S.1.2.1 i := hX_at (by omega)
    have hP := (hQ.2.2.2.2.2.2.2.2.2.2.2.2 i i6).2
    obtain ⟨-, hN, zN⟩ := hWd.2.2.1 i hi
    have hB := hN.1
    have b4 := hB.1
    have n125 := st125 b4
    have h06 := hN.2.1
    refine x_V1 (pc := 2) mX7_183 h0 (hO.po hi) cx (dA ddX7_weeks (i := 2) rfl) (kRx fun V2 h2 => ?_)
    obtain ⟨hO, hT⟩ := hO.tu i6 zN h2
    rw [show va_rf (some (x + 70 + 12 * i)) = .ref (x + 70 + 12 * i) from rfl]
    refine x_astore (pc := 5) cx (dA ddX7_weeks (i := 3) rfl) (by decide) rfl ?_
    refine x_aload (pc := 7) cx (dA ddX7_weeks (i := 4) rfl) rfl ?_
    refine x_ifnull_s (pc := 9) cx (dA ddX7_weeks (i := 5) rfl) ?_
    refine x_iload_n (pc := 12) cx (dA ddX7_weeks (i := 6) rfl) rfl ?_
    refine x_S1 (pc := 13) mX7_70 c_X7_isShelf cx (dA ddX7_weeks (i := 7) rfl) (kI ?_)
    refine x_if_eq (pc := 16) (tgt := 30) cx (dA ddX7_weeks (i := 8) rfl) (by decide) (fun c16 => ?_) (fun c16 => ?_)
    · have cr := b2i_eq c16
      refine x_aload_n (pc := 30) cx (dA ddX7_weeks (i := 15) rfl) rfl ?_
      refine x_bipush (pc := 31) (v := -2) cx (dA ddX7_weeks (i := 16) rfl) (by decide) ?_
      refine x_V1 (pc := 33) mX7_74 h0 (c_X7_refuse hQ (i := 0) (by decide) rfl) cx (dA ddX7_weeks (i := 17) rfl) (kI ?_)
      refine x_ireturn (pc := 36) cx (dA ddX7_weeks (i := 18) rfl) (by first | exact Nat.le_of_ble_eq_true rfl | omega) (by first | exact Nat.le_of_ble_eq_true rfl | omega) ?_
      first | exact pCI.r hO (by decide) (if_neg (fun q => ch q.1)) | exact pCI.r hO (by decide) (if_neg (fun q => cr q.2.1)) | exact pCI.r hO (by decide) (if_neg (fun q => by have := q.2.2; omega))
    · have cr0 := b2i_ne c16
      obtain ⟨r, hr, rfl, tr⟩ := i32_in (x := r) (n := 8) cr0
      have cr : oks (nI r) := cr0
      refine x_iload_n (pc := 19) cx (dA ddX7_weeks (i := 9) rfl) rfl ?_
      refine x_iconst (pc := 20) (v := nI 1) cx (dA ddX7_weeks (i := 10) rfl) (by decide) ?_
      refine x_icmp_lt (pc := 21) (tgt := 30) cx (dA ddX7_weeks (i := 11) rfl) (by decide) (fun c21 => ?_) (fun c21 => ?_)
      · rw [i32_lt, show (nI 1).toInt = 1 from rfl] at c21
        refine x_aload_n (pc := 30) cx (dA ddX7_weeks (i := 15) rfl) rfl ?_
        refine x_bipush (pc := 31) (v := -2) cx (dA ddX7_weeks (i := 16) rfl) (by decide) ?_
        refine x_V1 (pc := 33) mX7_74 h0 (c_X7_refuse hQ (i := 0) (by decide) rfl) cx (dA ddX7_weeks (i := 17) rfl) (kI ?_)
        refine x_ireturn (pc := 36) cx (dA ddX7_weeks (i := 18) rfl) (by first | exact Nat.le_of_ble_eq_true rfl | omega) (by first | exact Nat.le_of_ble_eq_true rfl | omega) ?_
        first | exact pCI.r hO (by decide) (if_neg (fun q => ch q.1)) | exact pCI.r hO (by decide) (if_neg (fun q => cr q.2.1)) | exact pCI.r hO (by decide) (if_neg (fun q => by have := q.2.2; omega))
      · rw [i32_lt, show (nI 1).toInt = 1 from rfl] at c21
        refine x_iload_n (pc := 24) cx (dA ddX7_weeks (i := 12) rfl) rfl ?_
        refine x_bipush (pc := 25) (v := nI 50) cx (dA ddX7_weeks (i := 13) rfl) (by decide) ?_
        refine x_icmp_le (pc := 27) (tgt := 37) cx (dA ddX7_weeks (i := 14) rfl) (by decide) (fun c27 => ?_) (fun c27 => ?_)
        · rw [i32_le, show (nI 50).toInt = 50 from rfl] at c27
          have cN : 1 ≤ n.toInt ∧ n.toInt ≤ 50 := by omega
          obtain ⟨n, hn, rfl, tn9⟩ := i32_in (x := n) (n := 51) (by omega)
          refine x_aload_n (pc := 37) cx (dA ddX7_weeks (i := 19) rfl) rfl ?_
          refine x_aload (pc := 38) cx (dA ddX7_weeks (i := 20) rfl) rfl ?_
          refine x_iload_n (pc := 40) cx (dA ddX7_weeks (i := 21) rfl) rfl ?_
          rcases sh3 (S.2.2.2.1 r) with e | ⟨q, e⟩ | ⟨q, e⟩
          · obtain ⟨e7, e8⟩ := hO.1.sh0 hr e
            refine x_V2 (pc := 41) mX7_245 h0 (c_X7_ruleFor_n hQ hP hT.1 e8) cx (dA ddX7_weeks (i := 22) rfl) (kR ?_)
            rw [show va_rf none = .null from rfl]
            refine x_astoreN (pc := 44) cx (dA ddX7_weeks (i := 23) rfl) (by decide) rfl ?_
            refine x_aloadN (pc := 46) cx (dA ddX7_weeks (i := 24) rfl) rfl ?_
            refine x_ifnonnull_n (pc := 48) cx (dA ddX7_weeks (i := 25) rfl) ?_
            refine x_aload_n (pc := 51) cx (dA ddX7_weeks (i := 26) rfl) rfl ?_
            refine x_aload_n (pc := 52) cx (dA ddX7_weeks (i := 27) rfl) rfl ?_
            refine x_iload_n (pc := 53) cx (dA ddX7_weeks (i := 28) rfl) rfl ?_
            refine x_V1 (pc := 54) mX7_89 h0 (c_X7_lackOnShelf hQ) cx (dA ddX7_weeks (i := 29) rfl) (kI ?_)
            rw [if_pos ⟨e7, e8⟩]
            refine x_V1 (pc := 57) mX7_74 h0 (c_X7_refuse hQ (i := 2) (by decide) rfl) cx (dA ddX7_weeks (i := 30) rfl) (kI ?_)
            refine x_ireturn (pc := 60) cx (dA ddX7_weeks (i := 31) rfl) (by first | exact Nat.le_of_ble_eq_true rfl | omega) (by first | exact Nat.le_of_ble_eq_true rfl | omega) ?_
            exact pCI.r hO (by decide) (by unfold fWeeks; rw [if_pos ⟨ch, cr, cN⟩, (shX_at hr).trans e])
          · obtain ⟨e8, a, e7, hRw, rT, t5, rE, -, -⟩ := hO.1.shl hr e
            refine x_V2 (pc := 41) mX7_245 h0 (c_X7_ruleFor_n hQ hP hT.1 e8) cx (dA ddX7_weeks (i := 22) rfl) (kR ?_)
            rw [show va_rf none = .null from rfl]
            refine x_astoreN (pc := 44) cx (dA ddX7_weeks (i := 23) rfl) (by decide) rfl ?_
            refine x_aloadN (pc := 46) cx (dA ddX7_weeks (i := 24) rfl) rfl ?_
            refine x_ifnonnull_n (pc := 48) cx (dA ddX7_weeks (i := 25) rfl) ?_
            refine x_aload_n (pc := 51) cx (dA ddX7_weeks (i := 26) rfl) rfl ?_
            refine x_aload_n (pc := 52) cx (dA ddX7_weeks (i := 27) rfl) rfl ?_
            refine x_iload_n (pc := 53) cx (dA ddX7_weeks (i := 28) rfl) rfl ?_
            refine x_V1 (pc := 54) mX7_89 h0 (c_X7_lackOnShelf hQ) cx (dA ddX7_weeks (i := 29) rfl) (kI ?_)
            rw [if_neg (fun z => by rw [e7] at z; cases z.1)]
            refine x_V1 (pc := 57) mX7_74 h0 (c_X7_refuse hQ (i := 1) (by decide) rfl) cx (dA ddX7_weeks (i := 30) rfl) (kI ?_)
            refine x_ireturn (pc := 60) cx (dA ddX7_weeks (i := 31) rfl) (by first | exact Nat.le_of_ble_eq_true rfl | omega) (by first | exact Nat.le_of_ble_eq_true rfl | omega) ?_
            exact pCI.r hO (by decide) (by unfold fWeeks; rw [if_pos ⟨ch, cr, cN⟩, (shX_at hr).trans e])
          · obtain ⟨e7, a, e8, hR⟩ := hO.1.shr hr e
            obtain ⟨K, hC⟩ := hT.2.1
            refine x_V2 (pc := 41) mX7_245 h0 (c_X7_ruleFor hQ hP hT.1 hC hR.1 e8) cx (dA ddX7_weeks (i := 22) rfl) (kRx fun V2 h2 => ?_)
            obtain ⟨K2, hk, hk4, h2⟩ := h2
            obtain ⟨hO, hT⟩ := hO.pw i6 zN hT h2
            have hC := h2.2.1
            obtain ⟨-, a2, e82, hR⟩ := hO.1.shr hr e
            rw [e8] at e82
            cases e82
            rw [show va_rf (some a) = .ref a from rfl]
            refine x_astore (pc := 44) cx (dA ddX7_weeks (i := 23) rfl) (by decide) rfl ?_
            refine x_aload (pc := 46) cx (dA ddX7_weeks (i := 24) rfl) rfl ?_
            refine x_ifnonnull_s (pc := 48) (tgt := 61) cx (dA ddX7_weeks (i := 25) rfl) (by decide) ?_
            have RCW : RC Z G V2 x col (putW S (S.1.1, S.1.2.1, (weP D vl (S.1.2.1 i) (ruR (S.1.2.1 i) q) S.1.2.2.1 0).2, S.1.2.2.2)) := hO.1
            refine x_iconst (pc := 61) (v := nI 0) cx (dA ddX7_weeks (i := 32) rfl) (by decide) ?_
            refine x_istore (pc := 62) cx (dA ddX7_weeks (i := 33) rfl) (by decide) rfl ?_
            refine x_iconst (pc := 64) (v := nI 0) cx (dA ddX7_weeks (i := 34) rfl) (by decide) ?_
            refine x_istore (pc := 65) cx (dA ddX7_weeks (i := 35) rfl) (by decide) rfl ?_
            have L67 : ∀ j, j ≤ n → ∀ (G1 : zG) (V1 : zV), (G1.1 = G.1 ∧ RC Z G1 V1 x col (putW S (S.1.1, S.1.2.1, (weP D vl (S.1.2.1 i) (ruR (S.1.2.1 i) q) S.1.2.2.1 j).2, S.1.2.2.2)) ∧ PlanT V1 (x + 70 + 12 * i) (S.1.2.1 i) ∧ PlanC V1 (x + 70 + 12 * i) (S.1.2.1 i) K2 ∧ ∀ a, col a = 0 → sameG G G1 a ∧ same4 V V1 a) → G1.2.2.2 (x + 38) r = some a → Wm Z X 8 G1 V1 0 0 (rQ Z X 0 0 (pCI Z G V x col (fWeeks D vl S (nI i) (nI r) (nI n)))) 67 [(0, some (.ref x)), (1, some (.int (nI i))), (2, some (.int (nI r))), (3, some (.int (nI n))), (4, some (.ref (x + 70 + 12 * i))), (5, some (.ref a)), (6, some (.int (nI (weP D vl (S.1.2.1 i) (ruR (S.1.2.1 i) q) S.1.2.2.1 j).1))), (7, some (.int (nI j)))] [] := by
              refine lpU n (fun j hj ih => ?_)
              intro G1 V1 hI e8s
              obtain ⟨hG1, hI, hT, hC, ho⟩ := hI
              refine x_iload (pc := 67) cx (dA ddX7_weeks (i := 36) rfl) rfl ?_
              refine x_iload_n (pc := 69) cx (dA ddX7_weeks (i := 37) rfl) rfl ?_
              refine x_icmp_ge (pc := 70) (tgt := 110) cx (dA ddX7_weeks (i := 38) rfl) (by decide) (fun c70 => ?_) (fun c70 => ?_)
              · have c70 := cleT (by omega) (by omega) c70
                have ej : j = n := by omega
                subst ej
                refine x_iload (pc := 110) cx (dA ddX7_weeks (i := 56) rfl) rfl ?_
                refine x_ireturn (pc := 112) cx (dA ddX7_weeks (i := 57) rfl) (by first | exact Nat.le_of_ble_eq_true rfl | omega) (by first | exact Nat.le_of_ble_eq_true rfl | omega) ?_
                exact ⟨by unfold fWeeks; rw [if_pos ⟨ch, cr, cN⟩, (shX_at hr).trans e, tn9, eX], Nat.le_of_eq hG1.symm, ⟨col, fun _ _ => rfl, (by unfold fWeeks; rw [if_pos ⟨ch, cr, cN⟩, (shX_at hr).trans e, tn9, eX]; exact hI)⟩, fun a _ ha => ho a ha⟩
              · have c70 := cleF (by omega) (by omega) c70
                have hQ1 := hI.1
                have hP1 := (hQ1.2.2.2.2.2.2.2.2.2.2.2.2 i i6).2
                have hW1 := hQ1.2.2.2.2.2.2.2.2.2.2.2.1.2
                have e9 : weP D vl (S.1.2.1 i) (ruR (S.1.2.1 i) q) S.1.2.2.1 (j + 1) = ((weP D vl (S.1.2.1 i) (ruR (S.1.2.1 i) q) S.1.2.2.1 j).1 + (pdA D vl (S.1.2.1 i) (ruR (S.1.2.1 i) q) (S.1.2.1 i 0, 0, 0, 0, 0, 0) (weP D vl (S.1.2.1 i) (ruR (S.1.2.1 i) q) S.1.2.2.1 j).2 6).1, (pdA D vl (S.1.2.1 i) (ruR (S.1.2.1 i) q) (S.1.2.1 i 0, 0, 0, 0, 0, 0) (weP D vl (S.1.2.1 i) (ruR (S.1.2.1 i) q) S.1.2.2.1 j).2 6).2.2) := rfl
                refine x_aload_n (pc := 73) cx (dA ddX7_weeks (i := 39) rfl) rfl ?_
                refine gX7_66 (pc := 74) (rfA hQ1.2.2.2.2.2.2.2.2.2.2.2.1.1) cx (dA ddX7_weeks (i := 40) rfl) hQ1.1 ?_
                refine x_aload (pc := 77) cx (dA ddX7_weeks (i := 41) rfl) rfl ?_
                refine gX7_289 (pc := 79) (rfA hP1.2.1) cx (dA ddX7_weeks (i := 42) rfl) hP1.1 ?_
                refine x_aload (pc := 82) cx (dA ddX7_weeks (i := 43) rfl) rfl ?_
                refine x_V2 (pc := 84) mX7_310 hW1.1 (c_X5_start (q := a) hW1 hP1.2.2.1 hT.1.2.1 hB (by omega)) cx (dA ddX7_weeks (i := 44) rfl) (kV ?_)
                have hQ2 := hQ1.g (gW.sR (G := G1) (a := x + 67) (v := some a) (Or.inr (Or.inr rfl)))
                have hP2 := (hQ2.2.2.2.2.2.2.2.2.2.2.2.2 i i6).2
                have hW2 := hQ2.2.2.2.2.2.2.2.2.2.2.2.1.2
                have hT2 : PlanT (wkV (rAI V1 (x + 67 + 1 + 1) 0 20 (fun j => V1.2.2.1 (x + 70 + 12 * i + 1 + 1) j)) (x + 67) (S.1.2.1 i 0, 0, 0, 0, 0, 0)) (x + 70 + 12 * i) (S.1.2.1 i) := hT.same fun b _ _ => ((same4.refl V1 b).rAI (by omega)).wk (by omega)
                have hC2 : PlanC (wkV (rAI V1 (x + 67 + 1 + 1) 0 20 (fun j => V1.2.2.1 (x + 70 + 12 * i + 1 + 1) j)) (x + 67) (S.1.2.1 i 0, 0, 0, 0, 0, 0)) (x + 70 + 12 * i) (S.1.2.1 i) K2 := hC.same fun b _ _ => ((same4.refl V1 b).rAI (by omega)).wk (by omega)
                obtain ⟨-, a2, e82, hRn⟩ := hI.shr hr e
                rw [slA_n hr] at e82
                have e8n : G.2.2.2 (x + 38) r = some a := by rw [← slA_n hr]; exact e8
                have aeq : a2 = a := by have z := (e8s.symm.trans e82); cases z; rfl
                subst aeq
                have hR2 := hRn.st (G' := (sR G1 251 (x + 67) (some a2))) (V' := (wkV (rAI V1 (x + 67 + 1 + 1) 0 20 (fun j => V1.2.2.1 (x + 70 + 12 * i + 1 + 1) j)) (x + 67) (S.1.2.1 i 0, 0, 0, 0, 0, 0))) (Nat.le_refl _) (fun _ _ => rfl) (fun b _ h3 => by have o := hRC.out3 h3; exact ⟨(sameG.refl G1 b).sR (by omega), ((same4.refl V1 b).rAI (by omega)).wk (by omega)⟩)
                refine x_iload (pc := 87) cx (dA ddX7_weeks (i := 45) rfl) rfl ?_
                refine x_aload_n (pc := 89) cx (dA ddX7_weeks (i := 46) rfl) rfl ?_
                refine x_aload_n (pc := 90) cx (dA ddX7_weeks (i := 47) rfl) rfl ?_
                refine gX7_66 (pc := 91) (rfA hQ2.2.2.2.2.2.2.2.2.2.2.2.1.1) cx (dA ddX7_weeks (i := 48) rfl) hQ2.1 ?_
                refine x_aload (pc := 94) cx (dA ddX7_weeks (i := 49) rfl) rfl ?_
                refine x_bipush (pc := 96) (v := nI 6) cx (dA ddX7_weeks (i := 50) rfl) (by decide) ?_
                refine x_V3 (pc := 98) mX7_329 hQ2.1 (c_X7_passDays (V := (wkV (rAI V1 (x + 67 + 1 + 1) 0 20 (fun j => V1.2.2.1 (x + 70 + 12 * i + 1 + 1) j)) (x + 67) (S.1.2.1 i 0, 0, 0, 0, 0, 0))) hQ2 hW2 (fun j hj => (rAI_at hj).trans (hT.1.2.1 j hj)) hP2 hT2.1 hC2 hR2.1 sR_eq hDr hvl hv4 wkV_V (((wkV_lo (Or.inr (by decide)))).trans hI.2.2.2.2.1.2.2.2.1) (d := (weP D vl (S.1.2.1 i) (ruR (S.1.2.1 i) q) S.1.2.2.1 j).2) (Nat.le_refl _) (Nat.pow_pos (by decide)) (fun e => by have := hk4 e; omega) (n := 6) (by decide)) cx (dA ddX7_weeks (i := 51) rfl) (kI ?_)
                refine x_iadd (pc := 101) cx (dA ddX7_weeks (i := 52) rfl) ?_
                rw [nI_add]
                refine x_istore (pc := 102) cx (dA ddX7_weeks (i := 53) rfl) (by decide) rfl ?_
                refine x_iinc (pc := 104) cx (dA ddX7_weeks (i := 54) rfl) rfl (iinc1 _) (by decide) rfl ?_
                refine x_goto (pc := 107) (tgt := 67) cx (dA ddX7_weeks (i := 55) rfl) (by decide) ?_
                have hI2 := hI.dr (V' := (dsV (wkV (rAI V1 (x + 67 + 1 + 1) 0 20 (fun j => V1.2.2.1 (x + 70 + 12 * i + 1 + 1) j)) (x + 67) (S.1.2.1 i 0, 0, 0, 0, 0, 0)) (x + 67) (x + 1) (pdA D vl (S.1.2.1 i) (ruR (S.1.2.1 i) q) (S.1.2.1 i 0, 0, 0, 0, 0, 0) (weP D vl (S.1.2.1 i) (ruR (S.1.2.1 i) q) S.1.2.2.1 j).2 6).2.1 (pdA D vl (S.1.2.1 i) (ruR (S.1.2.1 i) q) (S.1.2.1 i 0, 0, 0, 0, 0, 0) (weP D vl (S.1.2.1 i) (ruR (S.1.2.1 i) q) S.1.2.2.1 j).2 6).2.2)) (G' := (sR G1 251 (x + 67) (some a2))) (d := (pdA D vl (S.1.2.1 i) (ruR (S.1.2.1 i) q) (S.1.2.1 i 0, 0, 0, 0, 0, 0) (weP D vl (S.1.2.1 i) (ruR (S.1.2.1 i) q) S.1.2.2.1 j).2 6).2.2) (gW.sR (Or.inr (Or.inr rfl))) rfl (fun b b1 b2 b3 => ⟨(sameG.refl G1 b).sR b2, (((same4.refl V1 b).rAI (by omega)).wk (by omega)).ds (by omega) (by omega)⟩) (((wkV_lo (Or.inr (by decide))).trans (sI_ne (by decide))).trans (wkV_lo (Or.inr (by decide)))) ds_302 ((sameG.refl G1 _).sR (by omega))
                have L := ih (by omega) (sR G1 251 (x + 67) (some a2)) (dsV (wkV (rAI V1 (x + 67 + 1 + 1) 0 20 (fun j => V1.2.2.1 (x + 70 + 12 * i + 1 + 1) j)) (x + 67) (S.1.2.1 i 0, 0, 0, 0, 0, 0)) (x + 67) (x + 1) (pdA D vl (S.1.2.1 i) (ruR (S.1.2.1 i) q) (S.1.2.1 i 0, 0, 0, 0, 0, 0) (weP D vl (S.1.2.1 i) (ruR (S.1.2.1 i) q) S.1.2.2.1 j).2 6).2.1 (pdA D vl (S.1.2.1 i) (ruR (S.1.2.1 i) q) (S.1.2.1 i 0, 0, 0, 0, 0, 0) (weP D vl (S.1.2.1 i) (ruR (S.1.2.1 i) q) S.1.2.2.1 j).2 6).2.2) ⟨hG1, hI2, hT2.same (fun b _ _ => (same4.refl _ b).ds (by omega) (by omega)), hC2.same (fun b _ _ => (same4.refl _ b).ds (by omega) (by omega)), fun b hb => by have o := hRC.out0 hb; exact ⟨(ho b hb).1.sR (by omega), ((((ho b hb).2).rAI (by omega)).wk (by omega)).ds (by omega) (by omega)⟩⟩ ((sR_s8).trans e8s)
                exact x_enter L ⟨.inr rfl, .inr rfl, .inr rfl, .inr rfl, .inr rfl, .inr rfl, .inr rfl, .inr rfl, trivial⟩
            exact x_enter (L67 0 (Nat.zero_le _) G V2 ⟨rfl, RCW, hT, hC, fun b hb => ⟨sameG.refl G b, hO.2 b hb⟩⟩ (by rw [← slA_n hr]; exact e8)) ⟨.inr rfl, .inr rfl, .inr rfl, .inr rfl, .inr rfl, .inr rfl, .inr rfl, .inr rfl, trivial⟩
        · rw [i32_le, show (nI 50).toInt = 50 from rfl] at c27
          refine x_aload_n (pc := 30) cx (dA ddX7_weeks (i := 15) rfl) rfl ?_
          refine x_bipush (pc := 31) (v := -2) cx (dA ddX7_weeks (i := 16) rfl) (by decide) ?_
          refine x_V1 (pc := 33) mX7_74 h0 (c_X7_refuse hQ (i := 0) (by decide) rfl) cx (dA ddX7_weeks (i := 17) rfl) (kI ?_)
          refine x_ireturn (pc := 36) cx (dA ddX7_weeks (i := 18) rfl) (by first | exact Nat.le_of_ble_eq_true rfl | omega) (by first | exact Nat.le_of_ble_eq_true rfl | omega) ?_
          first | exact pCI.r hO (by decide) (if_neg (fun q => ch q.1)) | exact pCI.r hO (by decide) (if_neg (fun q => cr q.2.1)) | exact pCI.r hO (by decide) (if_neg (fun q => by have := q.2.2; omega))
  · refine x_V1 (pc := 2) mX7_183 h0 (hO.pn ch) cx (dA ddX7_weeks (i := 2) rfl) (kR ?_)
    rw [show va_rf none = .null from rfl]
    refine x_astoreN (pc := 5) cx (dA ddX7_weeks (i := 3) rfl) (by decide) rfl ?_
    refine x_aloadN (pc := 7) cx (dA ddX7_weeks (i := 4) rfl) rfl ?_
    refine x_ifnull_n (pc := 9) (tgt := 30) cx (dA ddX7_weeks (i := 5) rfl) (by decide) ?_
    refine x_aload_n (pc := 30) cx (dA ddX7_weeks (i := 15) rfl) rfl ?_
    refine x_bipush (pc := 31) (v := -2) cx (dA ddX7_weeks (i := 16) rfl) (by decide) ?_
    refine x_V1 (pc := 33) mX7_74 h0 (c_X7_refuse hQ (i := 0) (by decide) rfl) cx (dA ddX7_weeks (i := 17) rfl) (kI ?_)
    refine x_ireturn (pc := 36) cx (dA ddX7_weeks (i := 18) rfl) (by first | exact Nat.le_of_ble_eq_true rfl | omega) (by first | exact Nat.le_of_ble_eq_true rfl | omega) ?_
    first | exact pCI.r hO (by decide) (if_neg (fun q => ch q.1)) | exact pCI.r hO (by decide) (if_neg (fun q => cr q.2.1)) | exact pCI.r hO (by decide) (if_neg (fun q => by have := q.2.2; omega))
