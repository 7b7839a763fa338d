theorem sAR_eq {G : zG} {a i : Nat} {v : Option Nat} : (sAR G a i v).2.2.2 a i = v := u2_same _ _ _ _
theorem sAR_na {G : zG} {a i b j : Nat} {v : Option Nat} (h : b ≠ a) : (sAR G a i v).2.2.2 b j = G.2.2.2 b j := u2_fst _ _ h
theorem sAR_ni {G : zG} {a i b j : Nat} {v : Option Nat} (h : j ≠ i) : (sAR G a i v).2.2.2 b j = G.2.2.2 b j := u2_snd _ _ h
theorem ExtG.rf (G : zG) : ExtG G G := ⟨Nat.le_refl _, fun _ _ => ⟨rfl, fun _ => rfl, fun _ => rfl⟩⟩
/-- what is put on a shelf -/
def shG (G : zG) (x s : Nat) (u v : Option Nat) : zG := sAR (sAR G (x + 37) s u) (x + 38) s v
section SHG
variable {Z : zP} {G G4 : zG} {V V4 : zV} {col col' : Nat → Nat} {x s : Nat} {S : SX} {u v : Option Nat}
theorem shG_s {a : Nat} (h : sameG G G4 a) (h1 : a ≠ x + 37) (h2 : a ≠ x + 38) : sameG G (shG G4 x s u v) a := (h.sAR h1).sAR h2
theorem shG_7 : (shG G4 x s u v).2.2.2 (x + 37) s = u := (sAR_na (by omega)).trans sAR_eq
theorem shG_8 : (shG G4 x s u v).2.2.2 (x + 38) s = v := sAR_eq
theorem shG_n {a j : Nat} (h : j ≠ s) : (shG G4 x s u v).2.2.2 a j = G4.2.2.2 a j := (sAR_ni h).trans (sAR_ni h)
theorem shG_gW (h : ExtG G G4) (hx : x + 142 ≤ G.1) : gW G (shG G4 x s u v) x := ⟨h.1, fun a p q => ⟨(h.2 a (by omega)).1, fun f _ => (h.2 a (by omega)).2.1 f, fun _ _ _ h7 h8 => shG_s (h.2 a (by omega)) h7 h8⟩⟩
theorem RC.newR (h : RC Z G V x col S) (hs : s < 8) (hE : ExtG G G4) (hV : ∀ a, a < G.1 → same4 V V4 a) (hc : ∀ a, a < G.1 → col' a = col a) (hc0 : ∀ a, G4.1 ≤ a → col' a = 0) {q : RX} (hR : RlC Z G4 V4 col' G.1 q) : RC Z (shG G4 x s none (some G.1)) V4 x col' (putS S s (some (.inr q))) := by
  have tp := h.2.1
  refine h.shelf hs (shG_gW hE h.2.1) hc hc0 (fun a h1 h2 h3 => ⟨shG_s (hE.2 a h1) h2 h3, hV a h1⟩) (fun s' e => (shG_n e).trans ((hE.2 _ (by omega)).2.2 s')) (fun s' e => (shG_n e).trans ((hE.2 _ (by omega)).2.2 s')) ⟨fun e => (by cases e), fun q' e => (by cases e), fun q' e => ?_⟩ (fun r hr => by rw [shG_7] at hr; cases hr)
  cases e
  refine ⟨shG_7, G.1, shG_8, hR.st (Nat.le_refl _) (fun _ _ => rfl) (fun a _ h3 => ⟨shG_s (sameG.refl G4 a) (fun e => ?_) (fun e => ?_), same4.refl V4 a⟩)⟩
  · rw [e, hc _ (by omega), h.2.2.1 _ (by omega) (by omega)] at h3; cases h3
  · rw [e, hc _ (by omega), h.2.2.1 _ (by omega) (by omega)] at h3; cases h3
theorem RC.newW (h : RC Z G V x col S) (hs : s < 8) (hE : ExtG G G4) (hV : ∀ a, a < G.1 → same4 V V4 a) (hc : ∀ a, a < G.1 → col' a = col a) (hc0 : ∀ a, G4.1 ≤ a → col' a = 0) {q : Nat × Nat × (Nat → Int64)} (hR : RowAt Z G4 G.1 q.2.1) (ht : V4.1 100 G.1 = nI q.1) (h5 : q.1 < 5) (hv : ∀ j, j < q.2.1 → V4.2.2.2 (G.1 + 1) j = q.2.2 j) (k1 : col' G.1 = 2) (k2 : col' (G.1 + 1) = 2) : RC Z (shG G4 x s (some G.1) none) V4 x col' (putS S s (some (.inl q))) := by
  have tp := h.2.1
  refine h.shelf hs (shG_gW hE h.2.1) hc hc0 (fun a h1 h2 h3 => ⟨shG_s (hE.2 a h1) h2 h3, hV a h1⟩) (fun s' e => (shG_n e).trans ((hE.2 _ (by omega)).2.2 s')) (fun s' e => (shG_n e).trans ((hE.2 _ (by omega)).2.2 s')) ⟨fun e => (by cases e), fun q' e => ?_, fun q' e => (by cases e)⟩ (fun r hr => by rw [shG_7] at hr; cases hr; exact Nat.le_refl _)
  cases e
  exact ⟨G.1, shG_7, shG_8, ⟨hR.1.geo (Nat.le_refl _) (shG_s (sameG.refl G4 _) (by omega) (by omega)), hR.2.1, hR.2.2.1.geo (Nat.le_refl _) (shG_s (sameG.refl G4 _) (by omega) (by omega)), hR.2.2.2⟩, ht, h5, hv, k1, k2⟩
end SHG
theorem c_X7_row {l : Launch} {Z : zP} {G : zG} {V : zV} {x : Nat} {col : Nat → Nat} {S : SX} (hRC : RC Z G V x col S) {r t n : Int32} : CT l Z yX7_row cX7_row 4 (some .int) 8 2 127 [.ref x, .int r, .int t, .int n] G V (pCI Z G V x col (fRow S r t n)) := by
  refine CT.of (by decide +kernel) (Nat.le_of_ble_eq_true rfl) (fun X hX cx => ?_)
  subst hX
  show Wm Z X 4 G V 0 0 _ 0 [(0, some (.ref x)), (1, some (.int r)), (2, some (.int t)), (3, some (.int n))] []
  have hQ := hRC.1
  have h0 := hQ.1
  have hWd := hRC.2.2.2.2.1
  have c6 := hWd.2.1
  have hO := RO.refl hRC
  refine x_iload_n (pc := 0) cx (dA ddX7_row (i := 0) rfl) rfl ?_
  refine x_S1 (pc := 1) mX7_70 c_X7_isShelf cx (dA ddX7_row (i := 1) rfl) (kI ?_)
  refine x_if_eq (pc := 4) (tgt := 26) cx (dA ddX7_row (i := 2) rfl) (by decide) (fun c4 => ?_) (fun c4 => ?_)
  · have cr := b2i_eq c4
    refine x_aload_n (pc := 26) cx (dA ddX7_row (i := 13) rfl) rfl ?_
    refine x_bipush (pc := 27) (v := -2) cx (dA ddX7_row (i := 14) rfl) (by decide) ?_
    refine x_V1 (pc := 29) mX7_74 h0 (c_X7_refuse hQ (i := 0) (by decide) rfl) cx (dA ddX7_row (i := 15) rfl) (kI ?_)
    refine x_ireturn (pc := 32) cx (dA ddX7_row (i := 16) rfl) (by first | exact Nat.le_of_ble_eq_true rfl | omega) (by first | exact Nat.le_of_ble_eq_true rfl | omega) ?_
    first | exact pCI.r hO (by decide) (if_neg (fun q => cr q.1)) | exact pCI.r hO (by decide) (if_neg (fun q => by have := q.2; omega))
  · have cr0 := b2i_ne c4
    obtain ⟨r, hr, rfl, tr⟩ := i32_in (x := r) (n := 8) cr0
    have cr : oks (nI r) := cr0
    refine x_iload_n (pc := 7) cx (dA ddX7_row (i := 3) rfl) rfl ?_
    refine x_if_lt (pc := 8) (tgt := 26) cx (dA ddX7_row (i := 4) rfl) (by decide) (fun c8 => ?_) (fun c8 => ?_)
    · rw [i32_lt, toI_0] at c8
      refine x_aload_n (pc := 26) cx (dA ddX7_row (i := 13) rfl) rfl ?_
      refine x_bipush (pc := 27) (v := -2) cx (dA ddX7_row (i := 14) rfl) (by decide) ?_
      refine x_V1 (pc := 29) mX7_74 h0 (c_X7_refuse hQ (i := 0) (by decide) rfl) cx (dA ddX7_row (i := 15) rfl) (kI ?_)
      refine x_ireturn (pc := 32) cx (dA ddX7_row (i := 16) rfl) (by first | exact Nat.le_of_ble_eq_true rfl | omega) (by first | exact Nat.le_of_ble_eq_true rfl | omega) ?_
      first | exact pCI.r hO (by decide) (if_neg (fun q => cr q.1)) | exact pCI.r hO (by decide) (if_neg (fun q => by have := q.2; omega))
    · rw [i32_lt, toI_0] at c8
      refine x_iload_n (pc := 11) cx (dA ddX7_row (i := 5) rfl) rfl ?_
      refine x_iconst (pc := 12) (v := nI 4) cx (dA ddX7_row (i := 6) rfl) (by decide) ?_
      refine x_icmp_gt (pc := 13) (tgt := 26) cx (dA ddX7_row (i := 7) rfl) (by decide) (fun c13 => ?_) (fun c13 => ?_)
      · rw [i32_lt, show (nI 4).toInt = 4 from rfl] at c13
        refine x_aload_n (pc := 26) cx (dA ddX7_row (i := 13) rfl) rfl ?_
        refine x_bipush (pc := 27) (v := -2) cx (dA ddX7_row (i := 14) rfl) (by decide) ?_
        refine x_V1 (pc := 29) mX7_74 h0 (c_X7_refuse hQ (i := 0) (by decide) rfl) cx (dA ddX7_row (i := 15) rfl) (kI ?_)
        refine x_ireturn (pc := 32) cx (dA ddX7_row (i := 16) rfl) (by first | exact Nat.le_of_ble_eq_true rfl | omega) (by first | exact Nat.le_of_ble_eq_true rfl | omega) ?_
        first | exact pCI.r hO (by decide) (if_neg (fun q => cr q.1)) | exact pCI.r hO (by decide) (if_neg (fun q => by have := q.2; omega))
      · rw [i32_lt, show (nI 4).toInt = 4 from rfl] at c13
        refine x_iload_n (pc := 16) cx (dA ddX7_row (i := 8) rfl) rfl ?_
        refine x_if_lt (pc := 17) (tgt := 26) cx (dA ddX7_row (i := 9) rfl) (by decide) (fun c17 => ?_) (fun c17 => ?_)
        · rw [i32_lt, toI_0] at c17
          refine x_aload_n (pc := 26) cx (dA ddX7_row (i := 13) rfl) rfl ?_
          refine x_bipush (pc := 27) (v := -2) cx (dA ddX7_row (i := 14) rfl) (by decide) ?_
          refine x_V1 (pc := 29) mX7_74 h0 (c_X7_refuse hQ (i := 0) (by decide) rfl) cx (dA ddX7_row (i := 15) rfl) (kI ?_)
          refine x_ireturn (pc := 32) cx (dA ddX7_row (i := 16) rfl) (by first | exact Nat.le_of_ble_eq_true rfl | omega) (by first | exact Nat.le_of_ble_eq_true rfl | omega) ?_
          first | exact pCI.r hO (by decide) (if_neg (fun q => cr q.1)) | exact pCI.r hO (by decide) (if_neg (fun q => by have := q.2; omega))
        · rw [i32_lt, toI_0] at c17
          refine x_iload_n (pc := 20) cx (dA ddX7_row (i := 10) rfl) rfl ?_
          refine x_bipush (pc := 21) (v := nI 125) cx (dA ddX7_row (i := 11) rfl) (by decide) ?_
          refine x_icmp_le (pc := 23) (tgt := 33) cx (dA ddX7_row (i := 12) rfl) (by decide) (fun c23 => ?_) (fun c23 => ?_)
          · rw [i32_le, show (nI 125).toInt = 125 from rfl] at c23
            have ct : 0 ≤ t.toInt ∧ t.toInt ≤ 4 := by omega
            have cnn : 0 ≤ n.toInt ∧ n.toInt ≤ 125 := by omega
            obtain ⟨t, ht, rfl, tt⟩ := i32_in (x := t) (n := 5) (by omega)
            obtain ⟨n, hn, rfl, tn9⟩ := i32_in (x := n) (n := 126) (by omega)
            refine x_aload_n (pc := 33) cx (dA ddX7_row (i := 17) rfl) rfl ?_
            refine x_iload_n (pc := 34) cx (dA ddX7_row (i := 18) rfl) rfl ?_
            refine Wm.top fun hZ hz => ?_
            refine nX7_26 (pc := 35) cx (dA ddX7_row (i := 19) rfl) ?_
            refine x_dup (pc := 38) cx rfl (dA ddX7_row (i := 20) rfl) ?_
            refine x_iload_n (pc := 39) cx (dA ddX7_row (i := 21) rfl) rfl ?_
            refine x_iload_n (pc := 40) cx (dA ddX7_row (i := 22) rfl) rfl ?_
            refine x_I2 (pc := 41) mX7_78 (c_X2_init (isK_at hZ) rfl (by omega)) cx (dA ddX7_row (i := 23) rfl) (kV ?_)
            have hE : ExtG G (sR (nG (nG G 2 0) (9 + 2) n) 101 G.1 (some (G.1 + 1))) := (((ExtG.rf G).nG).nG).sR (Nat.le_refl _)
            refine x_null (pc := 44) cx (dA ddX7_row (i := 24) rfl) ?_
            refine x_V3 (pc := 45) mX7_81 (h0.ext hE) (c_X7_putOnShelf_r (G := (sR (nG (nG G 2 0) (9 + 2) n) 101 G.1 (some (G.1 + 1)))) (hQ.g (gW.ext hE hRC.2.1)) hr (isK_nG (isK_at hZ))) cx (dA ddX7_row (i := 25) rfl) (kV ?_)
            refine x_iconst (pc := 48) (v := nI 1) cx (dA ddX7_row (i := 26) rfl) (by decide) ?_
            refine x_ireturn (pc := 49) cx (dA ddX7_row (i := 27) rfl) (by first | exact Nat.le_of_ble_eq_true rfl | omega) (by first | exact Nat.le_of_ble_eq_true rfl | omega) ?_
            exact pCI.g (S' := (putS S r (some (.inl (t, n, fun _ => lN 0))))) (col' := (fun a => if a < G.1 then col a else if a < G.1 + 2 then 2 else 0)) (by unfold fRow; rw [if_pos ⟨cr, ct, cnn⟩, tr, tt, tn9]; rfl) (hRC.newW (s := r) (col' := (fun a => if a < G.1 then col a else if a < G.1 + 2 then 2 else 0)) (q := (t, n, fun _ => lN 0)) hr hE (fun a h1 => (same4.refl V a).sI (by omega)) (fun a ha => if_pos ha) (fun a ha => (if_neg (by have : G.1 + 2 ≤ a := ha; omega)).trans (if_neg (by have : G.1 + 2 ≤ a := ha; omega))) ⟨isK_nG (isK_at hZ), sR_eq, isA_at (G := nG G 2 0) (Nat.le_succ_of_le hZ), (show n ≤ 125 by omega)⟩ sI_eq ht (fun j hj => (hz (G.1 + 1) j (by omega)).2.2.2.2.1) ((if_neg (by omega)).trans (if_pos (by omega))) ((if_neg (by omega)).trans (if_pos (by omega)))) hE.1 (fun a ha => if_pos ha) (fun a h1 ha => by have o := hRC.out0 ha; exact ⟨shG_s (hE.2 a h1) (by omega) (by omega), (same4.refl V a).sI (by omega)⟩)
          · rw [i32_le, show (nI 125).toInt = 125 from rfl] at c23
            refine x_aload_n (pc := 26) cx (dA ddX7_row (i := 13) rfl) rfl ?_
            refine x_bipush (pc := 27) (v := -2) cx (dA ddX7_row (i := 14) rfl) (by decide) ?_
            refine x_V1 (pc := 29) mX7_74 h0 (c_X7_refuse hQ (i := 0) (by decide) rfl) cx (dA ddX7_row (i := 15) rfl) (kI ?_)
            refine x_ireturn (pc := 32) cx (dA ddX7_row (i := 16) rfl) (by first | exact Nat.le_of_ble_eq_true rfl | omega) (by first | exact Nat.le_of_ble_eq_true rfl | omega) ?_
            first | exact pCI.r hO (by decide) (if_neg (fun q => cr q.1)) | exact pCI.r hO (by decide) (if_neg (fun q => by have := q.2; omega))
theorem c_X7_rule {l : Launch} {Z : zP} {G : zG} {V : zV} {x : Nat} {col : Nat → Nat} {S : SX} (hRC : RC Z G V x col S) {u k a : Int32} : CT l Z yX7_rule cX7_rule 5 (some .int) 8 4 135 [.ref x, .int u, .int k, .int a] G V (pCI Z G V x col (fRule S u k a)) := by
  refine CT.of (by decide +kernel) (Nat.le_of_ble_eq_true rfl) (fun X hX cx => ?_)
  subst hX
  show Wm Z X 5 G V 0 0 _ 0 [(0, some (.ref x)), (1, some (.int u)), (2, some (.int k)), (3, some (.int a))] []
  have hQ := hRC.1
  have h0 := hQ.1
  have hWd := hRC.2.2.2.2.1
  have c6 := hWd.2.1
  have hO := RO.refl hRC
  refine x_iload_n (pc := 0) cx (dA ddX7_rule (i := 0) rfl) rfl ?_
  refine x_S1 (pc := 1) mX7_70 c_X7_isShelf cx (dA ddX7_rule (i := 1) rfl) (kI ?_)
  refine x_if_eq (pc := 4) (tgt := 15) cx (dA ddX7_rule (i := 2) rfl) (by decide) (fun c4 => ?_) (fun c4 => ?_)
  · have cp := b2i_eq c4
    refine x_aload_n (pc := 15) cx (dA ddX7_rule (i := 7) rfl) rfl ?_
    refine x_bipush (pc := 16) (v := -2) cx (dA ddX7_rule (i := 8) rfl) (by decide) ?_
    refine x_V1 (pc := 18) mX7_74 h0 (c_X7_refuse hQ (i := 0) (by decide) rfl) cx (dA ddX7_rule (i := 9) rfl) (kI ?_)
    refine x_ireturn (pc := 21) cx (dA ddX7_rule (i := 10) rfl) (by first | exact Nat.le_of_ble_eq_true rfl | omega) (by first | exact Nat.le_of_ble_eq_true rfl | omega) ?_
    first | exact pCI.r hO (by decide) (if_neg (fun q => cp q.1)) | exact pCI.r hO (by decide) (if_neg (fun q => hm q.2))
  · have cp0 := b2i_ne c4
    obtain ⟨p, hp, rfl, tp⟩ := i32_in (x := u) (n := 8) cp0
    have cp : oks (nI p) := cp0
    refine x_iload_n (pc := 7) cx (dA ddX7_rule (i := 3) rfl) rfl ?_
    refine x_iload_n (pc := 8) cx (dA ddX7_rule (i := 4) rfl) rfl ?_
    refine x_S2 (pc := 9) mX7_122 c_X3_mayBe cx (dA ddX7_rule (i := 5) rfl) (kI ?_)
    refine x_if_ne (pc := 12) (tgt := 22) cx (dA ddX7_rule (i := 6) rfl) (by decide) (fun c12 => ?_) (fun c12 => ?_)
    · have hm := b2i_ne c12
      have k15 := mayP_rule hm
      obtain ⟨k, hk, rfl, tk⟩ := i32_in (x := k) (n := 6) (by omega)
      have k15 : 1 ≤ k ∧ k ≤ 5 := by rw [nI_toInt (by omega)] at k15; omega
      obtain ⟨b, rfl, hb⟩ : ∃ b, a = nI b ∧ uN a = b := ⟨uN a, (nI_uN a).symm, rfl⟩
      obtain ⟨m1, m2, m3⟩ := mayP_ru hm
      rw [tk, hb] at m1 m2 m3
      have CR : oks (nI p) ∧ mayP (nI k) (nI b) := ⟨cp, hm⟩
      refine x_null (pc := 22) cx (dA ddX7_rule (i := 11) rfl) ?_
      refine x_astoreN (pc := 23) cx (dA ddX7_rule (i := 12) rfl) (by decide) rfl ?_
      refine x_iload_n (pc := 25) cx (dA ddX7_rule (i := 13) rfl) rfl ?_
      refine x_iconst (pc := 26) (v := nI 5) cx (dA ddX7_rule (i := 14) rfl) (by decide) ?_
      refine x_icmp_ne (pc := 27) (tgt := 52) cx (dA ddX7_rule (i := 15) rfl) (by decide) (fun c27 => ?_) (fun c27 => ?_)
      · have c27 := ceqF (by omega) (by omega) c27
        have k5 : ¬ (nI k).toInt = 5 := by rw [nI_toInt (by omega)]; omega
        by_cases k3 : k = 3
        · subst k3
          obtain ⟨b3, b4, b5⟩ := m3 rfl
          refine x_aload_n (pc := 52) cx (dA ddX7_rule (i := 28) rfl) rfl ?_
          refine x_iload_n (pc := 53) cx (dA ddX7_rule (i := 29) rfl) rfl ?_
          refine x_null (pc := 54) cx (dA ddX7_rule (i := 30) rfl) ?_
          refine Wm.top fun hZ hz => ?_
          refine nX7_32 (pc := 55) cx (dA ddX7_rule (i := 31) rfl) ?_
          refine x_dup (pc := 58) cx rfl (dA ddX7_rule (i := 32) rfl) ?_
          refine x_iload_n (pc := 59) cx (dA ddX7_rule (i := 33) rfl) rfl ?_
          refine x_iload_n (pc := 60) cx (dA ddX7_rule (i := 34) rfl) rfl ?_
          refine x_aloadN (pc := 61) cx (dA ddX7_rule (i := 35) rfl) rfl ?_
          refine x_I3 (pc := 63) mX7_125 (c_X3_init_b (isK_at hZ) b3) cx (dA ddX7_rule (i := 36) rfl) (kV ?_)
          have hE : ExtG G (sR (nG G 3 0) 153 G.1 none) := ((ExtG.rf G).nG).sR (Nat.le_refl _)
          refine x_V3 (pc := 66) mX7_81 (h0.ext hE) (c_X7_putOnShelf_q (G := (sR (nG G 3 0) 153 G.1 none)) (hQ.g (gW.ext hE hRC.2.1)) hp (isK_at hZ)) cx (dA ddX7_rule (i := 37) rfl) (kV ?_)
          refine x_iconst (pc := 69) (v := nI 1) cx (dA ddX7_rule (i := 38) rfl) (by decide) ?_
          refine x_ireturn (pc := 70) cx (dA ddX7_rule (i := 39) rfl) (by first | exact Nat.le_of_ble_eq_true rfl | omega) (by first | exact Nat.le_of_ble_eq_true rfl | omega) ?_
          exact pCI.g (S' := (putS S p (some (.inr (3, b, 0, noF))))) (col' := (fun a => if a < G.1 then col a else if a < G.1 + 1 then 3 else 0)) (by unfold fRule; rw [if_pos CR, if_neg k5, tk, hb, tp]; rfl) (hRC.newR (s := p) (col' := (fun a => if a < G.1 then col a else if a < G.1 + 1 then 3 else 0)) (q := (3, b, 0, noF)) hp hE (fun a h1 => (((same4.refl V a).sI (by omega)).sI (by omega)).sI (by omega)) (fun a ha => if_pos ha) (fun a ha => (if_neg (by have : G.1 + 1 ≤ a := ha; omega)).trans (if_neg (by have : G.1 + 1 ≤ a := ha; omega))) ⟨⟨isK_at hZ, ((sI_ne (by decide)).trans ((sI_ne (by decide)).trans sI_eq)), k15, fun e => (by cases e), fun e => (by cases e), fun e => ⟨(sI_ne (by decide)).trans sI_eq, sI_eq, (show b / 10 ≤ 99 by omega), b4, b5⟩, fun e => (by cases e)⟩, (if_neg (by omega)).trans (if_pos (by omega)), fun t e => absurd e (by show ¬ (3 : Nat) = 5; decide)⟩) hE.1 (fun a ha => if_pos ha) (fun a h1 ha => by have o := hRC.out0 ha; exact ⟨shG_s (hE.2 a h1) (by omega) (by omega), (((same4.refl V a).sI (by omega)).sI (by omega)).sI (by omega)⟩)
        · refine x_aload_n (pc := 52) cx (dA ddX7_rule (i := 28) rfl) rfl ?_
          refine x_iload_n (pc := 53) cx (dA ddX7_rule (i := 29) rfl) rfl ?_
          refine x_null (pc := 54) cx (dA ddX7_rule (i := 30) rfl) ?_
          refine Wm.top fun hZ hz => ?_
          refine nX7_32 (pc := 55) cx (dA ddX7_rule (i := 31) rfl) ?_
          refine x_dup (pc := 58) cx rfl (dA ddX7_rule (i := 32) rfl) ?_
          refine x_iload_n (pc := 59) cx (dA ddX7_rule (i := 33) rfl) rfl ?_
          refine x_iload_n (pc := 60) cx (dA ddX7_rule (i := 34) rfl) rfl ?_
          refine x_aloadN (pc := 61) cx (dA ddX7_rule (i := 35) rfl) rfl ?_
          refine x_I3 (pc := 63) mX7_125 (c_X3_init_n (isK_at hZ) hk k3) cx (dA ddX7_rule (i := 36) rfl) (kV ?_)
          have hE : ExtG G (sR (nG G 3 0) 153 G.1 none) := ((ExtG.rf G).nG).sR (Nat.le_refl _)
          refine x_V3 (pc := 66) mX7_81 (h0.ext hE) (c_X7_putOnShelf_q (G := (sR (nG G 3 0) 153 G.1 none)) (hQ.g (gW.ext hE hRC.2.1)) hp (isK_at hZ)) cx (dA ddX7_rule (i := 37) rfl) (kV ?_)
          refine x_iconst (pc := 69) (v := nI 1) cx (dA ddX7_rule (i := 38) rfl) (by decide) ?_
          refine x_ireturn (pc := 70) cx (dA ddX7_rule (i := 39) rfl) (by first | exact Nat.le_of_ble_eq_true rfl | omega) (by first | exact Nat.le_of_ble_eq_true rfl | omega) ?_
          exact pCI.g (S' := (putS S p (some (.inr (k, b, 0, noF))))) (col' := (fun a => if a < G.1 then col a else if a < G.1 + 1 then 3 else 0)) (by unfold fRule; rw [if_pos CR, if_neg k5, tk, hb, tp]; rfl) (hRC.newR (s := p) (col' := (fun a => if a < G.1 then col a else if a < G.1 + 1 then 3 else 0)) (q := (k, b, 0, noF)) hp hE (fun a h1 => (((same4.refl V a).sI (by omega)).sI (by omega)).sI (by omega)) (fun a ha => if_pos ha) (fun a ha => (if_neg (by have : G.1 + 1 ≤ a := ha; omega)).trans (if_neg (by have : G.1 + 1 ≤ a := ha; omega))) ⟨⟨isK_at hZ, ((sI_ne (by decide)).trans ((sI_ne (by decide)).trans sI_eq)), k15, fun e => ⟨(sI_ne (by decide)).trans sI_eq, m1 e⟩, fun e => ⟨sI_eq, m2 e⟩, fun e => absurd e k3, fun e => absurd (show (nI k).toInt = 5 by rw [show k = 5 from e]; rfl) k5⟩, (if_neg (by omega)).trans (if_pos (by omega)), fun t e => absurd e (by intro z; exact k5 (by rw [show k = 5 from z]; rfl))⟩) hE.1 (fun a ha => if_pos ha) (fun a h1 ha => by have o := hRC.out0 ha; exact ⟨shG_s (hE.2 a h1) (by omega) (by omega), (((same4.refl V a).sI (by omega)).sI (by omega)).sI (by omega)⟩)
      · have c27 := ceqT (by omega) (by omega) c27
        have ek : k = 5 := by omega
        subst ek
        have sb : 0 ≤ (nI b).toInt ∧ (nI b).toInt < 8 := by have z := hm; unfold mayP at z; rw [show (nI 5).toInt = 5 from rfl] at z; omega
        obtain ⟨r, hr, er, tr⟩ := i32_in (x := nI b) (n := 8) sb
        have CS : shX S (nI b) = S.2.2.2.1 r := by rw [er]; exact shX_at hr
        have e7r : slA G (x + 37) (nI b) = slA G (x + 37) (nI r) := by rw [er]
        have e8r : slA G (x + 38) (nI b) = slA G (x + 38) (nI r) := by rw [er]
        have k55 : (nI 5).toInt = 5 := rfl
        refine x_aload_n (pc := 30) cx (dA ddX7_rule (i := 16) rfl) rfl ?_
        refine x_iload_n (pc := 31) cx (dA ddX7_rule (i := 17) rfl) rfl ?_
        rcases sh3 (S.2.2.2.1 r) with e | ⟨q, e⟩ | ⟨q, e⟩
        · obtain ⟨e7, e8⟩ := hO.1.sh0 hr e
          refine x_V1 (pc := 32) mX7_85 h0 (c_X7_rowAt hQ) cx (dA ddX7_rule (i := 18) rfl) (kR ?_)
          rw [e7r, e7, show va_rf none = .null from rfl]
          refine x_astoreN (pc := 35) cx (dA ddX7_rule (i := 19) rfl) (by decide) rfl ?_
          refine x_aloadN (pc := 37) cx (dA ddX7_rule (i := 20) rfl) rfl ?_
          refine x_ifnonnull_n (pc := 39) cx (dA ddX7_rule (i := 21) rfl) ?_
          refine x_aload_n (pc := 42) cx (dA ddX7_rule (i := 22) rfl) rfl ?_
          refine x_aload_n (pc := 43) cx (dA ddX7_rule (i := 23) rfl) rfl ?_
          refine x_iload_n (pc := 44) cx (dA ddX7_rule (i := 24) rfl) rfl ?_
          refine x_V1 (pc := 45) mX7_89 h0 (c_X7_lackOnShelf hQ) cx (dA ddX7_rule (i := 25) rfl) (kI ?_)
          rw [e7r, e8r, if_pos ⟨e7, e8⟩]
          refine x_V1 (pc := 48) mX7_74 h0 (c_X7_refuse hQ (i := 2) (by decide) rfl) cx (dA ddX7_rule (i := 26) rfl) (kI ?_)
          refine x_ireturn (pc := 51) cx (dA ddX7_rule (i := 27) rfl) (by first | exact Nat.le_of_ble_eq_true rfl | omega) (by first | exact Nat.le_of_ble_eq_true rfl | omega) ?_
          exact pCI.r hO (by decide) (by unfold fRule; rw [if_pos CR, if_pos k55, CS, e])
        · obtain ⟨e8, ra, e7, hRw, rT, t5, rE, rc, r1c⟩ := hO.1.shl hr e
          refine x_V1 (pc := 32) mX7_85 h0 (c_X7_rowAt hQ) cx (dA ddX7_rule (i := 18) rfl) (kR ?_)
          rw [e7r, e7, show va_rf (some ra) = .ref ra from rfl]
          refine x_astore (pc := 35) cx (dA ddX7_rule (i := 19) rfl) (by decide) rfl ?_
          refine x_aload (pc := 37) cx (dA ddX7_rule (i := 20) rfl) rfl ?_
          refine x_ifnonnull_s (pc := 39) (tgt := 52) cx (dA ddX7_rule (i := 21) rfl) (by decide) ?_
          refine x_aload_n (pc := 52) cx (dA ddX7_rule (i := 28) rfl) rfl ?_
          refine x_iload_n (pc := 53) cx (dA ddX7_rule (i := 29) rfl) rfl ?_
          refine x_null (pc := 54) cx (dA ddX7_rule (i := 30) rfl) ?_
          refine Wm.top fun hZ hz => ?_
          refine nX7_32 (pc := 55) cx (dA ddX7_rule (i := 31) rfl) ?_
          refine x_dup (pc := 58) cx rfl (dA ddX7_rule (i := 32) rfl) ?_
          refine x_iload_n (pc := 59) cx (dA ddX7_rule (i := 33) rfl) rfl ?_
          refine x_iload_n (pc := 60) cx (dA ddX7_rule (i := 34) rfl) rfl ?_
          refine x_aload (pc := 61) cx (dA ddX7_rule (i := 35) rfl) rfl ?_
          refine x_I3 (pc := 63) mX7_125 (c_X3_init_t (isK_at hZ) (hRw.ext ((ExtG.rf G).nG)) rT) cx (dA ddX7_rule (i := 36) rfl) (kV ?_)
          have hE : ExtG G (sR (sR (nG (nG (nG G 3 0) 2 0) (9 + 2) q.2.1) 101 (G.1 + 1) (some (G.1 + 1 + 1))) 153 G.1 (some (G.1 + 1))) := ((((((ExtG.rf G).nG).nG).nG).sR (by omega)).sR (Nat.le_refl _))
          refine x_V3 (pc := 66) mX7_81 (h0.ext hE) (c_X7_putOnShelf_q (G := (sR (sR (nG (nG (nG G 3 0) 2 0) (9 + 2) q.2.1) 101 (G.1 + 1) (some (G.1 + 1 + 1))) 153 G.1 (some (G.1 + 1)))) (hQ.g (gW.ext hE hRC.2.1)) hp (isK_nG (isK_nG (isK_at hZ)))) cx (dA ddX7_rule (i := 37) rfl) (kV ?_)
          refine x_iconst (pc := 69) (v := nI 1) cx (dA ddX7_rule (i := 38) rfl) (by decide) ?_
          refine x_ireturn (pc := 70) cx (dA ddX7_rule (i := 39) rfl) (by first | exact Nat.le_of_ble_eq_true rfl | omega) (by first | exact Nat.le_of_ble_eq_true rfl | omega) ?_
          exact pCI.g (V' := (rAJ (sI (sI (sI (sI V 150 G.1 (nI 5)) 151 G.1 (nI b)) 152 G.1 (nI b)) 100 (G.1 + 1) (nI q.1)) (G.1 + 1 + 1) 0 q.2.1 (fun z => V.2.2.2 (ra + 1) z))) (S' := (putS S p (some (.inr (5, b, q.2.1, fun i => decide (q.2.2 i ≠ 0)))))) (col' := (fun a => if a < G.1 then col a else if a < G.1 + 3 then 3 else 0)) (by unfold fRule; rw [if_pos CR, if_pos k55, CS, e, tp]; show (1, putS S p (some (.inr (5, uN (nI b), q.2.1, fun i => decide (q.2.2 i ≠ 0))))) = _; rw [hb]; rfl) (hRC.newR (V4 := (rAJ (sI (sI (sI (sI V 150 G.1 (nI 5)) 151 G.1 (nI b)) 152 G.1 (nI b)) 100 (G.1 + 1) (nI q.1)) (G.1 + 1 + 1) 0 q.2.1 (fun z => V.2.2.2 (ra + 1) z))) (s := p) (col' := (fun a => if a < G.1 then col a else if a < G.1 + 3 then 3 else 0)) (q := (5, b, q.2.1, fun i => decide (q.2.2 i ≠ 0))) hp hE (fun a h1 => (((((same4.refl V a).sI (by omega)).sI (by omega)).sI (by omega)).sI (by omega)).rAJ (by omega)) (fun a ha => if_pos ha) (fun a ha => (if_neg (by have : G.1 + 3 ≤ a := ha; omega)).trans (if_neg (by have : G.1 + 3 ≤ a := ha; omega))) ⟨⟨isK_nG (isK_nG (isK_at hZ)), (show (sI (sI (sI (sI V 150 G.1 (nI 5)) 151 G.1 (nI b)) 152 G.1 (nI b)) 100 (G.1 + 1) (nI q.1)).1 150 G.1 = nI 5 from (sI_ne (by decide)).trans ((sI_ne (by decide)).trans ((sI_ne (by decide)).trans sI_eq))), k15, fun e => (by cases e), fun e => (by cases e), fun e => (by cases e), fun e => ⟨G.1 + 1, sR_eq, ⟨isK_nG (isK_at (G := nG G 3 0) (Nat.le_succ_of_le hZ)), (sR_ne (by decide)).trans sR_eq, isA_at (G := nG (nG G 3 0) 2 0) (Nat.le_succ_of_le (Nat.le_succ_of_le hZ)), hRw.2.2.2⟩, fun i hi => by rw [show (rAJ (sI (sI (sI (sI V 150 G.1 (nI 5)) 151 G.1 (nI b)) 152 G.1 (nI b)) 100 (G.1 + 1) (nI q.1)) (G.1 + 1 + 1) 0 q.2.1 (fun z => V.2.2.2 (ra + 1) z)).2.2.2 (G.1 + 1 + 1) i = V.2.2.2 (ra + 1) i from rAJ_at hi, rE i hi]; simp⟩⟩, (if_neg (by omega)).trans (if_pos (by omega)), fun t _ e => by rw [show ((sR (sR (nG (nG (nG G 3 0) 2 0) (9 + 2) q.2.1) 101 (G.1 + 1) (some (G.1 + 1 + 1))) 153 G.1 (some (G.1 + 1)))).2.2.1 153 G.1 = some (G.1 + 1) from sR_eq] at e; cases e; exact ⟨(if_neg (by omega)).trans (if_pos (by omega)), (if_neg (by omega)).trans (if_pos (by omega))⟩⟩) hE.1 (fun a ha => if_pos ha) (fun a h1 ha => by have o := hRC.out0 ha; exact ⟨shG_s (hE.2 a h1) (by omega) (by omega), (((((same4.refl V a).sI (by omega)).sI (by omega)).sI (by omega)).sI (by omega)).rAJ (by omega)⟩)
        · obtain ⟨e7, ra, e8, hR⟩ := hO.1.shr hr e
          refine x_V1 (pc := 32) mX7_85 h0 (c_X7_rowAt hQ) cx (dA ddX7_rule (i := 18) rfl) (kR ?_)
          rw [e7r, e7, show va_rf none = .null from rfl]
          refine x_astoreN (pc := 35) cx (dA ddX7_rule (i := 19) rfl) (by decide) rfl ?_
          refine x_aloadN (pc := 37) cx (dA ddX7_rule (i := 20) rfl) rfl ?_
          refine x_ifnonnull_n (pc := 39) cx (dA ddX7_rule (i := 21) rfl) ?_
          refine x_aload_n (pc := 42) cx (dA ddX7_rule (i := 22) rfl) rfl ?_
          refine x_aload_n (pc := 43) cx (dA ddX7_rule (i := 23) rfl) rfl ?_
          refine x_iload_n (pc := 44) cx (dA ddX7_rule (i := 24) rfl) rfl ?_
          refine x_V1 (pc := 45) mX7_89 h0 (c_X7_lackOnShelf hQ) cx (dA ddX7_rule (i := 25) rfl) (kI ?_)
          rw [e7r, e8r, if_neg (fun z => by rw [e8] at z; cases z.2)]
          refine x_V1 (pc := 48) mX7_74 h0 (c_X7_refuse hQ (i := 1) (by decide) rfl) cx (dA ddX7_rule (i := 26) rfl) (kI ?_)
          refine x_ireturn (pc := 51) cx (dA ddX7_rule (i := 27) rfl) (by first | exact Nat.le_of_ble_eq_true rfl | omega) (by first | exact Nat.le_of_ble_eq_true rfl | omega) ?_
          exact pCI.r hO (by decide) (by unfold fRule; rw [if_pos CR, if_pos k55, CS, e])
    · have hm := b2i_eq c12
      refine x_aload_n (pc := 15) cx (dA ddX7_rule (i := 7) rfl) rfl ?_
      refine x_bipush (pc := 16) (v := -2) cx (dA ddX7_rule (i := 8) rfl) (by decide) ?_
      refine x_V1 (pc := 18) mX7_74 h0 (c_X7_refuse hQ (i := 0) (by decide) rfl) cx (dA ddX7_rule (i := 9) rfl) (kI ?_)
      refine x_ireturn (pc := 21) cx (dA ddX7_rule (i := 10) rfl) (by first | exact Nat.le_of_ble_eq_true rfl | omega) (by first | exact Nat.le_of_ble_eq_true rfl | omega) ?_
      first | exact pCI.r hO (by decide) (if_neg (fun q => cp q.1)) | exact pCI.r hO (by decide) (if_neg (fun q => hm q.2))
