/-! THE REFERENCE READS at y: a token and what its figures tell -/
def mtV (V : zV) (y : Nat) (τ : TK) (g : Nat) : zV := (fun f x => if x = y then (if f = 423 then nI τ.2.2 else if f = 424 then nI τ.1 else if f = 425 then nI τ.2.1 else V.1 f x) else V.1 f x, fun f x => if f = 426 ∧ x = y then lN g else V.2.1 f x, V.2.2)
def fgP (B : Nat → Nat) (τ : TK) : Nat := if τ.1 = 2 then (if τ.2.2 - τ.2.1 ≤ 2 then numD B τ.2.1 (τ.2.2 - τ.2.1) else 100000) else 0
def MTape (V : zV) (y : Nat) (B : Nat → Nat) (S : Nat) : Prop := V.1 409 y = nI S ∧ (∀ j, j < 160 → V.2.2.1 (y + 27) j = nI (B j)) ∧ S ≤ 160 ∧ ∀ j, B j < 256
theorem m_g23 {V : zV} {y g : Nat} {τ : TK} : (mtV V y τ g).1 423 y = nI τ.2.2 := by simp [mtV]
theorem m_g24 {V : zV} {y g : Nat} {τ : TK} : (mtV V y τ g).1 424 y = nI τ.1 := by simp [mtV]
theorem m_g25 {V : zV} {y g : Nat} {τ : TK} : (mtV V y τ g).1 425 y = nI τ.2.1 := by simp [mtV]
theorem m_g26 {V : zV} {y g : Nat} {τ : TK} : (mtV V y τ g).2.1 426 y = lN g := by simp [mtV]
theorem m_lo {V : zV} {y g f x : Nat} {τ : TK} (h : f < 423 ∨ 426 ≤ f) : (mtV V y τ g).1 f x = V.1 f x := by
  unfold mtV
  dsimp only
  split
  · rw [if_neg (by omega), if_neg (by omega), if_neg (by omega)]
  · rfl
theorem m_s23 {V : zV} {y g : Nat} {τ : TK} {v : Nat} : sI (mtV V y τ g) 423 y (nI v) = mtV V y (τ.1, τ.2.1, v) g := by
  unfold mtV sI u2
  congr 1
  · funext f x
    by_cases hx : x = y <;> by_cases h1 : f = 423 <;> by_cases h2 : f = 424 <;> by_cases h3 : f = 425 <;> simp_all
theorem m_s24 {V : zV} {y g : Nat} {τ : TK} {v : Nat} : sI (mtV V y τ g) 424 y (nI v) = mtV V y (v, τ.2) g := by
  unfold mtV sI u2
  congr 1
  · funext f x
    by_cases hx : x = y <;> by_cases h1 : f = 423 <;> by_cases h2 : f = 424 <;> by_cases h3 : f = 425 <;> simp_all
theorem m_s25 {V : zV} {y g : Nat} {τ : TK} {v : Nat} : sI (mtV V y τ g) 425 y (nI v) = mtV V y (τ.1, v, τ.2.2) g := by
  unfold mtV sI u2
  congr 1
  · funext f x
    by_cases hx : x = y <;> by_cases h1 : f = 423 <;> by_cases h2 : f = 424 <;> by_cases h3 : f = 425 <;> simp_all
theorem m_s26 {V : zV} {y g v : Nat} {τ : TK} : sL (mtV V y τ g) 426 y (lN v) = mtV V y τ v := by
  unfold mtV sL u2
  congr 2
  funext f x
  by_cases hx : x = y <;> by_cases h1 : f = 426 <;> simp_all
theorem m_m {V : zV} {y g g' : Nat} {τ τ' : TK} : mtV (mtV V y τ g) y τ' g' = mtV V y τ' g' := by
  unfold mtV
  congr 1
  · funext f x
    by_cases hx : x = y <;> by_cases h1 : f = 423 <;> by_cases h2 : f = 424 <;> by_cases h3 : f = 425 <;> simp_all
  · congr 1
    funext f x
    by_cases hx : x = y <;> by_cases h1 : f = 426 <;> simp_all
theorem MTape.mt {V : zV} {y S g : Nat} {B : Nat → Nat} {τ : TK} (h : MTape V y B S) : MTape (mtV V y τ g) y B S := ⟨(m_lo (by decide)).trans h.1, h.2⟩
theorem adv_end {B : Nat → Nat} {S p q : Nat} (es : skip B S p = q) (h : S ≤ q) : adv B S p = (0, q, q) := by
  unfold adv
  rw [es, if_pos h]
theorem adv_run {B : Nat → Nat} {S p q k z : Nat} (es : skip B S p = q) (h : q < S) (hk : kOf (B q) = k) (k12 : k = 1 ∨ k = 2) (hz : run B S k z = run B S k (q + 1)) (hs : ¬ (z < S ∧ kOf (B z) = k)) : adv B S p = (k, q, z) := by
  unfold adv
  rw [es, hk, if_neg (by omega), if_pos k12, ← hz, run_stop hs]
theorem adv_one {B : Nat → Nat} {S p q k : Nat} (es : skip B S p = q) (h : q < S) (hk : kOf (B q) = k) (k1 : k ≠ 1) (k2 : k ≠ 2) : adv B S p = (k, q, q + 1) := by
  unfold adv
  rw [es, hk, if_neg (by omega), if_neg (by omega)]
theorem kOf_1 {b : Nat} (h : 97 ≤ b ∧ b ≤ 122) : kOf b = 1 := if_pos h
theorem kOf_n1 {b : Nat} (h : ¬ (97 ≤ b ∧ b ≤ 122)) : kOf b ≠ 1 := by
  unfold kOf
  rw [if_neg h]
  split
  · decide
  · split <;> decide
theorem kOf_2 {b : Nat} (h1 : ¬ (97 ≤ b ∧ b ≤ 122)) (h : 48 ≤ b ∧ b ≤ 57) : kOf b = 2 := by unfold kOf; rw [if_neg h1, if_pos h]
theorem kOf_n2 {b : Nat} (h : ¬ (48 ≤ b ∧ b ≤ 57)) : kOf b ≠ 2 := by
  unfold kOf
  split
  · decide
  · (try rw [if_neg h])
    split <;> decide
theorem kOf_34 {b : Nat} (h1 : ¬ (97 ≤ b ∧ b ≤ 122)) (h2 : ¬ (48 ≤ b ∧ b ≤ 57)) : kOf b = if b = 59 then 3 else 4 := by unfold kOf; rw [if_neg h1, if_neg h2]
theorem fg_s {B : Nat → Nat} {q z : Nat} (h1 : q ≤ z) (h : z - q < 2) (hd : 48 ≤ B z) : fgP B (2, q, z) * 10 + B z - 48 = fgP B (2, q, z + 1) := by
  unfold fgP
  rw [if_pos rfl, if_pos rfl, if_pos (show z - q ≤ 2 by omega), if_pos (show z + 1 - q ≤ 2 by omega)]
  dsimp only
  rw [show z + 1 - q = (z - q) + 1 by omega]
  show _ = 10 * numD B q (z - q) + (B (q + (z - q)) - 48)
  rw [show q + (z - q) = z by omega]
  omega
theorem fg_t {B : Nat → Nat} {q z : Nat} (h : 2 ≤ z - q) : 100000 = fgP B (2, q, z + 1) := by
  unfold fgP
  rw [if_pos rfl, if_neg (show ¬ z + 1 - q ≤ 2 by omega)]
theorem l2iA : ∀ v : Fin 128, (lN v.val).toInt32 = nI v.val := by decide +kernel
theorem c_X8_wrong {l : Launch} {Z : zP} {G : zG} {V : zV} {y : Nat} (hM : ModelAt Z G y) : CT l Z yX8_wrong cX8_wrong 1 (some .boolean) 0 0 0 [.ref y] G V (pI 0 G (sI V 427 y (V.1 425 y))) := by
  refine CT.of (by decide +kernel) (Nat.le_of_ble_eq_true rfl) (fun X hX cx => ?_)
  subst hX
  show Wm Z X 1 G V 0 0 _ 0 [(0, some (.ref y))] []
  have h0 := hM.1
  refine x_aload_n (pc := 0) cx (dA ddX8_wrong (i := 0) rfl) rfl ?_
  refine x_aload_n (pc := 1) cx (dA ddX8_wrong (i := 1) rfl) rfl ?_
  refine gX8_142 (pc := 2) rfl cx (dA ddX8_wrong (i := 2) rfl) h0 ?_
  refine pX8_164 (pc := 5)  cx (dA ddX8_wrong (i := 3) rfl) h0 ?_
  refine x_iconst (pc := 8) (v := nI 0) cx (dA ddX8_wrong (i := 4) rfl) (by decide) ?_
  refine x_zreturn (pc := 9) cx (dA ddX8_wrong (i := 5) rfl) (by first | exact Nat.le_of_ble_eq_true rfl | omega) (by first | exact Nat.le_of_ble_eq_true rfl | omega) rfl ?_
  exact rI rfl
theorem c_X8_look {l : Launch} {Z : zP} {G : zG} {V : zV} {y : Nat} (hM : ModelAt Z G y) {B : Nat → Nat} {S : Nat} (hT : MTape V y B S) {τ : TK} {g : Nat} (hp : τ.2.2 ≤ S) : CT l Z yX8_look cX8_look 1 none 1 0 0 [.ref y] G (mtV V y τ g) (pV G (mtV V y (adv B S τ.2.2) (fgP B (adv B S τ.2.2)))) := by
  refine CT.of (by decide +kernel) (Nat.le_of_ble_eq_true rfl) (fun X hX cx => ?_)
  subst hX
  show Wm Z X 1 G (mtV V y τ g) 0 0 _ 0 [(0, some (.ref y))] []
  have h0 := hM.1
  have hS := hT.2.2.1
  have b256 := hT.2.2.2
  have L0 : ∀ q, q ≤ S → skip B S q = skip B S τ.2.2 → Wm Z X 1 G (mtV V y (τ.1, τ.2.1, q) g) 0 0 (rQ Z X 0 0 (pV G (mtV V y (adv B S τ.2.2) (fgP B (adv B S τ.2.2))))) 0 [(0, some (.ref y))] [] := by
    refine lpU S (fun q hd ih => ?_)
    intro hq
    refine x_aload_n (pc := 0) cx (dA ddX8_look (i := 0) rfl) rfl ?_
    refine gX8_139 (pc := 1) (congrArg Value.int (show (mtV V y (τ.1, τ.2.1, q) g).1 423 y = nI q from m_g23)) cx (dA ddX8_look (i := 1) rfl) h0 ?_
    refine x_aload_n (pc := 4) cx (dA ddX8_look (i := 2) rfl) rfl ?_
    refine gX8_136 (pc := 5) (congrArg Value.int ((m_lo (by decide)).trans hT.1)) cx (dA ddX8_look (i := 3) rfl) h0 ?_
    refine x_icmp_ge (pc := 8) (tgt := 38) cx (dA ddX8_look (i := 4) rfl) (by decide) (fun c8 => ?_) (fun c8 => ?_)
    · have c8 := cleT (by omega) (by omega) c8
      have es : skip B S τ.2.2 = q := by rw [← hq, skip_stop (by omega)]
      refine x_aload_n (pc := 38) cx (dA ddX8_look (i := 19) rfl) rfl ?_
      refine x_aload_n (pc := 39) cx (dA ddX8_look (i := 20) rfl) rfl ?_
      refine gX8_139 (pc := 40) (congrArg Value.int (show (mtV V y (τ.1, τ.2.1, q) g).1 423 y = nI q from m_g23)) cx (dA ddX8_look (i := 21) rfl) h0 ?_
      refine pX8_142 (pc := 43)  cx (dA ddX8_look (i := 22) rfl) h0 ?_
      rw [show sI (mtV V y (τ.1, τ.2.1, q) g) 425 y (nI q) = (mtV V y (τ.1, q, q) g) from m_s25]
      refine x_aload_n (pc := 46) cx (dA ddX8_look (i := 23) rfl) rfl ?_
      refine x_lconst (pc := 47) (v := lN 0) cx (dA ddX8_look (i := 24) rfl) rfl ?_
      refine pX8_145 (pc := 48)  cx (dA ddX8_look (i := 25) rfl) h0 ?_
      rw [show sL (mtV V y (τ.1, q, q) g) 426 y (lN 0) = (mtV V y (τ.1, q, q) 0) from m_s26]
      refine x_aload_n (pc := 51) cx (dA ddX8_look (i := 26) rfl) rfl ?_
      refine gX8_139 (pc := 52) (congrArg Value.int (show (mtV V y (τ.1, q, q) 0).1 423 y = nI q from m_g23)) cx (dA ddX8_look (i := 27) rfl) h0 ?_
      refine x_aload_n (pc := 55) cx (dA ddX8_look (i := 28) rfl) rfl ?_
      refine gX8_136 (pc := 56) (congrArg Value.int ((m_lo (by decide)).trans hT.1)) cx (dA ddX8_look (i := 29) rfl) h0 ?_
      refine x_icmp_ne (pc := 59) (tgt := 70) cx (dA ddX8_look (i := 30) rfl) (by decide) (fun c59 => ?_) (fun c59 => ?_)
      · have c59 := ceqF (by omega) (by omega) c59
        have qS : q < S := by omega
        refine x_aload_n (pc := 70) cx (dA ddX8_look (i := 35) rfl) rfl ?_
        refine gX8_39 (pc := 71) (rfA hM.2.2.2.2.2.2.2.2.2.1.1) cx (dA ddX8_look (i := 36) rfl) h0 ?_
        refine x_aload_n (pc := 74) cx (dA ddX8_look (i := 37) rfl) rfl ?_
        refine gX8_139 (pc := 75) (congrArg Value.int (show (mtV V y (τ.1, q, q) 0).1 423 y = nI q from m_g23)) cx (dA ddX8_look (i := 38) rfl) h0 ?_
        refine x_iaload (pc := 78) cx (dA ddX8_look (i := 39) rfl) hM.2.2.2.2.2.2.2.2.2.1.2 (by omega) (by decide) ?_
        rw [show (mtV V y (τ.1, q, q) 0).2.2.1 (y + 27) q = nI (B q) from hT.2.1 q (by omega)]
        have bq := b256 q
        refine x_S1 (pc := 79) mX8_152 (c_X8_isLetter (b256 q)) cx (dA ddX8_look (i := 40) rfl) (kI ?_)
        refine x_if_eq (pc := 82) (tgt := 129) cx (dA ddX8_look (i := 41) rfl) (by decide) (fun c82 => ?_) (fun c82 => ?_)
        · have n1 := b2i_eq c82
          refine x_aload_n (pc := 129) cx (dA ddX8_look (i := 64) rfl) rfl ?_
          refine gX8_39 (pc := 130) (rfA hM.2.2.2.2.2.2.2.2.2.1.1) cx (dA ddX8_look (i := 65) rfl) h0 ?_
          refine x_aload_n (pc := 133) cx (dA ddX8_look (i := 66) rfl) rfl ?_
          refine gX8_139 (pc := 134) (congrArg Value.int (show (mtV V y (τ.1, q, q) 0).1 423 y = nI q from m_g23)) cx (dA ddX8_look (i := 67) rfl) h0 ?_
          refine x_iaload (pc := 137) cx (dA ddX8_look (i := 68) rfl) hM.2.2.2.2.2.2.2.2.2.1.2 (by omega) (by decide) ?_
          rw [show (mtV V y (τ.1, q, q) 0).2.2.1 (y + 27) q = nI (B q) from hT.2.1 q (by omega)]
          refine x_S1 (pc := 138) mX8_155 (c_X8_isDigit (b256 q)) cx (dA ddX8_look (i := 69) rfl) (kI ?_)
          refine x_if_eq (pc := 141) (tgt := 234) cx (dA ddX8_look (i := 70) rfl) (by decide) (fun c141 => ?_) (fun c141 => ?_)
          · have n2 := b2i_eq c141
            refine x_aload_n (pc := 234) cx (dA ddX8_look (i := 117) rfl) rfl ?_
            refine x_aload_n (pc := 235) cx (dA ddX8_look (i := 118) rfl) rfl ?_
            refine gX8_39 (pc := 236) (rfA hM.2.2.2.2.2.2.2.2.2.1.1) cx (dA ddX8_look (i := 119) rfl) h0 ?_
            refine x_aload_n (pc := 239) cx (dA ddX8_look (i := 120) rfl) rfl ?_
            refine gX8_139 (pc := 240) (congrArg Value.int (show (mtV V y (τ.1, q, q) 0).1 423 y = nI q from m_g23)) cx (dA ddX8_look (i := 121) rfl) h0 ?_
            refine x_iaload (pc := 243) cx (dA ddX8_look (i := 122) rfl) hM.2.2.2.2.2.2.2.2.2.1.2 (by omega) (by decide) ?_
            rw [show (mtV V y (τ.1, q, q) 0).2.2.1 (y + 27) q = nI (B q) from hT.2.1 q (by omega)]
            refine x_bipush (pc := 244) (v := nI 59) cx (dA ddX8_look (i := 123) rfl) (by decide) ?_
            refine x_icmp_ne (pc := 246) (tgt := 253) cx (dA ddX8_look (i := 124) rfl) (by decide) (fun c246 => ?_) (fun c246 => ?_)
            · have c246 := ceqF (by omega) (by omega) c246
              have k3 : kOf (B q) = 4 := by rw [kOf_34 n1 n2, if_neg c246]
              refine x_iconst (pc := 253) (v := nI 4) cx (dA ddX8_look (i := 127) rfl) (by decide) ?_
              refine pX8_149 (pc := 254)  cx (dA ddX8_look (i := 128) rfl) h0 ?_
              rw [show sI (mtV V y (τ.1, q, q) 0) 424 y (nI 4) = (mtV V y (4, q, q) 0) from m_s24]
              refine x_aload_n (pc := 257) cx (dA ddX8_look (i := 129) rfl) rfl ?_
              refine x_dup (pc := 258) cx rfl (dA ddX8_look (i := 130) rfl) ?_
              refine gX8_139 (pc := 259) (congrArg Value.int (show (mtV V y (4, q, q) 0).1 423 y = nI q from m_g23)) cx (dA ddX8_look (i := 131) rfl) h0 ?_
              refine x_iconst (pc := 262) (v := nI 1) cx (dA ddX8_look (i := 132) rfl) (by decide) ?_
              refine x_iadd (pc := 263) cx (dA ddX8_look (i := 133) rfl) ?_
              rw [nI_add]
              refine pX8_139 (pc := 264)  cx (dA ddX8_look (i := 134) rfl) h0 ?_
              rw [show sI (mtV V y (4, q, q) 0) 423 y (nI (q + 1)) = (mtV V y (4, q, q + 1) 0) from m_s23]
              refine x_return (pc := 267) cx (dA ddX8_look (i := 135) rfl) (by first | exact Nat.le_of_ble_eq_true rfl | omega) (by first | exact Nat.le_of_ble_eq_true rfl | omega) ?_
              have ea : adv B S τ.2.2 = (4, q, q + 1) := adv_one es qS k3 (by decide) (by decide)
              rw [ea]
              exact ⟨rfl, rfl, rfl⟩
            · have c246 := ceqT (by omega) (by omega) c246
              have k3 : kOf (B q) = 3 := by rw [kOf_34 n1 n2, if_pos c246]
              refine x_iconst (pc := 249) (v := nI 3) cx (dA ddX8_look (i := 125) rfl) (by decide) ?_
              refine x_goto (pc := 250) (tgt := 254) cx (dA ddX8_look (i := 126) rfl) (by decide) ?_
              refine pX8_149 (pc := 254)  cx (dA ddX8_look (i := 128) rfl) h0 ?_
              rw [show sI (mtV V y (τ.1, q, q) 0) 424 y (nI 3) = (mtV V y (3, q, q) 0) from m_s24]
              refine x_aload_n (pc := 257) cx (dA ddX8_look (i := 129) rfl) rfl ?_
              refine x_dup (pc := 258) cx rfl (dA ddX8_look (i := 130) rfl) ?_
              refine gX8_139 (pc := 259) (congrArg Value.int (show (mtV V y (3, q, q) 0).1 423 y = nI q from m_g23)) cx (dA ddX8_look (i := 131) rfl) h0 ?_
              refine x_iconst (pc := 262) (v := nI 1) cx (dA ddX8_look (i := 132) rfl) (by decide) ?_
              refine x_iadd (pc := 263) cx (dA ddX8_look (i := 133) rfl) ?_
              rw [nI_add]
              refine pX8_139 (pc := 264)  cx (dA ddX8_look (i := 134) rfl) h0 ?_
              rw [show sI (mtV V y (3, q, q) 0) 423 y (nI (q + 1)) = (mtV V y (3, q, q + 1) 0) from m_s23]
              refine x_return (pc := 267) cx (dA ddX8_look (i := 135) rfl) (by first | exact Nat.le_of_ble_eq_true rfl | omega) (by first | exact Nat.le_of_ble_eq_true rfl | omega) ?_
              have ea : adv B S τ.2.2 = (3, q, q + 1) := adv_one es qS k3 (by decide) (by decide)
              rw [ea]
              exact ⟨rfl, rfl, rfl⟩
          · have y2 := b2i_ne c141
            have k2 := kOf_2 n1 y2
            refine x_aload_n (pc := 144) cx (dA ddX8_look (i := 71) rfl) rfl ?_
            refine x_iconst (pc := 145) (v := nI 2) cx (dA ddX8_look (i := 72) rfl) (by decide) ?_
            refine pX8_149 (pc := 146)  cx (dA ddX8_look (i := 73) rfl) h0 ?_
            have L149 : ∀ z, z ≤ S → q ≤ z → run B S 2 z = run B S 2 (q + 1) → Wm Z X 1 G (mtV V y (2, q, z) (fgP B (2, q, z))) 0 0 (rQ Z X 0 0 (pV G (mtV V y (adv B S τ.2.2) (fgP B (adv B S τ.2.2))))) 149 [(0, some (.ref y))] [] := by
              refine lpU S (fun z hzS ih3 => ?_)
              intro hz1 hz
              refine x_aload_n (pc := 149) cx (dA ddX8_look (i := 74) rfl) rfl ?_
              refine gX8_139 (pc := 150) (congrArg Value.int (show (mtV V y (2, q, z) (fgP B (2, q, z))).1 423 y = nI z from m_g23)) cx (dA ddX8_look (i := 75) rfl) h0 ?_
              refine x_aload_n (pc := 153) cx (dA ddX8_look (i := 76) rfl) rfl ?_
              refine gX8_136 (pc := 154) (congrArg Value.int ((m_lo (by decide)).trans hT.1)) cx (dA ddX8_look (i := 77) rfl) h0 ?_
              refine x_icmp_ge (pc := 157) (tgt := 267) cx (dA ddX8_look (i := 78) rfl) (by decide) (fun c157 => ?_) (fun c157 => ?_)
              · have c157 := cleT (by omega) (by omega) c157
                refine x_return (pc := 267) cx (dA ddX8_look (i := 135) rfl) (by first | exact Nat.le_of_ble_eq_true rfl | omega) (by first | exact Nat.le_of_ble_eq_true rfl | omega) ?_
                have ea : adv B S τ.2.2 = (2, q, z) := adv_run es qS k2 (Or.inr rfl) hz (fun h => by omega)
                rw [ea]
                exact ⟨rfl, rfl, rfl⟩
              · have c157 := cleF (by omega) (by omega) c157
                refine x_aload_n (pc := 160) cx (dA ddX8_look (i := 79) rfl) rfl ?_
                refine gX8_39 (pc := 161) (rfA hM.2.2.2.2.2.2.2.2.2.1.1) cx (dA ddX8_look (i := 80) rfl) h0 ?_
                refine x_aload_n (pc := 164) cx (dA ddX8_look (i := 81) rfl) rfl ?_
                refine gX8_139 (pc := 165) (congrArg Value.int (show (mtV V y (2, q, z) (fgP B (2, q, z))).1 423 y = nI z from m_g23)) cx (dA ddX8_look (i := 82) rfl) h0 ?_
                refine x_iaload (pc := 168) cx (dA ddX8_look (i := 83) rfl) hM.2.2.2.2.2.2.2.2.2.1.2 (by omega) (by decide) ?_
                rw [show (mtV V y (2, q, z) (fgP B (2, q, z))).2.2.1 (y + 27) z = nI (B z) from hT.2.1 z (by omega)]
                refine x_S1 (pc := 169) mX8_155 (c_X8_isDigit (b256 z)) cx (dA ddX8_look (i := 84) rfl) (kI ?_)
                refine x_if_eq (pc := 172) (tgt := 267) cx (dA ddX8_look (i := 85) rfl) (by decide) (fun c172 => ?_) (fun c172 => ?_)
                · have n3 := kOf_n2 (b2i_eq c172)
                  refine x_return (pc := 267) cx (dA ddX8_look (i := 135) rfl) (by first | exact Nat.le_of_ble_eq_true rfl | omega) (by first | exact Nat.le_of_ble_eq_true rfl | omega) ?_
                  have ea : adv B S τ.2.2 = (2, q, z) := adv_run es qS k2 (Or.inr rfl) hz (fun h => n3 h.2)
                  rw [ea]
                  exact ⟨rfl, rfl, rfl⟩
                · have y4 := b2i_ne c172
                  have y3 : kOf (B z) = 2 := by unfold kOf; rw [if_neg (by omega), if_pos y4]
                  refine x_aload_n (pc := 175) cx (dA ddX8_look (i := 86) rfl) rfl ?_
                  refine x_aload_n (pc := 176) cx (dA ddX8_look (i := 87) rfl) rfl ?_
                  refine gX8_139 (pc := 177) (congrArg Value.int (show (mtV V y (2, q, z) (fgP B (2, q, z))).1 423 y = nI z from m_g23)) cx (dA ddX8_look (i := 88) rfl) h0 ?_
                  refine x_aload_n (pc := 180) cx (dA ddX8_look (i := 89) rfl) rfl ?_
                  refine gX8_142 (pc := 181) (congrArg Value.int (show (mtV V y (2, q, z) (fgP B (2, q, z))).1 425 y = nI q from m_g25)) cx (dA ddX8_look (i := 90) rfl) h0 ?_
                  refine x_isub (pc := 184) cx (dA ddX8_look (i := 91) rfl) ?_
                  rw [pk_sub hz1]
                  refine x_iconst (pc := 185) (v := nI 2) cx (dA ddX8_look (i := 92) rfl) (by decide) ?_
                  refine x_icmp_ge (pc := 186) (tgt := 215) cx (dA ddX8_look (i := 93) rfl) (by decide) (fun c186 => ?_) (fun c186 => ?_)
                  · have c186 := cleT (by omega) (by omega) c186
                    refine x_ldc2 (pc := 215) cx klX8_162 (dA ddX8_look (i := 108) rfl) ?_
                    rw [show lN 100000 = lN (fgP B (2, q, z + 1)) from congrArg lN (fg_t c186)]
                    refine pX8_145 (pc := 218)  cx (dA ddX8_look (i := 109) rfl) h0 ?_
                    rw [show sL (mtV V y (2, q, z) (fgP B (2, q, z))) 426 y (lN (fgP B (2, q, z + 1))) = (mtV V y (2, q, z) (fgP B (2, q, z + 1))) from m_s26]
                    refine x_aload_n (pc := 221) cx (dA ddX8_look (i := 110) rfl) rfl ?_
                    refine x_dup (pc := 222) cx rfl (dA ddX8_look (i := 111) rfl) ?_
                    refine gX8_139 (pc := 223) (congrArg Value.int (show (mtV V y (2, q, z) (fgP B (2, q, z + 1))).1 423 y = nI z from m_g23)) cx (dA ddX8_look (i := 112) rfl) h0 ?_
                    refine x_iconst (pc := 226) (v := nI 1) cx (dA ddX8_look (i := 113) rfl) (by decide) ?_
                    refine x_iadd (pc := 227) cx (dA ddX8_look (i := 114) rfl) ?_
                    rw [nI_add]
                    refine pX8_139 (pc := 228)  cx (dA ddX8_look (i := 115) rfl) h0 ?_
                    rw [show sI (mtV V y (2, q, z) (fgP B (2, q, z + 1))) 423 y (nI (z + 1)) = (mtV V y (2, q, z + 1) (fgP B (2, q, z + 1))) from m_s23]
                    refine x_goto (pc := 231) (tgt := 149) cx (dA ddX8_look (i := 116) rfl) (by decide) ?_
                    exact x_enter (ih3 (by omega) (by omega) (by rw [← run_go ⟨by omega, y3⟩]; exact hz)) ⟨.inr rfl, trivial⟩
                  · have c186 := cleF (by omega) (by omega) c186
                    refine x_aload_n (pc := 189) cx (dA ddX8_look (i := 94) rfl) rfl ?_
                    refine gX8_145 (pc := 190) (congrArg Value.long m_g26) cx (dA ddX8_look (i := 95) rfl) h0 ?_
                    refine x_ldc2 (pc := 193) cx klX8_158 (dA ddX8_look (i := 96) rfl) ?_
                    refine x_lmul (pc := 196) cx (dA ddX8_look (i := 97) rfl) ?_
                    refine x_aload_n (pc := 197) cx (dA ddX8_look (i := 98) rfl) rfl ?_
                    refine gX8_39 (pc := 198) (rfA hM.2.2.2.2.2.2.2.2.2.1.1) cx (dA ddX8_look (i := 99) rfl) h0 ?_
                    refine x_aload_n (pc := 201) cx (dA ddX8_look (i := 100) rfl) rfl ?_
                    refine gX8_139 (pc := 202) (congrArg Value.int (show (mtV V y (2, q, z) (fgP B (2, q, z))).1 423 y = nI z from m_g23)) cx (dA ddX8_look (i := 101) rfl) h0 ?_
                    refine x_iaload (pc := 205) cx (dA ddX8_look (i := 102) rfl) hM.2.2.2.2.2.2.2.2.2.1.2 (by omega) (by decide) ?_
                    rw [show (mtV V y (2, q, z) (fgP B (2, q, z))).2.2.1 (y + 27) z = nI (B z) from hT.2.1 z (by omega)]
                    refine x_i2l (pc := 206) cx (dA ddX8_look (i := 103) rfl) ?_
                    rw [nI_l (by have := b256 z; omega)]
                    refine x_ladd (pc := 207) cx (dA ddX8_look (i := 104) rfl) ?_
                    refine x_ldc2 (pc := 208) cx klX8_160 (dA ddX8_look (i := 105) rfl) ?_
                    refine x_lsub (pc := 211) cx (dA ddX8_look (i := 106) rfl) ?_
                    rw [lN_mul, lN_add, lN_sub (by omega), fg_s hz1 c186 y4.1]
                    refine x_goto (pc := 212) (tgt := 218) cx (dA ddX8_look (i := 107) rfl) (by decide) ?_
                    refine pX8_145 (pc := 218)  cx (dA ddX8_look (i := 109) rfl) h0 ?_
                    rw [show sL (mtV V y (2, q, z) (fgP B (2, q, z))) 426 y (lN (fgP B (2, q, z + 1))) = (mtV V y (2, q, z) (fgP B (2, q, z + 1))) from m_s26]
                    refine x_aload_n (pc := 221) cx (dA ddX8_look (i := 110) rfl) rfl ?_
                    refine x_dup (pc := 222) cx rfl (dA ddX8_look (i := 111) rfl) ?_
                    refine gX8_139 (pc := 223) (congrArg Value.int (show (mtV V y (2, q, z) (fgP B (2, q, z + 1))).1 423 y = nI z from m_g23)) cx (dA ddX8_look (i := 112) rfl) h0 ?_
                    refine x_iconst (pc := 226) (v := nI 1) cx (dA ddX8_look (i := 113) rfl) (by decide) ?_
                    refine x_iadd (pc := 227) cx (dA ddX8_look (i := 114) rfl) ?_
                    rw [nI_add]
                    refine pX8_139 (pc := 228)  cx (dA ddX8_look (i := 115) rfl) h0 ?_
                    rw [show sI (mtV V y (2, q, z) (fgP B (2, q, z + 1))) 423 y (nI (z + 1)) = (mtV V y (2, q, z + 1) (fgP B (2, q, z + 1))) from m_s23]
                    refine x_goto (pc := 231) (tgt := 149) cx (dA ddX8_look (i := 116) rfl) (by decide) ?_
                    exact x_enter (ih3 (by omega) (by omega) (by rw [← run_go ⟨by omega, y3⟩]; exact hz)) ⟨.inr rfl, trivial⟩
            rw [show sI (mtV V y (τ.1, q, q) 0) 424 y (nI 2) = (mtV V y (2, q, q) 0) from m_s24]
            have f0 : fgP B (2, q, q) = 0 := by unfold fgP; rw [if_pos rfl, if_pos (by dsimp only; omega)]; dsimp only; rw [Nat.sub_self]; rfl
            have L := L149 q (by omega) (Nat.le_refl _) (run_go ⟨qS, k2⟩)
            rw [f0] at L
            exact x_enter L ⟨.inr rfl, trivial⟩
        · have y1 := b2i_ne c82
          have k1 := kOf_1 y1
          refine x_aload_n (pc := 85) cx (dA ddX8_look (i := 42) rfl) rfl ?_
          refine x_iconst (pc := 86) (v := nI 1) cx (dA ddX8_look (i := 43) rfl) (by decide) ?_
          refine pX8_149 (pc := 87)  cx (dA ddX8_look (i := 44) rfl) h0 ?_
          have L90 : ∀ z, z ≤ S → run B S 1 z = run B S 1 (q + 1) → Wm Z X 1 G (mtV V y (1, q, z) 0) 0 0 (rQ Z X 0 0 (pV G (mtV V y (adv B S τ.2.2) (fgP B (adv B S τ.2.2))))) 90 [(0, some (.ref y))] [] := by
            refine lpU S (fun z hzS ih2 => ?_)
            intro hz
            refine x_aload_n (pc := 90) cx (dA ddX8_look (i := 45) rfl) rfl ?_
            refine gX8_139 (pc := 91) (congrArg Value.int (show (mtV V y (1, q, z) 0).1 423 y = nI z from m_g23)) cx (dA ddX8_look (i := 46) rfl) h0 ?_
            refine x_aload_n (pc := 94) cx (dA ddX8_look (i := 47) rfl) rfl ?_
            refine gX8_136 (pc := 95) (congrArg Value.int ((m_lo (by decide)).trans hT.1)) cx (dA ddX8_look (i := 48) rfl) h0 ?_
            refine x_icmp_ge (pc := 98) (tgt := 267) cx (dA ddX8_look (i := 49) rfl) (by decide) (fun c98 => ?_) (fun c98 => ?_)
            · have c98 := cleT (by omega) (by omega) c98
              refine x_return (pc := 267) cx (dA ddX8_look (i := 135) rfl) (by first | exact Nat.le_of_ble_eq_true rfl | omega) (by first | exact Nat.le_of_ble_eq_true rfl | omega) ?_
              have ea : adv B S τ.2.2 = (1, q, z) := adv_run es qS k1 (Or.inl rfl) hz (fun h => by omega)
              rw [ea]
              exact ⟨rfl, rfl, rfl⟩
            · have c98 := cleF (by omega) (by omega) c98
              refine x_aload_n (pc := 101) cx (dA ddX8_look (i := 50) rfl) rfl ?_
              refine gX8_39 (pc := 102) (rfA hM.2.2.2.2.2.2.2.2.2.1.1) cx (dA ddX8_look (i := 51) rfl) h0 ?_
              refine x_aload_n (pc := 105) cx (dA ddX8_look (i := 52) rfl) rfl ?_
              refine gX8_139 (pc := 106) (congrArg Value.int (show (mtV V y (1, q, z) 0).1 423 y = nI z from m_g23)) cx (dA ddX8_look (i := 53) rfl) h0 ?_
              refine x_iaload (pc := 109) cx (dA ddX8_look (i := 54) rfl) hM.2.2.2.2.2.2.2.2.2.1.2 (by omega) (by decide) ?_
              rw [show (mtV V y (1, q, z) 0).2.2.1 (y + 27) z = nI (B z) from hT.2.1 z (by omega)]
              refine x_S1 (pc := 110) mX8_152 (c_X8_isLetter (b256 z)) cx (dA ddX8_look (i := 55) rfl) (kI ?_)
              refine x_if_eq (pc := 113) (tgt := 267) cx (dA ddX8_look (i := 56) rfl) (by decide) (fun c113 => ?_) (fun c113 => ?_)
              · have n3 := kOf_n1 (b2i_eq c113)
                refine x_return (pc := 267) cx (dA ddX8_look (i := 135) rfl) (by first | exact Nat.le_of_ble_eq_true rfl | omega) (by first | exact Nat.le_of_ble_eq_true rfl | omega) ?_
                have ea : adv B S τ.2.2 = (1, q, z) := adv_run es qS k1 (Or.inl rfl) hz (fun h => n3 h.2)
                rw [ea]
                exact ⟨rfl, rfl, rfl⟩
              · have y3 := kOf_1 (b2i_ne c113)
                refine x_aload_n (pc := 116) cx (dA ddX8_look (i := 57) rfl) rfl ?_
                refine x_dup (pc := 117) cx rfl (dA ddX8_look (i := 58) rfl) ?_
                refine gX8_139 (pc := 118) (congrArg Value.int (show (mtV V y (1, q, z) 0).1 423 y = nI z from m_g23)) cx (dA ddX8_look (i := 59) rfl) h0 ?_
                refine x_iconst (pc := 121) (v := nI 1) cx (dA ddX8_look (i := 60) rfl) (by decide) ?_
                refine x_iadd (pc := 122) cx (dA ddX8_look (i := 61) rfl) ?_
                rw [nI_add]
                refine pX8_139 (pc := 123)  cx (dA ddX8_look (i := 62) rfl) h0 ?_
                rw [show sI (mtV V y (1, q, z) 0) 423 y (nI (z + 1)) = (mtV V y (1, q, z + 1) 0) from m_s23]
                refine x_goto (pc := 126) (tgt := 90) cx (dA ddX8_look (i := 63) rfl) (by decide) ?_
                exact x_enter (ih2 (by omega) (by rw [← run_go ⟨by omega, y3⟩]; exact hz)) ⟨.inr rfl, trivial⟩
          rw [show sI (mtV V y (τ.1, q, q) 0) 424 y (nI 1) = (mtV V y (1, q, q) 0) from m_s24]
          exact x_enter (L90 q (by omega) (run_go ⟨qS, k1⟩)) ⟨.inr rfl, trivial⟩
      · have c59 := ceqT (by omega) (by omega) c59
        refine x_aload_n (pc := 62) cx (dA ddX8_look (i := 31) rfl) rfl ?_
        refine x_iconst (pc := 63) (v := nI 0) cx (dA ddX8_look (i := 32) rfl) (by decide) ?_
        refine pX8_149 (pc := 64)  cx (dA ddX8_look (i := 33) rfl) h0 ?_
        rw [show sI (mtV V y (τ.1, q, q) 0) 424 y (nI 0) = (mtV V y (0, q, q) 0) from m_s24]
        refine x_goto (pc := 67) (tgt := 267) cx (dA ddX8_look (i := 34) rfl) (by decide) ?_
        refine x_return (pc := 267) cx (dA ddX8_look (i := 135) rfl) (by first | exact Nat.le_of_ble_eq_true rfl | omega) (by first | exact Nat.le_of_ble_eq_true rfl | omega) ?_
        have eq : q = S := c59
        have ea : adv B S τ.2.2 = (0, q, q) := adv_end es (by omega)
        rw [ea]
        exact ⟨rfl, rfl, rfl⟩
    · have c8 := cleF (by omega) (by omega) c8
      refine x_aload_n (pc := 11) cx (dA ddX8_look (i := 5) rfl) rfl ?_
      refine gX8_39 (pc := 12) (rfA hM.2.2.2.2.2.2.2.2.2.1.1) cx (dA ddX8_look (i := 6) rfl) h0 ?_
      refine x_aload_n (pc := 15) cx (dA ddX8_look (i := 7) rfl) rfl ?_
      refine gX8_139 (pc := 16) (congrArg Value.int (show (mtV V y (τ.1, τ.2.1, q) g).1 423 y = nI q from m_g23)) cx (dA ddX8_look (i := 8) rfl) h0 ?_
      refine x_iaload (pc := 19) cx (dA ddX8_look (i := 9) rfl) hM.2.2.2.2.2.2.2.2.2.1.2 (by omega) (by decide) ?_
      rw [show (mtV V y (τ.1, τ.2.1, q) g).2.2.1 (y + 27) q = nI (B q) from hT.2.1 q (by omega)]
      have bq := b256 q
      refine x_bipush (pc := 20) (v := nI 32) cx (dA ddX8_look (i := 10) rfl) (by decide) ?_
      refine x_icmp_ne (pc := 22) (tgt := 38) cx (dA ddX8_look (i := 11) rfl) (by decide) (fun c22 => ?_) (fun c22 => ?_)
      · have c22 := ceqF (by omega) (by omega) c22
        have es : skip B S τ.2.2 = q := by rw [← hq, skip_stop (by omega)]
        refine x_aload_n (pc := 38) cx (dA ddX8_look (i := 19) rfl) rfl ?_
        refine x_aload_n (pc := 39) cx (dA ddX8_look (i := 20) rfl) rfl ?_
        refine gX8_139 (pc := 40) (congrArg Value.int (show (mtV V y (τ.1, τ.2.1, q) g).1 423 y = nI q from m_g23)) cx (dA ddX8_look (i := 21) rfl) h0 ?_
        refine pX8_142 (pc := 43)  cx (dA ddX8_look (i := 22) rfl) h0 ?_
        rw [show sI (mtV V y (τ.1, τ.2.1, q) g) 425 y (nI q) = (mtV V y (τ.1, q, q) g) from m_s25]
        refine x_aload_n (pc := 46) cx (dA ddX8_look (i := 23) rfl) rfl ?_
        refine x_lconst (pc := 47) (v := lN 0) cx (dA ddX8_look (i := 24) rfl) rfl ?_
        refine pX8_145 (pc := 48)  cx (dA ddX8_look (i := 25) rfl) h0 ?_
        rw [show sL (mtV V y (τ.1, q, q) g) 426 y (lN 0) = (mtV V y (τ.1, q, q) 0) from m_s26]
        refine x_aload_n (pc := 51) cx (dA ddX8_look (i := 26) rfl) rfl ?_
        refine gX8_139 (pc := 52) (congrArg Value.int (show (mtV V y (τ.1, q, q) 0).1 423 y = nI q from m_g23)) cx (dA ddX8_look (i := 27) rfl) h0 ?_
        refine x_aload_n (pc := 55) cx (dA ddX8_look (i := 28) rfl) rfl ?_
        refine gX8_136 (pc := 56) (congrArg Value.int ((m_lo (by decide)).trans hT.1)) cx (dA ddX8_look (i := 29) rfl) h0 ?_
        refine x_icmp_ne (pc := 59) (tgt := 70) cx (dA ddX8_look (i := 30) rfl) (by decide) (fun c59 => ?_) (fun c59 => ?_)
        · have c59 := ceqF (by omega) (by omega) c59
          have qS : q < S := by omega
          refine x_aload_n (pc := 70) cx (dA ddX8_look (i := 35) rfl) rfl ?_
          refine gX8_39 (pc := 71) (rfA hM.2.2.2.2.2.2.2.2.2.1.1) cx (dA ddX8_look (i := 36) rfl) h0 ?_
          refine x_aload_n (pc := 74) cx (dA ddX8_look (i := 37) rfl) rfl ?_
          refine gX8_139 (pc := 75) (congrArg Value.int (show (mtV V y (τ.1, q, q) 0).1 423 y = nI q from m_g23)) cx (dA ddX8_look (i := 38) rfl) h0 ?_
          refine x_iaload (pc := 78) cx (dA ddX8_look (i := 39) rfl) hM.2.2.2.2.2.2.2.2.2.1.2 (by omega) (by decide) ?_
          rw [show (mtV V y (τ.1, q, q) 0).2.2.1 (y + 27) q = nI (B q) from hT.2.1 q (by omega)]
          have bq := b256 q
          refine x_S1 (pc := 79) mX8_152 (c_X8_isLetter (b256 q)) cx (dA ddX8_look (i := 40) rfl) (kI ?_)
          refine x_if_eq (pc := 82) (tgt := 129) cx (dA ddX8_look (i := 41) rfl) (by decide) (fun c82 => ?_) (fun c82 => ?_)
          · have n1 := b2i_eq c82
            refine x_aload_n (pc := 129) cx (dA ddX8_look (i := 64) rfl) rfl ?_
            refine gX8_39 (pc := 130) (rfA hM.2.2.2.2.2.2.2.2.2.1.1) cx (dA ddX8_look (i := 65) rfl) h0 ?_
            refine x_aload_n (pc := 133) cx (dA ddX8_look (i := 66) rfl) rfl ?_
            refine gX8_139 (pc := 134) (congrArg Value.int (show (mtV V y (τ.1, q, q) 0).1 423 y = nI q from m_g23)) cx (dA ddX8_look (i := 67) rfl) h0 ?_
            refine x_iaload (pc := 137) cx (dA ddX8_look (i := 68) rfl) hM.2.2.2.2.2.2.2.2.2.1.2 (by omega) (by decide) ?_
            rw [show (mtV V y (τ.1, q, q) 0).2.2.1 (y + 27) q = nI (B q) from hT.2.1 q (by omega)]
            refine x_S1 (pc := 138) mX8_155 (c_X8_isDigit (b256 q)) cx (dA ddX8_look (i := 69) rfl) (kI ?_)
            refine x_if_eq (pc := 141) (tgt := 234) cx (dA ddX8_look (i := 70) rfl) (by decide) (fun c141 => ?_) (fun c141 => ?_)
            · have n2 := b2i_eq c141
              refine x_aload_n (pc := 234) cx (dA ddX8_look (i := 117) rfl) rfl ?_
              refine x_aload_n (pc := 235) cx (dA ddX8_look (i := 118) rfl) rfl ?_
              refine gX8_39 (pc := 236) (rfA hM.2.2.2.2.2.2.2.2.2.1.1) cx (dA ddX8_look (i := 119) rfl) h0 ?_
              refine x_aload_n (pc := 239) cx (dA ddX8_look (i := 120) rfl) rfl ?_
              refine gX8_139 (pc := 240) (congrArg Value.int (show (mtV V y (τ.1, q, q) 0).1 423 y = nI q from m_g23)) cx (dA ddX8_look (i := 121) rfl) h0 ?_
              refine x_iaload (pc := 243) cx (dA ddX8_look (i := 122) rfl) hM.2.2.2.2.2.2.2.2.2.1.2 (by omega) (by decide) ?_
              rw [show (mtV V y (τ.1, q, q) 0).2.2.1 (y + 27) q = nI (B q) from hT.2.1 q (by omega)]
              refine x_bipush (pc := 244) (v := nI 59) cx (dA ddX8_look (i := 123) rfl) (by decide) ?_
              refine x_icmp_ne (pc := 246) (tgt := 253) cx (dA ddX8_look (i := 124) rfl) (by decide) (fun c246 => ?_) (fun c246 => ?_)
              · have c246 := ceqF (by omega) (by omega) c246
                have k3 : kOf (B q) = 4 := by rw [kOf_34 n1 n2, if_neg c246]
                refine x_iconst (pc := 253) (v := nI 4) cx (dA ddX8_look (i := 127) rfl) (by decide) ?_
                refine pX8_149 (pc := 254)  cx (dA ddX8_look (i := 128) rfl) h0 ?_
                rw [show sI (mtV V y (τ.1, q, q) 0) 424 y (nI 4) = (mtV V y (4, q, q) 0) from m_s24]
                refine x_aload_n (pc := 257) cx (dA ddX8_look (i := 129) rfl) rfl ?_
                refine x_dup (pc := 258) cx rfl (dA ddX8_look (i := 130) rfl) ?_
                refine gX8_139 (pc := 259) (congrArg Value.int (show (mtV V y (4, q, q) 0).1 423 y = nI q from m_g23)) cx (dA ddX8_look (i := 131) rfl) h0 ?_
                refine x_iconst (pc := 262) (v := nI 1) cx (dA ddX8_look (i := 132) rfl) (by decide) ?_
                refine x_iadd (pc := 263) cx (dA ddX8_look (i := 133) rfl) ?_
                rw [nI_add]
                refine pX8_139 (pc := 264)  cx (dA ddX8_look (i := 134) rfl) h0 ?_
                rw [show sI (mtV V y (4, q, q) 0) 423 y (nI (q + 1)) = (mtV V y (4, q, q + 1) 0) from m_s23]
                refine x_return (pc := 267) cx (dA ddX8_look (i := 135) rfl) (by first | exact Nat.le_of_ble_eq_true rfl | omega) (by first | exact Nat.le_of_ble_eq_true rfl | omega) ?_
                have ea : adv B S τ.2.2 = (4, q, q + 1) := adv_one es qS k3 (by decide) (by decide)
                rw [ea]
                exact ⟨rfl, rfl, rfl⟩
              · have c246 := ceqT (by omega) (by omega) c246
                have k3 : kOf (B q) = 3 := by rw [kOf_34 n1 n2, if_pos c246]
                refine x_iconst (pc := 249) (v := nI 3) cx (dA ddX8_look (i := 125) rfl) (by decide) ?_
                refine x_goto (pc := 250) (tgt := 254) cx (dA ddX8_look (i := 126) rfl) (by decide) ?_
                refine pX8_149 (pc := 254)  cx (dA ddX8_look (i := 128) rfl) h0 ?_
                rw [show sI (mtV V y (τ.1, q, q) 0) 424 y (nI 3) = (mtV V y (3, q, q) 0) from m_s24]
                refine x_aload_n (pc := 257) cx (dA ddX8_look (i := 129) rfl) rfl ?_
                refine x_dup (pc := 258) cx rfl (dA ddX8_look (i := 130) rfl) ?_
                refine gX8_139 (pc := 259) (congrArg Value.int (show (mtV V y (3, q, q) 0).1 423 y = nI q from m_g23)) cx (dA ddX8_look (i := 131) rfl) h0 ?_
                refine x_iconst (pc := 262) (v := nI 1) cx (dA ddX8_look (i := 132) rfl) (by decide) ?_
                refine x_iadd (pc := 263) cx (dA ddX8_look (i := 133) rfl) ?_
                rw [nI_add]
                refine pX8_139 (pc := 264)  cx (dA ddX8_look (i := 134) rfl) h0 ?_
                rw [show sI (mtV V y (3, q, q) 0) 423 y (nI (q + 1)) = (mtV V y (3, q, q + 1) 0) from m_s23]
                refine x_return (pc := 267) cx (dA ddX8_look (i := 135) rfl) (by first | exact Nat.le_of_ble_eq_true rfl | omega) (by first | exact Nat.le_of_ble_eq_true rfl | omega) ?_
                have ea : adv B S τ.2.2 = (3, q, q + 1) := adv_one es qS k3 (by decide) (by decide)
                rw [ea]
                exact ⟨rfl, rfl, rfl⟩
            · have y2 := b2i_ne c141
              have k2 := kOf_2 n1 y2
              refine x_aload_n (pc := 144) cx (dA ddX8_look (i := 71) rfl) rfl ?_
              refine x_iconst (pc := 145) (v := nI 2) cx (dA ddX8_look (i := 72) rfl) (by decide) ?_
              refine pX8_149 (pc := 146)  cx (dA ddX8_look (i := 73) rfl) h0 ?_
              have L149 : ∀ z, z ≤ S → q ≤ z → run B S 2 z = run B S 2 (q + 1) → Wm Z X 1 G (mtV V y (2, q, z) (fgP B (2, q, z))) 0 0 (rQ Z X 0 0 (pV G (mtV V y (adv B S τ.2.2) (fgP B (adv B S τ.2.2))))) 149 [(0, some (.ref y))] [] := by
                refine lpU S (fun z hzS ih3 => ?_)
                intro hz1 hz
                refine x_aload_n (pc := 149) cx (dA ddX8_look (i := 74) rfl) rfl ?_
                refine gX8_139 (pc := 150) (congrArg Value.int (show (mtV V y (2, q, z) (fgP B (2, q, z))).1 423 y = nI z from m_g23)) cx (dA ddX8_look (i := 75) rfl) h0 ?_
                refine x_aload_n (pc := 153) cx (dA ddX8_look (i := 76) rfl) rfl ?_
                refine gX8_136 (pc := 154) (congrArg Value.int ((m_lo (by decide)).trans hT.1)) cx (dA ddX8_look (i := 77) rfl) h0 ?_
                refine x_icmp_ge (pc := 157) (tgt := 267) cx (dA ddX8_look (i := 78) rfl) (by decide) (fun c157 => ?_) (fun c157 => ?_)
                · have c157 := cleT (by omega) (by omega) c157
                  refine x_return (pc := 267) cx (dA ddX8_look (i := 135) rfl) (by first | exact Nat.le_of_ble_eq_true rfl | omega) (by first | exact Nat.le_of_ble_eq_true rfl | omega) ?_
                  have ea : adv B S τ.2.2 = (2, q, z) := adv_run es qS k2 (Or.inr rfl) hz (fun h => by omega)
                  rw [ea]
                  exact ⟨rfl, rfl, rfl⟩
                · have c157 := cleF (by omega) (by omega) c157
                  refine x_aload_n (pc := 160) cx (dA ddX8_look (i := 79) rfl) rfl ?_
                  refine gX8_39 (pc := 161) (rfA hM.2.2.2.2.2.2.2.2.2.1.1) cx (dA ddX8_look (i := 80) rfl) h0 ?_
                  refine x_aload_n (pc := 164) cx (dA ddX8_look (i := 81) rfl) rfl ?_
                  refine gX8_139 (pc := 165) (congrArg Value.int (show (mtV V y (2, q, z) (fgP B (2, q, z))).1 423 y = nI z from m_g23)) cx (dA ddX8_look (i := 82) rfl) h0 ?_
                  refine x_iaload (pc := 168) cx (dA ddX8_look (i := 83) rfl) hM.2.2.2.2.2.2.2.2.2.1.2 (by omega) (by decide) ?_
                  rw [show (mtV V y (2, q, z) (fgP B (2, q, z))).2.2.1 (y + 27) z = nI (B z) from hT.2.1 z (by omega)]
                  refine x_S1 (pc := 169) mX8_155 (c_X8_isDigit (b256 z)) cx (dA ddX8_look (i := 84) rfl) (kI ?_)
                  refine x_if_eq (pc := 172) (tgt := 267) cx (dA ddX8_look (i := 85) rfl) (by decide) (fun c172 => ?_) (fun c172 => ?_)
                  · have n3 := kOf_n2 (b2i_eq c172)
                    refine x_return (pc := 267) cx (dA ddX8_look (i := 135) rfl) (by first | exact Nat.le_of_ble_eq_true rfl | omega) (by first | exact Nat.le_of_ble_eq_true rfl | omega) ?_
                    have ea : adv B S τ.2.2 = (2, q, z) := adv_run es qS k2 (Or.inr rfl) hz (fun h => n3 h.2)
                    rw [ea]
                    exact ⟨rfl, rfl, rfl⟩
                  · have y4 := b2i_ne c172
                    have y3 : kOf (B z) = 2 := by unfold kOf; rw [if_neg (by omega), if_pos y4]
                    refine x_aload_n (pc := 175) cx (dA ddX8_look (i := 86) rfl) rfl ?_
                    refine x_aload_n (pc := 176) cx (dA ddX8_look (i := 87) rfl) rfl ?_
                    refine gX8_139 (pc := 177) (congrArg Value.int (show (mtV V y (2, q, z) (fgP B (2, q, z))).1 423 y = nI z from m_g23)) cx (dA ddX8_look (i := 88) rfl) h0 ?_
                    refine x_aload_n (pc := 180) cx (dA ddX8_look (i := 89) rfl) rfl ?_
                    refine gX8_142 (pc := 181) (congrArg Value.int (show (mtV V y (2, q, z) (fgP B (2, q, z))).1 425 y = nI q from m_g25)) cx (dA ddX8_look (i := 90) rfl) h0 ?_
                    refine x_isub (pc := 184) cx (dA ddX8_look (i := 91) rfl) ?_
                    rw [pk_sub hz1]
                    refine x_iconst (pc := 185) (v := nI 2) cx (dA ddX8_look (i := 92) rfl) (by decide) ?_
                    refine x_icmp_ge (pc := 186) (tgt := 215) cx (dA ddX8_look (i := 93) rfl) (by decide) (fun c186 => ?_) (fun c186 => ?_)
                    · have c186 := cleT (by omega) (by omega) c186
                      refine x_ldc2 (pc := 215) cx klX8_162 (dA ddX8_look (i := 108) rfl) ?_
                      rw [show lN 100000 = lN (fgP B (2, q, z + 1)) from congrArg lN (fg_t c186)]
                      refine pX8_145 (pc := 218)  cx (dA ddX8_look (i := 109) rfl) h0 ?_
                      rw [show sL (mtV V y (2, q, z) (fgP B (2, q, z))) 426 y (lN (fgP B (2, q, z + 1))) = (mtV V y (2, q, z) (fgP B (2, q, z + 1))) from m_s26]
                      refine x_aload_n (pc := 221) cx (dA ddX8_look (i := 110) rfl) rfl ?_
                      refine x_dup (pc := 222) cx rfl (dA ddX8_look (i := 111) rfl) ?_
                      refine gX8_139 (pc := 223) (congrArg Value.int (show (mtV V y (2, q, z) (fgP B (2, q, z + 1))).1 423 y = nI z from m_g23)) cx (dA ddX8_look (i := 112) rfl) h0 ?_
                      refine x_iconst (pc := 226) (v := nI 1) cx (dA ddX8_look (i := 113) rfl) (by decide) ?_
                      refine x_iadd (pc := 227) cx (dA ddX8_look (i := 114) rfl) ?_
                      rw [nI_add]
                      refine pX8_139 (pc := 228)  cx (dA ddX8_look (i := 115) rfl) h0 ?_
                      rw [show sI (mtV V y (2, q, z) (fgP B (2, q, z + 1))) 423 y (nI (z + 1)) = (mtV V y (2, q, z + 1) (fgP B (2, q, z + 1))) from m_s23]
                      refine x_goto (pc := 231) (tgt := 149) cx (dA ddX8_look (i := 116) rfl) (by decide) ?_
                      exact x_enter (ih3 (by omega) (by omega) (by rw [← run_go ⟨by omega, y3⟩]; exact hz)) ⟨.inr rfl, trivial⟩
                    · have c186 := cleF (by omega) (by omega) c186
                      refine x_aload_n (pc := 189) cx (dA ddX8_look (i := 94) rfl) rfl ?_
                      refine gX8_145 (pc := 190) (congrArg Value.long m_g26) cx (dA ddX8_look (i := 95) rfl) h0 ?_
                      refine x_ldc2 (pc := 193) cx klX8_158 (dA ddX8_look (i := 96) rfl) ?_
                      refine x_lmul (pc := 196) cx (dA ddX8_look (i := 97) rfl) ?_
                      refine x_aload_n (pc := 197) cx (dA ddX8_look (i := 98) rfl) rfl ?_
                      refine gX8_39 (pc := 198) (rfA hM.2.2.2.2.2.2.2.2.2.1.1) cx (dA ddX8_look (i := 99) rfl) h0 ?_
                      refine x_aload_n (pc := 201) cx (dA ddX8_look (i := 100) rfl) rfl ?_
                      refine gX8_139 (pc := 202) (congrArg Value.int (show (mtV V y (2, q, z) (fgP B (2, q, z))).1 423 y = nI z from m_g23)) cx (dA ddX8_look (i := 101) rfl) h0 ?_
                      refine x_iaload (pc := 205) cx (dA ddX8_look (i := 102) rfl) hM.2.2.2.2.2.2.2.2.2.1.2 (by omega) (by decide) ?_
                      rw [show (mtV V y (2, q, z) (fgP B (2, q, z))).2.2.1 (y + 27) z = nI (B z) from hT.2.1 z (by omega)]
                      refine x_i2l (pc := 206) cx (dA ddX8_look (i := 103) rfl) ?_
                      rw [nI_l (by have := b256 z; omega)]
                      refine x_ladd (pc := 207) cx (dA ddX8_look (i := 104) rfl) ?_
                      refine x_ldc2 (pc := 208) cx klX8_160 (dA ddX8_look (i := 105) rfl) ?_
                      refine x_lsub (pc := 211) cx (dA ddX8_look (i := 106) rfl) ?_
                      rw [lN_mul, lN_add, lN_sub (by omega), fg_s hz1 c186 y4.1]
                      refine x_goto (pc := 212) (tgt := 218) cx (dA ddX8_look (i := 107) rfl) (by decide) ?_
                      refine pX8_145 (pc := 218)  cx (dA ddX8_look (i := 109) rfl) h0 ?_
                      rw [show sL (mtV V y (2, q, z) (fgP B (2, q, z))) 426 y (lN (fgP B (2, q, z + 1))) = (mtV V y (2, q, z) (fgP B (2, q, z + 1))) from m_s26]
                      refine x_aload_n (pc := 221) cx (dA ddX8_look (i := 110) rfl) rfl ?_
                      refine x_dup (pc := 222) cx rfl (dA ddX8_look (i := 111) rfl) ?_
                      refine gX8_139 (pc := 223) (congrArg Value.int (show (mtV V y (2, q, z) (fgP B (2, q, z + 1))).1 423 y = nI z from m_g23)) cx (dA ddX8_look (i := 112) rfl) h0 ?_
                      refine x_iconst (pc := 226) (v := nI 1) cx (dA ddX8_look (i := 113) rfl) (by decide) ?_
                      refine x_iadd (pc := 227) cx (dA ddX8_look (i := 114) rfl) ?_
                      rw [nI_add]
                      refine pX8_139 (pc := 228)  cx (dA ddX8_look (i := 115) rfl) h0 ?_
                      rw [show sI (mtV V y (2, q, z) (fgP B (2, q, z + 1))) 423 y (nI (z + 1)) = (mtV V y (2, q, z + 1) (fgP B (2, q, z + 1))) from m_s23]
                      refine x_goto (pc := 231) (tgt := 149) cx (dA ddX8_look (i := 116) rfl) (by decide) ?_
                      exact x_enter (ih3 (by omega) (by omega) (by rw [← run_go ⟨by omega, y3⟩]; exact hz)) ⟨.inr rfl, trivial⟩
              rw [show sI (mtV V y (τ.1, q, q) 0) 424 y (nI 2) = (mtV V y (2, q, q) 0) from m_s24]
              have f0 : fgP B (2, q, q) = 0 := by unfold fgP; rw [if_pos rfl, if_pos (by dsimp only; omega)]; dsimp only; rw [Nat.sub_self]; rfl
              have L := L149 q (by omega) (Nat.le_refl _) (run_go ⟨qS, k2⟩)
              rw [f0] at L
              exact x_enter L ⟨.inr rfl, trivial⟩
          · have y1 := b2i_ne c82
            have k1 := kOf_1 y1
            refine x_aload_n (pc := 85) cx (dA ddX8_look (i := 42) rfl) rfl ?_
            refine x_iconst (pc := 86) (v := nI 1) cx (dA ddX8_look (i := 43) rfl) (by decide) ?_
            refine pX8_149 (pc := 87)  cx (dA ddX8_look (i := 44) rfl) h0 ?_
            have L90 : ∀ z, z ≤ S → run B S 1 z = run B S 1 (q + 1) → Wm Z X 1 G (mtV V y (1, q, z) 0) 0 0 (rQ Z X 0 0 (pV G (mtV V y (adv B S τ.2.2) (fgP B (adv B S τ.2.2))))) 90 [(0, some (.ref y))] [] := by
              refine lpU S (fun z hzS ih2 => ?_)
              intro hz
              refine x_aload_n (pc := 90) cx (dA ddX8_look (i := 45) rfl) rfl ?_
              refine gX8_139 (pc := 91) (congrArg Value.int (show (mtV V y (1, q, z) 0).1 423 y = nI z from m_g23)) cx (dA ddX8_look (i := 46) rfl) h0 ?_
              refine x_aload_n (pc := 94) cx (dA ddX8_look (i := 47) rfl) rfl ?_
              refine gX8_136 (pc := 95) (congrArg Value.int ((m_lo (by decide)).trans hT.1)) cx (dA ddX8_look (i := 48) rfl) h0 ?_
              refine x_icmp_ge (pc := 98) (tgt := 267) cx (dA ddX8_look (i := 49) rfl) (by decide) (fun c98 => ?_) (fun c98 => ?_)
              · have c98 := cleT (by omega) (by omega) c98
                refine x_return (pc := 267) cx (dA ddX8_look (i := 135) rfl) (by first | exact Nat.le_of_ble_eq_true rfl | omega) (by first | exact Nat.le_of_ble_eq_true rfl | omega) ?_
                have ea : adv B S τ.2.2 = (1, q, z) := adv_run es qS k1 (Or.inl rfl) hz (fun h => by omega)
                rw [ea]
                exact ⟨rfl, rfl, rfl⟩
              · have c98 := cleF (by omega) (by omega) c98
                refine x_aload_n (pc := 101) cx (dA ddX8_look (i := 50) rfl) rfl ?_
                refine gX8_39 (pc := 102) (rfA hM.2.2.2.2.2.2.2.2.2.1.1) cx (dA ddX8_look (i := 51) rfl) h0 ?_
                refine x_aload_n (pc := 105) cx (dA ddX8_look (i := 52) rfl) rfl ?_
                refine gX8_139 (pc := 106) (congrArg Value.int (show (mtV V y (1, q, z) 0).1 423 y = nI z from m_g23)) cx (dA ddX8_look (i := 53) rfl) h0 ?_
                refine x_iaload (pc := 109) cx (dA ddX8_look (i := 54) rfl) hM.2.2.2.2.2.2.2.2.2.1.2 (by omega) (by decide) ?_
                rw [show (mtV V y (1, q, z) 0).2.2.1 (y + 27) z = nI (B z) from hT.2.1 z (by omega)]
                refine x_S1 (pc := 110) mX8_152 (c_X8_isLetter (b256 z)) cx (dA ddX8_look (i := 55) rfl) (kI ?_)
                refine x_if_eq (pc := 113) (tgt := 267) cx (dA ddX8_look (i := 56) rfl) (by decide) (fun c113 => ?_) (fun c113 => ?_)
                · have n3 := kOf_n1 (b2i_eq c113)
                  refine x_return (pc := 267) cx (dA ddX8_look (i := 135) rfl) (by first | exact Nat.le_of_ble_eq_true rfl | omega) (by first | exact Nat.le_of_ble_eq_true rfl | omega) ?_
                  have ea : adv B S τ.2.2 = (1, q, z) := adv_run es qS k1 (Or.inl rfl) hz (fun h => n3 h.2)
                  rw [ea]
                  exact ⟨rfl, rfl, rfl⟩
                · have y3 := kOf_1 (b2i_ne c113)
                  refine x_aload_n (pc := 116) cx (dA ddX8_look (i := 57) rfl) rfl ?_
                  refine x_dup (pc := 117) cx rfl (dA ddX8_look (i := 58) rfl) ?_
                  refine gX8_139 (pc := 118) (congrArg Value.int (show (mtV V y (1, q, z) 0).1 423 y = nI z from m_g23)) cx (dA ddX8_look (i := 59) rfl) h0 ?_
                  refine x_iconst (pc := 121) (v := nI 1) cx (dA ddX8_look (i := 60) rfl) (by decide) ?_
                  refine x_iadd (pc := 122) cx (dA ddX8_look (i := 61) rfl) ?_
                  rw [nI_add]
                  refine pX8_139 (pc := 123)  cx (dA ddX8_look (i := 62) rfl) h0 ?_
                  rw [show sI (mtV V y (1, q, z) 0) 423 y (nI (z + 1)) = (mtV V y (1, q, z + 1) 0) from m_s23]
                  refine x_goto (pc := 126) (tgt := 90) cx (dA ddX8_look (i := 63) rfl) (by decide) ?_
                  exact x_enter (ih2 (by omega) (by rw [← run_go ⟨by omega, y3⟩]; exact hz)) ⟨.inr rfl, trivial⟩
            rw [show sI (mtV V y (τ.1, q, q) 0) 424 y (nI 1) = (mtV V y (1, q, q) 0) from m_s24]
            exact x_enter (L90 q (by omega) (run_go ⟨qS, k1⟩)) ⟨.inr rfl, trivial⟩
        · have c59 := ceqT (by omega) (by omega) c59
          refine x_aload_n (pc := 62) cx (dA ddX8_look (i := 31) rfl) rfl ?_
          refine x_iconst (pc := 63) (v := nI 0) cx (dA ddX8_look (i := 32) rfl) (by decide) ?_
          refine pX8_149 (pc := 64)  cx (dA ddX8_look (i := 33) rfl) h0 ?_
          rw [show sI (mtV V y (τ.1, q, q) 0) 424 y (nI 0) = (mtV V y (0, q, q) 0) from m_s24]
          refine x_goto (pc := 67) (tgt := 267) cx (dA ddX8_look (i := 34) rfl) (by decide) ?_
          refine x_return (pc := 267) cx (dA ddX8_look (i := 135) rfl) (by first | exact Nat.le_of_ble_eq_true rfl | omega) (by first | exact Nat.le_of_ble_eq_true rfl | omega) ?_
          have eq : q = S := c59
          have ea : adv B S τ.2.2 = (0, q, q) := adv_end es (by omega)
          rw [ea]
          exact ⟨rfl, rfl, rfl⟩
      · have c22 := ceqT (by omega) (by omega) c22
        refine x_aload_n (pc := 25) cx (dA ddX8_look (i := 12) rfl) rfl ?_
        refine x_dup (pc := 26) cx rfl (dA ddX8_look (i := 13) rfl) ?_
        refine gX8_139 (pc := 27) (congrArg Value.int (show (mtV V y (τ.1, τ.2.1, q) g).1 423 y = nI q from m_g23)) cx (dA ddX8_look (i := 14) rfl) h0 ?_
        refine x_iconst (pc := 30) (v := nI 1) cx (dA ddX8_look (i := 15) rfl) (by decide) ?_
        refine x_iadd (pc := 31) cx (dA ddX8_look (i := 16) rfl) ?_
        rw [nI_add]
        refine pX8_139 (pc := 32)  cx (dA ddX8_look (i := 17) rfl) h0 ?_
        rw [show sI (mtV V y (τ.1, τ.2.1, q) g) 423 y (nI (q + 1)) = (mtV V y (τ.1, τ.2.1, q + 1) g) from m_s23]
        refine x_goto (pc := 35) (tgt := 0) cx (dA ddX8_look (i := 18) rfl) (by decide) ?_
        exact x_enter (ih (by omega) (by rw [← skip_go ⟨by omega, c22⟩]; exact hq)) ⟨.inr rfl, trivial⟩
  exact x_enter (L0 τ.2.2 hp rfl) ⟨.inr rfl, trivial⟩
theorem c_X8_isWord {l : Launch} {Z : zP} {G : zG} {V : zV} {y : Nat} (hM : ModelAt Z G y) {B : Nat → Nat} {S : Nat} (hT : MTape V y B S) {τ : TK} (k2 : V.1 424 y = nI τ.1) (k3 : V.1 425 y = nI τ.2.1) (k4 : V.1 423 y = nI τ.2.2) {p : Nat} (hk : tkOK B S p τ) {i : Nat} (hi : i < 9) : CT l Z yX8_isWord cX8_isWord 3 (some .boolean) 4 0 0 [.ref y, .ref (Z.2.2.2.2.1 i)] G V (pI (b2i (isWd B τ i = true)) G V) := by
  refine CT.of (by decide +kernel) (Nat.le_of_ble_eq_true rfl) (fun X hX cx => ?_)
  subst hX
  show Wm Z X 3 G V 0 0 _ 0 [(0, some (.ref y)), (1, some (.ref (Z.2.2.2.2.1 i)))] []
  have h0 := hM.1
  obtain ⟨q1, q2, q3, q4, q5, q6, q7⟩ := hk
  have hS := hT.2.2.1
  have b256 := hT.2.2.2
  have sl := sW_len i
  refine x_aload_n (pc := 0) cx (dA ddX8_isWord (i := 0) rfl) rfl ?_
  refine gX8_149 (pc := 1) (congrArg Value.int k2) cx (dA ddX8_isWord (i := 1) rfl) h0 ?_
  refine x_iconst (pc := 4) (v := nI 1) cx (dA ddX8_isWord (i := 2) rfl) (by decide) ?_
  refine x_icmp_ne (pc := 5) (tgt := 24) cx (dA ddX8_isWord (i := 3) rfl) (by decide) (fun c5 => ?_) (fun c5 => ?_)
  · have c5 := ceqF (by omega) (by omega) c5
    refine x_iconst (pc := 24) (v := nI 0) cx (dA ddX8_isWord (i := 12) rfl) (by decide) ?_
    refine x_zreturn (pc := 25) cx (dA ddX8_isWord (i := 13) rfl) (by first | exact Nat.le_of_ble_eq_true rfl | omega) (by first | exact Nat.le_of_ble_eq_true rfl | omega) rfl ?_
    refine rI (b2i_f (fun h => ?_)).symm
    have h := isWd_iff.mp h
    first | exact c5 h.1 | exact c21 h.2.1
  · have c5 := ceqT (by omega) (by omega) c5
    refine x_aload_n (pc := 8) cx (dA ddX8_isWord (i := 4) rfl) rfl ?_
    refine gX8_139 (pc := 9) (congrArg Value.int k4) cx (dA ddX8_isWord (i := 5) rfl) h0 ?_
    refine x_aload_n (pc := 12) cx (dA ddX8_isWord (i := 6) rfl) rfl ?_
    refine gX8_142 (pc := 13) (congrArg Value.int k3) cx (dA ddX8_isWord (i := 7) rfl) h0 ?_
    refine x_isub (pc := 16) cx (dA ddX8_isWord (i := 8) rfl) ?_
    refine x_aload_n (pc := 17) cx (dA ddX8_isWord (i := 9) rfl) rfl ?_
    rw [pk_sub q2]
    refine x_T0 (pc := 18) hi rfl mX8_167 ym_J0_length_8abf5 yv_J0_length_8abf5 (c_J0_length_8abf5 hi) cx (dA ddX8_isWord (i := 10) rfl) (kI ?_)
    refine x_icmp_eq (pc := 21) (tgt := 26) cx (dA ddX8_isWord (i := 11) rfl) (by decide) (fun c21 => ?_) (fun c21 => ?_)
    · have c21 := ceqT (by omega) (by omega) c21
      refine x_iconst (pc := 26) (v := nI 0) cx (dA ddX8_isWord (i := 14) rfl) (by decide) ?_
      refine x_istore_n (pc := 27) cx (dA ddX8_isWord (i := 15) rfl) (by decide) rfl ?_
      have L28 : ∀ j, j ≤ (sW i).length → (∀ z, z < j → B (τ.2.1 + z) = (sW i).getD z 0) → Wm Z X 3 G V 0 0 (rQ Z X 0 0 (pI (b2i (isWd B τ i = true)) G V)) 28 [(0, some (.ref y)), (1, some (.ref (Z.2.2.2.2.1 i))), (2, some (.int (nI j)))] [] := by
        refine lpU (sW i).length (fun j hj ih => ?_)
        intro hw
        refine x_iload_n (pc := 28) cx (dA ddX8_isWord (i := 16) rfl) rfl ?_
        refine x_aload_n (pc := 29) cx (dA ddX8_isWord (i := 17) rfl) rfl ?_
        refine x_T0 (pc := 30) hi rfl mX8_167 ym_J0_length_8abf5 yv_J0_length_8abf5 (c_J0_length_8abf5 hi) cx (dA ddX8_isWord (i := 18) rfl) (kI ?_)
        refine x_icmp_ge (pc := 33) (tgt := 63) cx (dA ddX8_isWord (i := 19) rfl) (by decide) (fun c33 => ?_) (fun c33 => ?_)
        · have c33 := cleT (by omega) (by omega) c33
          refine x_iconst (pc := 63) (v := nI 1) cx (dA ddX8_isWord (i := 35) rfl) (by decide) ?_
          refine x_zreturn (pc := 64) cx (dA ddX8_isWord (i := 36) rfl) (by first | exact Nat.le_of_ble_eq_true rfl | omega) (by first | exact Nat.le_of_ble_eq_true rfl | omega) rfl ?_
          exact rI (b2i_t (isWd_iff.mpr ⟨c5, by omega, fun z hz => hw z (by omega)⟩)).symm
        · have c33 := cleF (by omega) (by omega) c33
          refine x_aload_n (pc := 36) cx (dA ddX8_isWord (i := 20) rfl) rfl ?_
          refine gX8_39 (pc := 37) (rfA hM.2.2.2.2.2.2.2.2.2.1.1) cx (dA ddX8_isWord (i := 21) rfl) h0 ?_
          refine x_aload_n (pc := 40) cx (dA ddX8_isWord (i := 22) rfl) rfl ?_
          refine gX8_142 (pc := 41) (congrArg Value.int k3) cx (dA ddX8_isWord (i := 23) rfl) h0 ?_
          refine x_iload_n (pc := 44) cx (dA ddX8_isWord (i := 24) rfl) rfl ?_
          refine x_iadd (pc := 45) cx (dA ddX8_isWord (i := 25) rfl) ?_
          rw [nI_add]
          refine x_iaload (pc := 46) cx (dA ddX8_isWord (i := 26) rfl) hM.2.2.2.2.2.2.2.2.2.1.2 (by omega) (by decide) ?_
          rw [hT.2.1 (τ.2.1 + j) (by omega)]
          have bb := b256 (τ.2.1 + j)
          have bw := sW_lt i j
          refine x_aload_n (pc := 47) cx (dA ddX8_isWord (i := 27) rfl) rfl ?_
          refine x_iload_n (pc := 48) cx (dA ddX8_isWord (i := 28) rfl) rfl ?_
          refine x_T1 (pc := 49) hi rfl mX8_173 ym_J0_charAt_5068e yv_J0_charAt_5068e (c_J0_charAt_5068e hi (by omega)) cx (dA ddX8_isWord (i := 29) rfl) (kI ?_)
          refine x_icmp_eq (pc := 52) (tgt := 57) cx (dA ddX8_isWord (i := 30) rfl) (by decide) (fun c52 => ?_) (fun c52 => ?_)
          · have c52 := ceqT (by omega) (by omega) c52
            refine x_iinc (pc := 57) cx (dA ddX8_isWord (i := 33) rfl) rfl (iinc1 _) (by decide) rfl ?_
            refine x_goto (pc := 60) (tgt := 28) cx (dA ddX8_isWord (i := 34) rfl) (by decide) ?_
            exact x_enter (ih (by omega) (lt_s hw c52)) ⟨.inr rfl, .inr rfl, .inr rfl, trivial⟩
          · have c52 := ceqF (by omega) (by omega) c52
            refine x_iconst (pc := 55) (v := nI 0) cx (dA ddX8_isWord (i := 31) rfl) (by decide) ?_
            refine x_zreturn (pc := 56) cx (dA ddX8_isWord (i := 32) rfl) (by first | exact Nat.le_of_ble_eq_true rfl | omega) (by first | exact Nat.le_of_ble_eq_true rfl | omega) rfl ?_
            exact rI (b2i_f (fun h => c52 ((isWd_iff.mp h).2.2 j (by omega)))).symm
      exact x_enter (L28 0 (Nat.zero_le _) lt_0) ⟨.inr rfl, .inr rfl, .inr rfl, trivial⟩
    · have c21 := ceqF (by omega) (by omega) c21
      refine x_iconst (pc := 24) (v := nI 0) cx (dA ddX8_isWord (i := 12) rfl) (by decide) ?_
      refine x_zreturn (pc := 25) cx (dA ddX8_isWord (i := 13) rfl) (by first | exact Nat.le_of_ble_eq_true rfl | omega) (by first | exact Nat.le_of_ble_eq_true rfl | omega) rfl ?_
      refine rI (b2i_f (fun h => ?_)).symm
      have h := isWd_iff.mp h
      first | exact c5 h.1 | exact c21 h.2.1
