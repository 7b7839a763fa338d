/-- told alike, as far as it is told -/
def AG (M N : Nat → Nat) : Prop := ∀ j, j < 5 + 5 * M 4 → M j = N j
def rlA (r r' : PR) : Prop := r.1 = r'.1 ∧ r.2.2 = r'.2.2 ∧ (r.1 = true → AG r.2.1 r'.2.1)
def rlP (P : Nat → Prop) (r r' : PR) : Prop := r.1 = r'.1 ∧ r.2.2 = r'.2.2 ∧ (r.1 = true → ∀ j, P j → r.2.1 j = r'.2.1 j)
theorem rlP.mono {P Q : Nat → Prop} {r r' : PR} (h : rlP P r r') (hq : ∀ j, Q j → P j) : rlP Q r r' := ⟨h.1, h.2.1, fun q j hj => h.2.2 q j (hq j hj)⟩
theorem rdN_rl {P : Nat → Prop} {B : Nat → Nat} {S i lo hi : Nat} {M N : Nat → Nat} {τ : TK} (h : ∀ j, P j → M j = N j) : rlP (fun j => P j ∨ j = i) (rdN B S M i lo hi τ) (rdN B S N i lo hi τ) := by
  cases hn : numH B (adv B S τ.2.2) with
  | none =>
    rw [rdN_none hn, rdN_none hn]
    exact ⟨rfl, rfl, fun q => Bool.noConfusion q⟩
  | some v =>
    by_cases hv : lo ≤ v ∧ v ≤ hi
    · rw [rdN_some hn hv, rdN_some hn hv]
      refine ⟨rfl, rfl, fun _ j hj => ?_⟩
      show numP M i v j = numP N i v j
      by_cases e : j = i
      · subst e; rw [numP_eq, numP_eq]
      · rw [numP_ne e, numP_ne e]
        exact h j (hj.resolve_right e)
    · rw [rdN_bad hn hv, rdN_bad hn hv]
      exact ⟨rfl, rfl, fun q => Bool.noConfusion q⟩
theorem tdN_rl {P : Nat → Prop} {B : Nat → Nat} {S w i lo hi : Nat} {M N : Nat → Nat} {τ : TK} (h : ∀ j, P j → M j = N j) : rlP (fun j => P j ∨ j = i) (tdN B S w M i lo hi τ) (tdN B S w N i lo hi τ) := by
  unfold tdN
  split
  · exact rdN_rl h
  · exact ⟨rfl, rfl, fun q => Bool.noConfusion q⟩
theorem opN_rl {P : Nat → Prop} {B : Nat → Nat} {S w i lo hi : Nat} {M N : Nat → Nat} {τ : TK} (h : ∀ j, P j → M j = N j) : rlP P (opN B S w M i lo hi τ) (opN B S w N i lo hi τ) := by
  unfold opN
  split
  · exact (rdN_rl h).mono fun j hj => Or.inl hj
  · exact ⟨rfl, rfl, fun _ => h⟩
theorem bnd_rl {P Q : Nat → Prop} {r r' : PR} {f f' : (Nat → Nat) → TK → PR} (h : rlP P r r') (hf : ∀ M N τ, (∀ j, P j → M j = N j) → rlP Q (f M τ) (f' N τ)) : rlP Q (bnd r f) (bnd r' f') := by
  by_cases q : r.1 = true
  · rw [bnd_t q, bnd_t (h.1 ▸ q), ← h.2.1]
    exact hf _ _ _ (h.2.2 q)
  · rw [bnd_f q, bnd_f (h.1 ▸ q)]
    exact ⟨h.1, h.2.1, fun z => absurd z q⟩
theorem srS_rl {B : Nat → Nat} {S i : Nat} {M N : Nat → Nat} {τ : TK} (h : ∀ x, (x < i ∨ x = i + 3 ∨ x = i + 4) → M x = N x) : ∀ j, j ≤ 5 → rlP (fun x => x < i + j ∨ x = i + 3 ∨ x = i + 4) (srS B S M i τ j) (srS B S N i τ j)
  | 0, _ => ⟨rfl, rfl, fun _ => h⟩
  | j + 1, hj => by
    have ih := srS_rl h (τ := τ) (B := B) (S := S) j (by omega)
    refine bnd_rl ih fun M N τ hMN => ?_
    split
    · exact (tdN_rl hMN).mono fun x hx => by omega
    · exact (opN_rl hMN).mono fun x hx => by omega
theorem rdN_4 {B : Nat → Nat} {S i lo hi : Nat} {N : Nat → Nat} {τ : TK} (h : i ≠ 4) : (rdN B S N i lo hi τ).2.1 4 = N 4 := by
  cases hn : numH B (adv B S τ.2.2) with
  | none => rw [rdN_none hn]
  | some v =>
    by_cases hv : lo ≤ v ∧ v ≤ hi
    · rw [rdN_some hn hv]; exact numP_ne (fun e => h e.symm)
    · rw [rdN_bad hn hv]
theorem srS_4 {B : Nat → Nat} {S i : Nat} {N : Nat → Nat} {τ : TK} (h : 4 < i) : ∀ j, (srS B S N i τ j).2.1 4 = N 4
  | 0 => rfl
  | j + 1 => by
    have ih := srS_4 h (N := N) (τ := τ) (B := B) (S := S) j
    show (bnd (srS B S N i τ j) _).2.1 4 = _
    by_cases q : (srS B S N i τ j).1 = true
    · rw [bnd_t q]
      split
      · unfold tdN
        split
        · exact (rdN_4 (by omega)).trans ih
        · exact ih
      · unfold opN
        split
        · exact (rdN_4 (by omega)).trans ih
        · exact ih
    · rw [bnd_f q]; exact ih
theorem rdN_A {B : Nat → Nat} {S i lo hi : Nat} {M N : Nat → Nat} {τ : TK} (hi4 : i < 4) (h : AG M N) : rlA (rdN B S M i lo hi τ) (rdN B S N i lo hi τ) := by
  have r := rdN_rl (i := i) (lo := lo) (hi := hi) (τ := τ) (B := B) (S := S) h
  exact ⟨r.1, r.2.1, fun q j hj => r.2.2 q j (Or.inl (by rw [rdN_4 (by omega)] at hj; exact hj))⟩
theorem tdN_A {B : Nat → Nat} {S w i lo hi : Nat} {M N : Nat → Nat} {τ : TK} (hi4 : i < 4) (h : AG M N) : rlA (tdN B S w M i lo hi τ) (tdN B S w N i lo hi τ) := by
  unfold tdN
  split
  · exact rdN_A hi4 h
  · exact ⟨rfl, rfl, fun q => Bool.noConfusion q⟩
theorem stP_rl {B : Nat → Nat} {S : Nat} {M N : Nat → Nat} {τ : TK} (h : AG M N) : rlA (stP B S M τ) (stP B S N τ) := by
  have h4 : M 4 = N 4 := h 4 (by omega)
  unfold stP
  rw [← h4]
  split
  · exact rdN_A (by decide) h
  · split
    · have r := rdN_A (i := 1) (lo := 0) (hi := 99) (τ := τ) (B := B) (S := S) (by decide) h
      by_cases q : (rdN B S M 1 0 99 τ).1 = true
      · rw [bnd_t q, bnd_t (r.1 ▸ q), ← r.2.1]
        exact tdN_A (by decide) (r.2.2 q)
      · rw [bnd_f q, bnd_f (r.1 ▸ q)]
        exact r
    · split
      · exact rdN_A (by decide) h
      · split
        · have r := srS_rl (i := 5 + 5 * M 4) (M := numP (numP M (5 + 5 * M 4 + 3) 0) (5 + 5 * M 4 + 4) 0) (N := numP (numP N (5 + 5 * M 4 + 3) 0) (5 + 5 * M 4 + 4) 0) (τ := adv B S τ.2.2) (B := B) (S := S) (fun x hx => by
            by_cases e4 : x = 5 + 5 * M 4 + 4
            · rw [e4, numP_eq, numP_eq]
            · rw [numP_ne e4, numP_ne e4]
              by_cases e3 : x = 5 + 5 * M 4 + 3
              · rw [e3, numP_eq, numP_eq]
              · rw [numP_ne e3, numP_ne e3]
                exact h x (by omega)) 5 (Nat.le_refl _)
          have r4 : (srS B S (numP (numP M (5 + 5 * M 4 + 3) 0) (5 + 5 * M 4 + 4) 0) (5 + 5 * M 4) (adv B S τ.2.2) 5).2.1 4 = M 4 := (srS_4 (by omega) 5).trans ((numP_ne (by omega)).trans (numP_ne (by omega)))
          generalize srS B S (numP (numP M (5 + 5 * M 4 + 3) 0) (5 + 5 * M 4 + 4) 0) (5 + 5 * M 4) (adv B S τ.2.2) 5 = R at r r4
          generalize srS B S (numP (numP N (5 + 5 * M 4 + 3) 0) (5 + 5 * M 4 + 4) 0) (5 + 5 * M 4) (adv B S τ.2.2) 5 = R' at r
          by_cases q : R.1 = true
          · rw [bnd_t q, bnd_t (r.1 ▸ q), ← r.2.1]
            refine ⟨rfl, rfl, fun _ j hj => ?_⟩
            have k4 : R.2.1 4 = R'.2.1 4 := r.2.2 q 4 (by omega)
            have hj : j < 5 + 5 * numP R.2.1 4 (R.2.1 4 + 1) 4 := hj
            rw [numP_eq, r4] at hj
            show numP R.2.1 4 (R.2.1 4 + 1) j = numP R'.2.1 4 (R'.2.1 4 + 1) j
            by_cases e : j = 4
            · rw [e, numP_eq, numP_eq, k4]
            · rw [numP_ne e, numP_ne e]
              exact r.2.2 q j (by omega)
          · rw [bnd_f q, bnd_f (r.1 ▸ q)]
            exact ⟨r.1, r.2.1, fun z => absurd z q⟩
        · exact ⟨rfl, rfl, fun q => Bool.noConfusion q⟩
/-- behind a statement -/
def ctP (B : Nat → Nat) (S n : Nat) (M : Nat → Nat) (τ : TK) : Option Nat × (Nat → Nat) := if τ.1 = 0 then (if 0 < M 4 then none else some S, M) else if τ.1 = 3 then rdL B S n M (adv B S τ.2.2) else (some τ.2.1, M)
theorem rdL_s {B : Nat → Nat} {S n : Nat} {M : Nat → Nat} {τ : TK} : rdL B S (n + 1) M τ = if (stP B S M τ).1 = false then (some (stP B S M τ).2.2.2.1, (stP B S M τ).2.1) else ctP B S n (stP B S M τ).2.1 (stP B S M τ).2.2 := rfl
theorem nI_ex (x : Int32) : ∃ n, x = nI n := ⟨x.toUInt32.toNat, by
  apply Int32.toInt_inj.mp
  unfold nI
  simp
  exact BitVec.toInt_eq_toNat_bmod _⟩
theorem lN_ex (x : Int64) : ∃ n, x = lN n := ⟨x.toUInt64.toNat, by
  apply Int64.toInt_inj.mp
  unfold lN
  simp
  exact BitVec.toInt_eq_toNat_bmod _⟩
theorem mt_ex (V : zV) (y : Nat) : ∃ τ g, V = mtV V y τ g := by
  obtain ⟨a, ha⟩ := nI_ex (V.1 424 y)
  obtain ⟨b, hb⟩ := nI_ex (V.1 425 y)
  obtain ⟨c, hc⟩ := nI_ex (V.1 423 y)
  obtain ⟨g, hg⟩ := lN_ex (V.2.1 426 y)
  refine ⟨(a, b, c), g, ?_⟩
  obtain ⟨V1, V2, V3⟩ := V
  unfold mtV
  congr 1
  · funext f x
    by_cases hx : x = y <;> by_cases h1 : f = 423 <;> by_cases h2 : f = 424 <;> by_cases h3 : f = 425 <;> simp_all
  · congr 1
    funext f x
    by_cases hx : x = y <;> by_cases h1 : f = 426 <;> simp_all
theorem sa_ex (V : zV) (a : Nat) : ∃ N, V = setA V a N := by
  refine ⟨fun j => (nI_ex (V.2.2.1 a j)).choose, ?_⟩
  obtain ⟨V1, V2, V3, V4⟩ := V
  unfold setA rAI
  dsimp only
  congr 3
  funext x j
  unfold rw2
  split
  · next h =>
    rw [Nat.sub_zero, h.1]
    exact (nI_ex (V3 a j)).choose_spec
  · rfl
/-- how a row is left behind reading -/
def rdR (V : zV) (y a : Nat) (B : Nat → Nat) (o : Option Nat) (M : Nat → Nat) (V2 : zV) : Prop := ∃ N τ, (o = none → V2 = mrV V y a B N τ ∧ AG M N) ∧ ∀ f, o = some f → V2 = sI (mrV V y a B N τ) 427 y (nI f)
theorem c_X8_read {l : Launch} {Z : zP} {G : zG} {V : zV} {y : Nat} (hM : ModelAt Z G y) {a : Nat} (ha : isA Z G a 1 20) (ha2 : a ≠ y + 27) {B : Nat → Nat} {S : Nat} (hT : MTape V y B S) : CT l Z yX8_read cX8_read 2 (some .boolean) 7 0 0 [.ref y, .ref a] G V (fun r G2 V2 => r = some (.int (b2i ((rdL B S 161 clearP (adv B S 0)).1 = none))) ∧ G2 = G ∧ rdR V y a B (rdL B S 161 clearP (adv B S 0)).1 (rdL B S 161 clearP (adv B S 0)).2 V2) := by
  refine CT.of (by decide +kernel) (Nat.le_of_ble_eq_true rfl) (fun X hX cx => ?_)
  subst hX
  show Wm Z X 2 G V 0 0 _ 0 [(0, some (.ref y)), (1, some (.ref a))] []
  have h0 := hM.1
  have hS := hT.2.2.1
  obtain ⟨N0, eN0⟩ := sa_ex V a
  have ag0 : AG clearP (numP (numP (numP (numP (numP N0 0 3) 1 10) 2 10) 3 0) 4 0) := by
    intro j hj
    have h5 : j < 5 := hj
    rcases (show j = 0 ∨ j = 1 ∨ j = 2 ∨ j = 3 ∨ j = 4 by omega) with h | h | h | h | h <;> subst h <;> simp [numP, clearP]
  rw [show Wm Z X 2 G V 0 0 = Wm Z X 2 G (setA V a N0) 0 0 by rw [← eN0]]
  refine x_aload_n (pc := 0) cx (dA ddX8_read (i := 0) rfl) rfl ?_
  refine x_iconst (pc := 1) (v := nI 0) cx (dA ddX8_read (i := 1) rfl) (by decide) ?_
  refine x_iconst (pc := 2) (v := nI 3) cx (dA ddX8_read (i := 2) rfl) (by decide) ?_
  refine x_iastore (pc := 3) cx (dA ddX8_read (i := 3) rfl) ha (by decide) (by decide) ?_
  rw [setA_put (by decide)]
  refine x_aload_n (pc := 4) cx (dA ddX8_read (i := 4) rfl) rfl ?_
  refine x_iconst (pc := 5) (v := nI 1) cx (dA ddX8_read (i := 5) rfl) (by decide) ?_
  refine x_bipush (pc := 6) (v := nI 10) cx (dA ddX8_read (i := 6) rfl) (by decide) ?_
  refine x_iastore (pc := 8) cx (dA ddX8_read (i := 7) rfl) ha (by decide) (by decide) ?_
  rw [setA_put (by decide)]
  refine x_aload_n (pc := 9) cx (dA ddX8_read (i := 8) rfl) rfl ?_
  refine x_iconst (pc := 10) (v := nI 2) cx (dA ddX8_read (i := 9) rfl) (by decide) ?_
  refine x_bipush (pc := 11) (v := nI 10) cx (dA ddX8_read (i := 10) rfl) (by decide) ?_
  refine x_iastore (pc := 13) cx (dA ddX8_read (i := 11) rfl) ha (by decide) (by decide) ?_
  rw [setA_put (by decide)]
  refine x_aload_n (pc := 14) cx (dA ddX8_read (i := 12) rfl) rfl ?_
  refine x_iconst (pc := 15) (v := nI 3) cx (dA ddX8_read (i := 13) rfl) (by decide) ?_
  refine x_iconst (pc := 16) (v := nI 0) cx (dA ddX8_read (i := 14) rfl) (by decide) ?_
  refine x_iastore (pc := 17) cx (dA ddX8_read (i := 15) rfl) ha (by decide) (by decide) ?_
  rw [setA_put (by decide)]
  refine x_aload_n (pc := 18) cx (dA ddX8_read (i := 16) rfl) rfl ?_
  refine x_iconst (pc := 19) (v := nI 4) cx (dA ddX8_read (i := 17) rfl) (by decide) ?_
  refine x_iconst (pc := 20) (v := nI 0) cx (dA ddX8_read (i := 18) rfl) (by decide) ?_
  refine x_iastore (pc := 21) cx (dA ddX8_read (i := 19) rfl) ha (by decide) (by decide) ?_
  rw [setA_put (by decide)]
  obtain ⟨τ0, g0, e0⟩ := mt_ex (setA V a (numP (numP (numP (numP (numP N0 0 3) 1 10) 2 10) 3 0) 4 0)) y
  rw [e0]
  refine x_aload_n (pc := 22) cx (dA ddX8_read (i := 20) rfl) rfl ?_
  refine x_iconst (pc := 23) (v := nI 0) cx (dA ddX8_read (i := 21) rfl) (by decide) ?_
  refine pX8_139 (pc := 24)  cx (dA ddX8_read (i := 22) rfl) h0 ?_
  rw [show sI (mtV (setA V a (numP (numP (numP (numP (numP N0 0 3) 1 10) 2 10) 3 0) 4 0)) y τ0 g0) 423 y (nI 0) = mtV (setA V a (numP (numP (numP (numP (numP N0 0 3) 1 10) 2 10) 3 0) 4 0)) y (τ0.1, τ0.2.1, 0) g0 from m_s23]
  refine x_aload_n (pc := 27) cx (dA ddX8_read (i := 23) rfl) rfl ?_
  refine x_V0 (pc := 28) mX8_185 h0 (c_X8_look (V := setA V a (numP (numP (numP (numP (numP N0 0 3) 1 10) 2 10) 3 0) 4 0)) hM (hT.sa ha2) (τ := (τ0.1, τ0.2.1, 0)) (g := g0) (Nat.zero_le _)) cx (dA ddX8_read (i := 24) rfl) (kV ?_)
  rw [show mtV (setA V a (numP (numP (numP (numP (numP N0 0 3) 1 10) 2 10) 3 0) 4 0)) y (adv B S (τ0.1, τ0.2.1, 0).2.2) (fgP B (adv B S (τ0.1, τ0.2.1, 0).2.2)) = mrV V y a B (numP (numP (numP (numP (numP N0 0 3) 1 10) 2 10) 3 0) 4 0) (adv B S 0) from rfl]
  refine x_aload_n (pc := 31) cx (dA ddX8_read (i := 25) rfl) rfl ?_
  refine x_aload_n (pc := 32) cx (dA ddX8_read (i := 26) rfl) rfl ?_
  refine x_V1 (pc := 33) mX8_209 h0 (c_X8_statement (N := (numP (numP (numP (numP (numP N0 0 3) 1 10) 2 10) 3 0) 4 0)) (τ := (adv B S 0)) hM ha ha2 hT (adv_tk (Nat.zero_le _)) (by rw [numP_eq]; decide)) cx (dA ddX8_read (i := 27) rfl) (kI ?_)
  have rl := stP_rl (B := B) (S := S) (τ := (adv B S 0)) (show AG clearP (numP (numP (numP (numP (numP N0 0 3) 1 10) 2 10) 3 0) 4 0) from ag0)
  have iv := stP_inv (N := clearP) (adv_tk (B := B) (Nat.zero_le S)) HOK_clear zzN_clear
  refine x_if_ne (pc := 36) (tgt := 41) cx (dA ddX8_read (i := 28) rfl) (by decide) (fun c36 => ?_) (fun c36 => ?_)
  · have ok := b2i_ne c36
    have okM : (stP B S clearP (adv B S 0)).1 = true := rl.1.trans ok
    rw [rdS_t ok]
    have e8 : rdL B S 161 clearP (adv B S 0) = ctP B S 160 (stP B S clearP (adv B S 0)).2.1 (stP B S clearP (adv B S 0)).2.2 := rdL_s.trans (if_neg (by rw [okM]; exact fun q => Bool.noConfusion q))
    obtain ⟨pg, hN2, hz2⟩ := iv.2 okM
    obtain ⟨o, Mf, hres⟩ : ∃ o Mf, rdL B S 161 clearP (adv B S 0) = (o, Mf) := ⟨_, _, rfl⟩
    have hres0 := hres
    rw [e8] at hres
    have kk := iv.1
    rw [rl.2.1] at kk
    have L41 : ∀ m N1 (τ : TK) M, S < τ.2.2 + m → tk0 B S τ → HOK M → zzN M → AG M N1 → ctP B S m M τ = (o, Mf) → Wm Z X 2 G (mrV V y a B N1 τ) 0 0 (rQ Z X 0 0 (fun r G2 V2 => r = some (.int (b2i ((rdL B S 161 clearP (adv B S 0)).1 = none))) ∧ G2 = G ∧ rdR V y a B (rdL B S 161 clearP (adv B S 0)).1 (rdL B S 161 clearP (adv B S 0)).2 V2)) 41 [(0, some (.ref y)), (1, some (.ref a))] [] := by
      refine lpD (fun m ih => ?_)
      intro N1 τ M hm hk hMo hMz hag hr
      have t4 := hk.2.2.2.1
      refine x_aload_n (pc := 41) cx (dA ddX8_read (i := 31) rfl) rfl ?_
      refine gX8_149 (pc := 42) (congrArg Value.int (show (mrV V y a B N1 τ).1 424 y = nI τ.1 from m_g24)) cx (dA ddX8_read (i := 32) rfl) h0 ?_
      refine x_if_eq (pc := 45) (tgt := 75) cx (dA ddX8_read (i := 33) rfl) (by decide) (fun c45 => ?_) (fun c45 => ?_)
      · have z0 : τ.1 = 0 := nI_inj (b := 0) (by omega) (by omega) c45
        have e8 := hr
        unfold ctP at e8
        rw [if_pos z0] at e8
        refine x_aload_n (pc := 75) cx (dA ddX8_read (i := 49) rfl) rfl ?_
        refine x_iconst (pc := 76) (v := nI 4) cx (dA ddX8_read (i := 50) rfl) (by decide) ?_
        refine x_iaload (pc := 77) cx (dA ddX8_read (i := 51) rfl) ha (by decide) (by decide) ?_
        rw [m_ga (by decide), ← hag 4 (by omega)]
        have m4 := hMo.1.1
        refine x_if_gt (pc := 78) (tgt := 88) cx (dA ddX8_read (i := 52) rfl) (by decide) (fun c78 => ?_) (fun c78 => ?_)
        · have c78 : 0 < M 4 := by have := (cleF (b := 0) (by omega) (by omega) (Int32.not_le.mpr c78)); omega
          rw [if_pos c78] at e8
          cases e8
          refine x_iconst (pc := 88) (v := nI 1) cx (dA ddX8_read (i := 56) rfl) (by decide) ?_
          refine x_goto (pc := 89) (tgt := 93) cx (dA ddX8_read (i := 57) rfl) (by decide) ?_
          refine x_zreturn (pc := 93) cx (dA ddX8_read (i := 59) rfl) (by first | exact Nat.le_of_ble_eq_true rfl | omega) (by first | exact Nat.le_of_ble_eq_true rfl | omega) rfl ?_
          rw [hres0]
          exact ⟨congrArg (fun z => some (Value.int z)) (b2i_t rfl).symm, rfl, N1, τ, fun _ => ⟨rfl, hag⟩, fun f hf => by cases hf⟩
        · have c78 : ¬ 0 < M 4 := by have := (cleT (b := 0) (by omega) (by omega) (Int32.not_lt.mp c78)); omega
          rw [if_neg c78] at e8
          cases e8
          refine x_aload_n (pc := 81) cx (dA ddX8_read (i := 53) rfl) rfl ?_
          refine x_V0 (pc := 82) mX8_181 h0 (c_X8_wrong hM) cx (dA ddX8_read (i := 54) rfl) (kI ?_)
          rw [show (mrV V y a B N1 τ).1 425 y = nI τ.2.1 from m_g25]
          refine x_if_eq (pc := 85) (tgt := 92) cx (dA ddX8_read (i := 55) rfl) (by decide) (fun c85 => ?_) (fun c85 => absurd rfl c85)
          refine x_iconst (pc := 92) (v := nI 0) cx (dA ddX8_read (i := 58) rfl) (by decide) ?_
          refine x_zreturn (pc := 93) cx (dA ddX8_read (i := 59) rfl) (by first | exact Nat.le_of_ble_eq_true rfl | omega) (by first | exact Nat.le_of_ble_eq_true rfl | omega) rfl ?_
          rw [hres0]
          exact ⟨congrArg (fun z => some (Value.int z)) (b2i_f (fun z => by cases z)).symm, rfl, N1, τ, fun z => (by cases z), fun f hf => by cases hf; rw [hk.2.2.2.2.1 z0]⟩
      · have n0 : τ.1 ≠ 0 := fun e => c45 (by rw [e]; rfl)
        have e8 := hr
        unfold ctP at e8
        rw [if_neg n0] at e8
        refine x_aload_n (pc := 48) cx (dA ddX8_read (i := 34) rfl) rfl ?_
        refine gX8_149 (pc := 49) (congrArg Value.int (show (mrV V y a B N1 τ).1 424 y = nI τ.1 from m_g24)) cx (dA ddX8_read (i := 35) rfl) h0 ?_
        refine x_iconst (pc := 52) (v := nI 3) cx (dA ddX8_read (i := 36) rfl) (by decide) ?_
        refine x_icmp_eq (pc := 53) (tgt := 61) cx (dA ddX8_read (i := 37) rfl) (by decide) (fun c53 => ?_) (fun c53 => ?_)
        · have c53 := ceqT (by omega) (by omega) c53
          rw [if_pos c53] at e8
          refine x_aload_n (pc := 61) cx (dA ddX8_read (i := 41) rfl) rfl ?_
          refine x_V0 (pc := 62) mX8_185 h0 (c_X8_look (V := setA V a N1) hM (hT.sa ha2) (τ := τ) (g := fgP B τ) hk.2.2.1) cx (dA ddX8_read (i := 42) rfl) (kV ?_)
          rw [show mtV (setA V a N1) y (adv B S τ.2.2) (fgP B (adv B S τ.2.2)) = mrV V y a B N1 (adv B S τ.2.2) from rfl]
          obtain ⟨n, rfl⟩ : ∃ z, m = z + 1 := ⟨m - 1, by have := hk.2.2.1; omega⟩
          have ak := adv_ok (B := B) hk.2.2.1
          refine x_aload_n (pc := 65) cx (dA ddX8_read (i := 43) rfl) rfl ?_
          refine x_aload_n (pc := 66) cx (dA ddX8_read (i := 44) rfl) rfl ?_
          refine x_V1 (pc := 67) mX8_209 h0 (c_X8_statement (N := N1) (τ := adv B S τ.2.2) hM ha ha2 hT (adv_tk hk.2.2.1) (by rw [← hag 4 (by omega)]; exact hMo.1.1)) cx (dA ddX8_read (i := 45) rfl) (kI ?_)
          have rl := stP_rl (B := B) (S := S) (τ := adv B S τ.2.2) hag
          have iv := stP_inv (N := M) (adv_tk (B := B) hk.2.2.1) hMo hMz
          rw [rdL_s] at e8
          refine x_if_ne (pc := 70) (tgt := 41) cx (dA ddX8_read (i := 46) rfl) (by decide) (fun c70 => ?_) (fun c70 => ?_)
          · have ok := b2i_ne c70
            have okM : (stP B S M (adv B S τ.2.2)).1 = true := rl.1.trans ok
            rw [rdS_t ok]
            rw [if_neg (by rw [okM]; exact fun q => Bool.noConfusion q)] at e8
            obtain ⟨pg, hN2, hz2⟩ := iv.2 okM
            have kk := iv.1
            rw [rl.2.1] at kk e8 pg
            exact x_enter (ih n rfl _ _ _ (by have := ak.1; have := ak.2.1; omega) kk hN2 hz2 (rl.2.2 okM) e8) ⟨.inr rfl, .inr rfl, trivial⟩
          · have nk := b2i_eq c70
            have nkM : (stP B S M (adv B S τ.2.2)).1 = false := rl.1.trans (by cases h : (stP B S N1 (adv B S τ.2.2)).1; rfl; exact absurd h nk)
            rw [if_pos nkM] at e8
            cases e8
            refine x_iconst (pc := 73) (v := nI 0) cx (dA ddX8_read (i := 47) rfl) (by decide) ?_
            refine x_zreturn (pc := 74) cx (dA ddX8_read (i := 48) rfl) (by first | exact Nat.le_of_ble_eq_true rfl | omega) (by first | exact Nat.le_of_ble_eq_true rfl | omega) rfl ?_
            rw [hres0]
            exact ⟨congrArg (fun z => some (Value.int z)) (b2i_f (fun z => by cases z)).symm, rfl, (stP B S N1 (adv B S τ.2.2)).2.1, (stP B S N1 (adv B S τ.2.2)).2.2, fun z => (by cases z), fun f hf => by cases hf; rw [rl.2.1]; exact if_neg nk⟩
        · have c53 := ceqF (by omega) (by omega) c53
          rw [if_neg c53] at e8
          cases e8
          refine x_aload_n (pc := 56) cx (dA ddX8_read (i := 38) rfl) rfl ?_
          refine x_V0 (pc := 57) mX8_181 h0 (c_X8_wrong hM) cx (dA ddX8_read (i := 39) rfl) (kI ?_)
          rw [show (mrV V y a B N1 τ).1 425 y = nI τ.2.1 from m_g25]
          refine x_zreturn (pc := 60) cx (dA ddX8_read (i := 40) rfl) (by first | exact Nat.le_of_ble_eq_true rfl | omega) (by first | exact Nat.le_of_ble_eq_true rfl | omega) rfl ?_
          rw [hres0]
          exact ⟨congrArg (fun z => some (Value.int z)) (b2i_f (fun z => by cases z)).symm, rfl, N1, τ, fun z => (by cases z), fun f hf => by cases hf; rfl⟩
    exact x_enter (L41 160 _ _ _ (by rw [rl.2.1] at pg; omega) kk hN2 hz2 (rl.2.2 okM) (by rw [← rl.2.1]; exact hres)) ⟨.inr rfl, .inr rfl, trivial⟩
  · have nk := b2i_eq c36
    have nkM : (stP B S clearP (adv B S 0)).1 = false := rl.1.trans (by cases h : (stP B S (numP (numP (numP (numP (numP N0 0 3) 1 10) 2 10) 3 0) 4 0) (adv B S 0)).1; rfl; exact absurd h nk)
    have e8 : rdL B S 161 clearP (adv B S 0) = (some (stP B S clearP (adv B S 0)).2.2.2.1, (stP B S clearP (adv B S 0)).2.1) := rdL_s.trans (if_pos nkM)
    refine x_iconst (pc := 39) (v := nI 0) cx (dA ddX8_read (i := 29) rfl) (by decide) ?_
    refine x_zreturn (pc := 40) cx (dA ddX8_read (i := 30) rfl) (by first | exact Nat.le_of_ble_eq_true rfl | omega) (by first | exact Nat.le_of_ble_eq_true rfl | omega) rfl ?_
    rw [e8]
    exact ⟨congrArg (fun z => some (Value.int z)) (b2i_f (fun z => by cases z)).symm, rfl, (stP B S (numP (numP (numP (numP (numP N0 0 3) 1 10) 2 10) 3 0) 4 0) (adv B S 0)).2.1, (stP B S (numP (numP (numP (numP (numP N0 0 3) 1 10) 2 10) 3 0) 4 0) (adv B S 0)).2.2, fun z => (by cases z), fun f hf => by cases hf; rw [rl.2.1]; exact if_neg nk⟩
