theorem numP_NZ {N : Nat → Nat} {i v : Nat} (h : NZ N) (hi : i < 20) : NZ (numP N i v) := fun j hj => (numP_ne (by omega)).trans (h j hj)
theorem rdN_NZ {B : Nat → Nat} {S i lo hi : Nat} {N : Nat → Nat} {τ : TK} (h : NZ N) (hi20 : i < 20) : NZ (rdN B S N i lo hi τ).2.1 := by
  cases hn : numH B (adv B S τ.2.2) with
  | none => rw [rdN_none hn]; exact h
  | some v =>
    by_cases hv : lo ≤ v ∧ v ≤ hi
    · rw [rdN_some hn hv]; exact numP_NZ h hi20
    · rw [rdN_bad hn hv]; exact h
theorem tdN_NZ {B : Nat → Nat} {S w i lo hi : Nat} {N : Nat → Nat} {τ : TK} (h : NZ N) (hi20 : i < 20) : NZ (tdN B S w N i lo hi τ).2.1 := by
  unfold tdN
  split
  · exact rdN_NZ h hi20
  · exact h
theorem opN_NZ {B : Nat → Nat} {S w i lo hi : Nat} {N : Nat → Nat} {τ : TK} (h : NZ N) (hi20 : i < 20) : NZ (opN B S w N i lo hi τ).2.1 := by
  unfold opN
  split
  · exact rdN_NZ h hi20
  · exact h
theorem srS_NZ {B : Nat → Nat} {S i : Nat} {N : Nat → Nat} {τ : TK} (h : NZ N) (hi : i + 5 ≤ 20) : ∀ j, j ≤ 5 → NZ (srS B S N i τ j).2.1
  | 0, _ => h
  | j + 1, hj => by
    have ih := srS_NZ h hi (τ := τ) (B := B) (S := S) j (by omega)
    show NZ (bnd (srS B S N i τ j) _).2.1
    by_cases q : (srS B S N i τ j).1 = true
    · rw [bnd_t q]
      split
      · exact tdN_NZ ih (by omega)
      · exact opN_NZ ih (by omega)
    · rw [bnd_f q]; exact ih
theorem stP_NZ {B : Nat → Nat} {S : Nat} {N : Nat → Nat} {τ : TK} (h : NZ N) : NZ (stP B S N τ).2.1 := by
  unfold stP
  split
  · exact rdN_NZ h (by decide)
  · split
    · by_cases q : (rdN B S N 1 0 99 τ).1 = true
      · rw [bnd_t q]; exact tdN_NZ (rdN_NZ h (by decide)) (by decide)
      · rw [bnd_f q]; exact rdN_NZ h (by decide)
    · split
      · exact rdN_NZ h (by decide)
      · split
        · next h4 =>
          have z := srS_NZ (B := B) (S := S) (i := 5 + 5 * N 4) (τ := adv B S τ.2.2) (numP_NZ (i := 5 + 5 * N 4 + 4) (v := 0) (numP_NZ (i := 5 + 5 * N 4 + 3) (v := 0) h (by omega)) (by omega)) (by omega) 5 (Nat.le_refl _)
          generalize srS B S (numP (numP N (5 + 5 * N 4 + 3) 0) (5 + 5 * N 4 + 4) 0) (5 + 5 * N 4) (adv B S τ.2.2) 5 = R at z
          by_cases q : R.1 = true
          · rw [bnd_t q]; exact numP_NZ z (by decide)
          · rw [bnd_f q]; exact z
        · exact h
theorem rdL_OK {B : Nat → Nat} {S : Nat} : ∀ n (M : Nat → Nat) (τ : TK), tk0 B S τ → HOK M → zzN M → NZ M → ∀ M', rdL B S n M τ = (none, M') → HOK M' ∧ NZ M'
  | 0, M, τ, _, _, _, _, M', h => by cases h
  | n + 1, M, τ, hk, hM, hz, hn, M', h => by
    rw [rdL_s] at h
    have iv := stP_inv hk hM hz
    by_cases ok : (stP B S M τ).1 = true
    · rw [if_neg (by rw [ok]; exact fun q => Bool.noConfusion q)] at h
      obtain ⟨-, hN2, hz2⟩ := iv.2 ok
      have nz := stP_NZ (B := B) (S := S) (τ := τ) hn
      unfold ctP at h
      split at h
      · split at h
        · cases h; exact ⟨hN2, nz⟩
        · cases h
      · split at h
        · exact rdL_OK n _ _ (adv_tk iv.1.2.2.1) hN2 hz2 nz M' h
        · cases h
    · rw [if_pos (by cases e : (stP B S M τ).1; rfl; exact absurd e ok)] at h
      cases h
theorem NZ_clear : NZ clearP := by
  intro j hj
  unfold clearP
  (repeat' split) <;> omega
section RD
variable {Z : zP} {G : zG} {V V' : zV} {y : Nat} {zk : Option Nat} {S : SX}
theorem RM.rd (h : RM Z G V y zk S) (c6 : S.1.1 < 6) {t : (Nat → Nat) × Nat} (hV : ∀ a, a ≠ y → a ≠ y + 27 → a ≠ y + 29 + 1 + S.1.1 → same4 V V' a) (hf : ∀ f, (f < 423 ∨ f = 439) → f ≠ 409 → V'.1 f y = V.1 f y) (ht : MTape V' y t.1 t.2) : RM Z G V' y zk (putT S t) ∧ ∀ a, a < y ∨ y + 94 ≤ a → same4 V V' a := by
  have out : ∀ a, a < y ∨ y + 94 ≤ a → same4 V V' a := fun a ha => hV a (by omega) (by omega) (by omega)
  refine ⟨h.mk' out ?_ (fun q hq => (h.2.2.2.1 q hq).st ((hV _ (by omega) (by omega) (by omega)).2.2.1 q) ((hV _ (by omega) (by omega) (by omega)).2.2.1 q) ((hV _ (by omega) (by omega) (by omega)).2.2.1 q) (fun j => (hV _ (by omega) (by omega) (by omega)).2.2.2 j) ((hV _ (by omega) (by omega) (by omega)).2.2.1 q) ((hV _ (by omega) (by omega) (by omega)).2.2.1 q) (fun j => (hV _ (by omega) (by omega) (by omega)).2.2.1 j) ((hV _ (by omega) (by omega) (by omega)).2.2.1 q)) ht (fun k hk => ((hV _ (by omega) (by omega) (by omega)).2.2.1 _).trans (h.2.2.2.2.2.1 k hk)) ((hf 439 (by omega) (by decide)).trans h.2.2.2.2.2.2.1) rfl, out⟩
  obtain ⟨a, b, c, d, e, f⟩ := h.2.2.1
  refine ⟨(hf _ (by omega) (by decide)).trans a, b, fun i (hi : i < S.1.1) => ⟨fun j hj => ((hV _ (by omega) (by omega) (by omega)).2.2.1 j).trans ((c i hi).1 j hj), (c i hi).2⟩, (hf _ (by omega) (by decide)).trans d, fun q => (hf _ (by omega) (by decide)).trans (e q), fun ws hw => ?_⟩
  obtain ⟨f1, f2, f3, f4, ⟨g1, g2, g3, g4, g5, g6⟩, f6⟩ := f ws hw
  exact ⟨(hf _ (by omega) (by decide)).trans f1, fun j hj => ((hV _ (by omega) (by omega) (by omega)).2.2.1 j).trans (f2 j hj), f3, f4.st ((hV _ (by omega) (by omega) (by omega)).2.2.1 8) ((hV _ (by omega) (by omega) (by omega)).2.2.1 8) (fun j => (hV _ (by omega) (by omega) (by omega)).2.2.1 j), ⟨(hf _ (by omega) (by decide)).trans g1, (hf _ (by omega) (by decide)).trans g2, (hf _ (by omega) (by decide)).trans g3, (hf _ (by omega) (by decide)).trans g4, (hf _ (by omega) (by decide)).trans g5, (hf _ (by omega) (by decide)).trans g6⟩, f6⟩
theorem RM.add (h : RM Z G V y zk S) (c6 : S.1.1 < 6) {N : Nat → Nat} (hV : ∀ a, a ≠ y → a ≠ y + 29 + 1 + S.1.1 → same4 V V' a) (hf : ∀ f, (f < 423 ∨ f = 439) → f ≠ 411 → V'.1 f y = V.1 f y) (h4 : V'.1 411 y = nI (S.1.1 + 1)) (hM : MH V' y S.1.1 N) (hN : HOK N) : RM Z G V' y zk (putW S (addW S.1 N)) ∧ ∀ a, a < y ∨ y + 94 ≤ a → same4 V V' a := by
  have out : ∀ a, a < y ∨ y + 94 ≤ a → same4 V V' a := fun a ha => hV a (by omega) (by omega)
  refine ⟨h.mk' out ?_ (fun q hq => (h.2.2.2.1 q hq).st ((hV _ (by omega) (by omega)).2.2.1 q) ((hV _ (by omega) (by omega)).2.2.1 q) ((hV _ (by omega) (by omega)).2.2.1 q) (fun j => (hV _ (by omega) (by omega)).2.2.2 j) ((hV _ (by omega) (by omega)).2.2.1 q) ((hV _ (by omega) (by omega)).2.2.1 q) (fun j => (hV _ (by omega) (by omega)).2.2.1 j) ((hV _ (by omega) (by omega)).2.2.1 q)) ?_ (fun k hk => ((hV _ (by omega) (by omega)).2.2.1 _).trans (h.2.2.2.2.2.1 k hk)) ((hf 439 (by omega) (by decide)).trans h.2.2.2.2.2.2.1) rfl, out⟩
  · obtain ⟨a, b, c, d, e, f⟩ := h.2.2.1
    refine ⟨h4, by show S.1.1 + 1 ≤ 6; omega, fun i hi => ?_, (hf _ (by omega) (by decide)).trans d, fun q => (hf _ (by omega) (by decide)).trans (e q), fun ws hw => ?_⟩
    · have hi : i < S.1.1 + 1 := hi
      show MH V' y i (if i = S.1.1 then N else S.1.2.1 i) ∧ HOK (if i = S.1.1 then N else S.1.2.1 i)
      by_cases q : i = S.1.1
      · rw [if_pos q, q]; exact ⟨hM, hN⟩
      · rw [if_neg q]; exact ⟨fun j hj => ((hV _ (by omega) (by omega)).2.2.1 j).trans ((c i (by omega)).1 j hj), (c i (by omega)).2⟩
    · obtain ⟨f1, f2, f3, f4, ⟨g1, g2, g3, g4, g5, g6⟩, f6⟩ := f ws hw
      exact ⟨(hf _ (by omega) (by decide)).trans f1, fun j hj => ((hV _ (by omega) (by omega)).2.2.1 j).trans (f2 j hj), f3, f4.st ((hV _ (by omega) (by omega)).2.2.1 8) ((hV _ (by omega) (by omega)).2.2.1 8) (fun j => (hV _ (by omega) (by omega)).2.2.1 j), ⟨(hf _ (by omega) (by decide)).trans g1, (hf _ (by omega) (by decide)).trans g2, (hf _ (by omega) (by decide)).trans g3, (hf _ (by omega) (by decide)).trans g4, (hf _ (by omega) (by decide)).trans g5, (hf _ (by omega) (by decide)).trans g6⟩, f6⟩
  · obtain ⟨t1, t2, t3, t4⟩ := h.2.2.2.2.1
    exact ⟨(hf 409 (by omega) (by decide)).trans t1, fun j hj => ((hV _ (by omega) (by omega)).2.2.1 j).trans (t2 j hj), t3, t4⟩
/-- the row of houses that are joined for once -/
theorem RM.r6 (h : RM Z G V y zk S) (hV : ∀ a, a ≠ y + 29 + 1 + 6 → same4 V V' a) : RM Z G V' y zk S ∧ ∀ a, a < y ∨ y + 94 ≤ a → same4 V V' a := by
  have c6 := h.2.2.1.2.1
  have out : ∀ a, a < y ∨ y + 94 ≤ a → same4 V V' a := fun a ha => hV a (by omega)
  have fy := (hV y (by omega)).1
  refine ⟨h.mk' out ?_ (fun q hq => (h.2.2.2.1 q hq).st ((hV _ (by omega)).2.2.1 q) ((hV _ (by omega)).2.2.1 q) ((hV _ (by omega)).2.2.1 q) (fun j => (hV _ (by omega)).2.2.2 j) ((hV _ (by omega)).2.2.1 q) ((hV _ (by omega)).2.2.1 q) (fun j => (hV _ (by omega)).2.2.1 j) ((hV _ (by omega)).2.2.1 q)) ?_ (fun k hk => ((hV _ (by omega)).2.2.1 _).trans (h.2.2.2.2.2.1 k hk)) ((fy 439).trans h.2.2.2.2.2.2.1) rfl, out⟩
  · obtain ⟨a, b, c, d, e, f⟩ := h.2.2.1
    refine ⟨(fy _).trans a, b, fun i hi => ⟨fun j hj => ((hV _ (by omega)).2.2.1 j).trans ((c i hi).1 j hj), (c i hi).2⟩, (fy _).trans d, fun q => (fy _).trans (e q), fun ws hw => ?_⟩
    obtain ⟨f1, f2, f3, f4, ⟨g1, g2, g3, g4, g5, g6⟩, f6⟩ := f ws hw
    exact ⟨(fy _).trans f1, fun j hj => ((hV _ (by omega)).2.2.1 j).trans (f2 j hj), f3, f4.st ((hV _ (by omega)).2.2.1 8) ((hV _ (by omega)).2.2.1 8) (fun j => (hV _ (by omega)).2.2.1 j), ⟨(fy _).trans g1, (fy _).trans g2, (fy _).trans g3, (fy _).trans g4, (fy _).trans g5, (fy _).trans g6⟩, f6⟩
  · obtain ⟨t1, t2, t3, t4⟩ := h.2.2.2.2.1
    exact ⟨(fy 409).trans t1, fun j hj => ((hV _ (by omega)).2.2.1 j).trans (t2 j hj), t3, t4⟩
end RD
theorem c_X8_read_x {l : Launch} {Z : zP} {G : zG} {V : zV} {y : Nat} (hM : ModelAt Z G y) {a : Nat} (ha : isA Z G a 1 20) (ha2 : a ≠ y + 27) {B : Nat → Nat} {S : Nat} (hT : MTape V y B S) : CT l Z yX8_read cX8_read 2 (some .boolean) 7 0 0 [.ref y, .ref a] G V (pIx (b2i ((rdL B S 161 clearP (adv B S 0)).1 = none)) G (rdR V y a B (rdL B S 161 clearP (adv B S 0)).1 (rdL B S 161 clearP (adv B S 0)).2)) := c_X8_read hM ha ha2 hT
theorem lN_toI {n : Nat} (h : n < 2 ^ 63) : (lN n).toInt = (n : Int) := Int64.toInt_ofNat_of_lt h
theorem lN_div {a b : Nat} (ha : a < 2 ^ 62) (h0 : 0 < b) (hb : b < 2 ^ 62) : lN a / lN b = lN (a / b) := by
  apply Int64.toInt_inj.mp
  have hd : a / b ≤ a := Nat.div_le_self a b
  rw [Int64.toInt_div, lN_toI (by omega), lN_toI (by omega), lN_toI (by omega)]
  rw [← Int.ofNat_tdiv]
  generalize a / b = q at hd ⊢
  rw [Int.bmod_eq_of_le (by omega) (by omega)]
theorem lsub_toInt {a c : Nat} (ha : a < 2 ^ 62) (hc : c < 2 ^ 62) : (lN a - lN c).toInt = (a : Int) - c := by
  rw [Int64.toInt_sub, lN_toI (by omega), lN_toI (by omega), Int.bmod_eq_of_le (by omega) (by omega)]
theorem scl_j {N M : Nat → Nat} {d : Nat} : sclP (addO N M (M 4)) d = sclP N d * 4 ^ (d * M 4) := by
  unfold sclP
  rw [addO_4, ← Nat.pow_add, ← Nat.mul_add]
  congr 2
  omega
theorem scl_j2 {N M : Nat → Nat} {d : Nat} : sclP (addO N M (M 4)) d = sclP M d * 4 ^ (d * N 4) := by
  unfold sclP
  rw [addO_4, ← Nat.pow_add, ← Nat.mul_add]
  congr 2
  omega
theorem same4.mt {V V' : zV} {x y g : Nat} {τ : TK} (h : same4 V V' x) (hx : x ≠ y) : same4 V (mtV V' y τ g) x := ⟨fun i => (if_neg hx).trans (h.1 i), fun i => (if_neg (fun q => hx q.2)).trans (h.2.1 i), h.2.2⟩
theorem scl48 {N : Nat → Nat} {d : Nat} (h4 : N 4 ≤ 3) (hd : d ≤ 6) : sclP N d ≤ 2 ^ 48 := by
  unfold sclP
  have h : 4 ^ (d * (1 + N 4)) ≤ 4 ^ 24 := Nat.pow_le_pow_right (by decide) (dD24 h4 hd)
  have e : (4 : Nat) ^ 24 = 2 ^ 48 := by decide
  omega
theorem sv_bd {N M : Nat → Nat} (hN : HOK N) (hM : HOK M) (cj : N 0 = M 0 ∧ N 4 + M 4 ≤ 3) : cst N (N 0) 0 * 4 ^ (N 0 * M 4) + cst M (N 0) 0 * 4 ^ (N 0 * N 4) < 2 ^ 62 ∧ cst (addO N M (M 4)) (N 0) 0 < 2 ^ 62 := by
  have h06 := hN.2.1
  have jN := addO_OK hN hM cj.2
  have s48 : sclP (addO N M (M 4)) (N 0) ≤ 2 ^ 48 := scl48 jN.1.1 h06.2
  have p5 : ∀ n, 0 < 5 ^ n := fun n => Nat.pow_pos (by decide)
  have c4 : 1188 + 504 * N 0 ≤ 4212 := by omega
  have a1 := cst_bd hN (N 0) 0 (p5 _)
  have a2 := cst_bd hM (N 0) 0 (p5 _)
  have a3 := cst_bd jN (N 0) 0 (p5 _)
  have b1 : cst N (N 0) 0 * 4 ^ (N 0 * M 4) ≤ 2 ^ 48 * 4212 := by
    refine Nat.le_trans (Nat.mul_le_mul_right _ a1) ?_
    rw [Nat.mul_right_comm, ← scl_j]
    exact Nat.mul_le_mul s48 c4
  have b2 : cst M (N 0) 0 * 4 ^ (N 0 * N 4) ≤ 2 ^ 48 * 4212 := by
    refine Nat.le_trans (Nat.mul_le_mul_right _ a2) ?_
    rw [Nat.mul_right_comm, ← scl_j2]
    exact Nat.mul_le_mul s48 c4
  have b3 : cst (addO N M (M 4)) (N 0) 0 ≤ 2 ^ 48 * 4212 := Nat.le_trans a3 (Nat.mul_le_mul s48 c4)
  exact ⟨by omega, by omega⟩
theorem sv_fin {Z : zP} {G : zG} {V V2 V5 : zV} {y : Nat} {zk : Option Nat} {S : SX} {A : Int64 × SX} {v : Int64} (hRM : RM Z G V y zk S) (o2 : ∀ a, a < y ∨ y + 94 ≤ a → same4 V V2 a) (r2 : RM Z G V2 y zk S) (mm : MF V2 V5 y) (hA : A = (v, S)) : pMJ Z G V y zk A (some (.long v)) G V5 := by
  subst hA
  exact ⟨rfl, rfl, r2.mf mm, fun a ha => (o2 a ha).trans (mm.out a ha)⟩
theorem C_X8_house {l : Launch} {Z : zP} {G : zG} {V : zV} {y : Nat} {zk : Option Nat} {S : SX} (hRM : RM Z G V y zk S) : CT l Z yX8_house cX8_house 2 (some .int) 8 0 0 [.ref y] G V (pMI Z G V y zk (fHouse S)) := by
  refine CT.of (by decide +kernel) (Nat.le_of_ble_eq_true rfl) (fun X hX cx => ?_)
  subst hX
  show Wm Z X 2 G V 0 0 _ 0 [(0, some (.ref y))] []
  have hM := hRM.1
  have h0 := hM.1
  have hc := hRM.2.2.1.1
  have hmu := hRM.2.2.2.2.2.2.1
  have c66 := hRM.2.2.1.2.1
  have hT := hRM.2.2.2.2.1
  refine x_aload_n (pc := 0) cx (dA ddX8_house (i := 0) rfl) rfl ?_
  refine gX8_91 (pc := 1) (congrArg Value.int hc) cx (dA ddX8_house (i := 1) rfl) h0 ?_
  refine x_bipush (pc := 4) (v := nI 6) cx (dA ddX8_house (i := 2) rfl) (by decide) ?_
  refine x_icmp_ne (pc := 6) (tgt := 16) cx (dA ddX8_house (i := 3) rfl) (by decide) (fun c6 => ?_) (fun c6 => ?_)
  · have c6 := ceqF (by omega) (by omega) c6
    have c5 : S.1.1 < 6 := by omega
    refine x_aload_n (pc := 16) cx (dA ddX8_house (i := 8) rfl) rfl ?_
    refine x_aload_n (pc := 17) cx (dA ddX8_house (i := 9) rfl) rfl ?_
    refine gX8_45 (pc := 18) (rfA hM.2.2.2.2.2.2.2.2.2.2.2.1.1) cx (dA ddX8_house (i := 10) rfl) h0 ?_
    refine x_aload_n (pc := 21) cx (dA ddX8_house (i := 11) rfl) rfl ?_
    refine gX8_91 (pc := 22) (congrArg Value.int hc) cx (dA ddX8_house (i := 12) rfl) h0 ?_
    refine x_aaload (pc := 25) cx (dA ddX8_house (i := 13) rfl) hM.2.2.2.2.2.2.2.2.2.2.2.1.2.1 (by decide) (by decide) (by omega) (by decide) ?_
    rw [arA (hM.2.2.2.2.2.2.2.2.2.2.2.1.2.2 S.1.1 (by omega)).1]
    refine x_V1 (pc := 26) mX8_213 h0 (c_X8_read_x hM (hM.2.2.2.2.2.2.2.2.2.2.2.1.2.2 S.1.1 (by omega)).2 (by omega) hT) cx (dA ddX8_house (i := 14) rfl) (kIx fun V2 hrd => ?_)
    obtain ⟨N1, τ, h1, h2⟩ := hrd
    obtain ⟨o, M, hres⟩ : ∃ o M, rdL S.2.2.1.1 S.2.2.1.2 161 clearP (adv S.2.2.1.1 S.2.2.1.2 0) = (o, M) := ⟨_, _, rfl⟩
    rw [hres] at h1 h2
    rw [hres]
    refine x_istore_n (pc := 29) cx (dA ddX8_house (i := 15) rfl) (by decide) rfl ?_
    refine x_aload_n (pc := 30) cx (dA ddX8_house (i := 16) rfl) rfl ?_
    refine x_iconst (pc := 31) (v := nI 0) cx (dA ddX8_house (i := 17) rfl) (by decide) ?_
    refine pX8_136 (pc := 32)  cx (dA ddX8_house (i := 18) rfl) h0 ?_
    refine x_iload_n (pc := 35) cx (dA ddX8_house (i := 19) rfl) rfl ?_
    refine x_if_ne (pc := 36) (tgt := 54) cx (dA ddX8_house (i := 20) rfl) (by decide) (fun c36 => ?_) (fun c36 => ?_)
    · have eo : o = none := b2i_ne c36
      subst eo
      obtain ⟨e2, hag⟩ := h1 rfl
      have hag : AG M N1 := hag
      subst e2
      have ok2 := rdL_OK _ _ _ (adv_tk (Nat.zero_le _)) HOK_clear zzN_clear NZ_clear M hres
      refine x_aload_n (pc := 54) cx (dA ddX8_house (i := 30) rfl) rfl ?_
      refine x_dup (pc := 55) cx rfl (dA ddX8_house (i := 31) rfl) ?_
      refine gX8_91 (pc := 56) (congrArg Value.int (show (sI (mrV V y (y + 29 + 1 + S.1.1) S.2.2.1.1 N1 τ) 409 y (nI 0)).1 411 y = nI S.1.1 from (sI_ne (by decide)).trans ((m_lo (Or.inl (by decide))).trans hc))) cx (dA ddX8_house (i := 32) rfl) h0 ?_
      refine x_dup_x1 (pc := 59) cx rfl rfl (dA ddX8_house (i := 33) rfl) ?_
      refine x_iconst (pc := 60) (v := nI 1) cx (dA ddX8_house (i := 34) rfl) (by decide) ?_
      refine x_iadd (pc := 61) cx (dA ddX8_house (i := 35) rfl) ?_
      rw [nI_add]
      refine pX8_91 (pc := 62)  cx (dA ddX8_house (i := 36) rfl) h0 ?_
      refine x_ireturn (pc := 65) cx (dA ddX8_house (i := 37) rfl) (by first | exact Nat.le_of_ble_eq_true rfl | omega) (by first | exact Nat.le_of_ble_eq_true rfl | omega) ?_
      have r3 := hRM.rd (V' := (sI (mrV V y (y + 29 + 1 + S.1.1) S.2.2.1.1 N1 τ) 409 y (nI 0))) (t := (S.2.2.1.1, 0)) c5 (fun b h1 h2 h3 => (((same4.refl V b).rAI h3).mt h1).sI h1) (fun f hf h9 => (sI_ne h9).trans (m_lo (by omega))) ⟨sI_eq, (hT.mr (by omega)).2.1, Nat.zero_le _, hT.2.2.2⟩
      have r4 := RM.add (V' := (sI (sI (mrV V y (y + 29 + 1 + S.1.1) S.2.2.1.1 N1 τ) 409 y (nI 0)) 411 y (nI (S.1.1 + 1)))) (N := M) r3.1 c5 (fun b h1 h2 => (same4.refl _ b).sI h1) (fun f hf h9 => sI_ne h9) sI_eq (fun j hj => (m_ga (by have := ok2.1.1.1; omega)).trans (by rw [hag j hj])) ok2.1
      exact pMI.m (by unfold fHouse; rw [if_neg (by omega), hres]; try rfl) ⟨r4.1, fun b hb => (r3.2 b hb).trans (r4.2 b hb)⟩
    · obtain ⟨f, eo⟩ := Option.ne_none_iff_exists'.mp (b2i_eq c36)
      subst eo
      have e2 := h2 f rfl
      subst e2
      refine x_aload_n (pc := 39) cx (dA ddX8_house (i := 21) rfl) rfl ?_
      refine x_bipush (pc := 40) (v := -2) cx (dA ddX8_house (i := 22) rfl) (by decide) ?_
      refine x_V1 (pc := 42) mX8_119 h0 (c_X8_refuse (V := (sI (sI (mrV V y (y + 29 + 1 + S.1.1) S.2.2.1.1 N1 τ) 427 y (nI f)) 409 y (nI 0))) hM (i := 0) (by decide) rfl) cx (dA ddX8_house (i := 23) rfl) (kI ?_)
      refine x_pop (pc := 45) cx rfl (dA ddX8_house (i := 24) rfl) ?_
      refine x_bipush (pc := 46) (v := -20) cx (dA ddX8_house (i := 25) rfl) (by decide) ?_
      refine x_aload_n (pc := 48) cx (dA ddX8_house (i := 26) rfl) rfl ?_
      refine gX8_164 (pc := 49) (congrArg Value.int (show (sI (sI (mrV V y (y + 29 + 1 + S.1.1) S.2.2.1.1 N1 τ) 427 y (nI f)) 409 y (nI 0)).1 427 y = nI f from (sI_ne (by decide)).trans sI_eq)) cx (dA ddX8_house (i := 27) rfl) h0 ?_
      refine x_isub (pc := 52) cx (dA ddX8_house (i := 28) rfl) ?_
      refine x_ireturn (pc := 53) cx (dA ddX8_house (i := 29) rfl) (by first | exact Nat.le_of_ble_eq_true rfl | omega) (by first | exact Nat.le_of_ble_eq_true rfl | omega) ?_
      have r3 := hRM.rd (V' := (sI (sI (mrV V y (y + 29 + 1 + S.1.1) S.2.2.1.1 N1 τ) 427 y (nI f)) 409 y (nI 0))) (t := (S.2.2.1.1, 0)) c5 (fun b h1 h2 h3 => ((((same4.refl V b).rAI h3).mt h1).sI h1).sI h1) (fun f hf h9 => (sI_ne h9).trans ((sI_ne (by omega)).trans (m_lo (by omega)))) ⟨sI_eq, (hT.mr (by omega)).2.1, Nat.zero_le _, hT.2.2.2⟩
      have r4 := r3.1.ref (i := 0) (by decide)
      exact pMI.m (by unfold fHouse; rw [if_neg (by omega), hres]; try rfl) ⟨r4, fun b hb => (r3.2 b hb).trans (rfV_s (by omega))⟩
  · have c6 := ceqT (by omega) (by omega) c6
    have c6_ : S.1.1 = 6 := by omega
    refine x_aload_n (pc := 9) cx (dA ddX8_house (i := 4) rfl) rfl ?_
    refine x_bipush (pc := 10) (v := -6) cx (dA ddX8_house (i := 5) rfl) (by decide) ?_
    refine x_V1 (pc := 12) mX8_119 h0 (c_X8_refuse hM (i := 4) (by decide) rfl) cx (dA ddX8_house (i := 6) rfl) (kI ?_)
    refine x_ireturn (pc := 15) cx (dA ddX8_house (i := 7) rfl) (by first | exact Nat.le_of_ble_eq_true rfl | omega) (by first | exact Nat.le_of_ble_eq_true rfl | omega) ?_
    exact pMI.r hRM (by decide) (by unfold fHouse; rw [if_pos c6_])
theorem c_X8_join {l : Launch} {Z : zP} {G : zG} {V : zV} {y : Nat} {zk : Option Nat} {S : SX} (hRM : RM Z G V y zk S) {h o : Int32} : CT l Z yX8_join cX8_join 3 (some .int) 3 0 0 [.ref y, .int h, .int o] G V (pMI Z G V y zk (fJoin S h o)) := by
  refine CT.of (by decide +kernel) (Nat.le_of_ble_eq_true rfl) (fun X hX cx => ?_)
  subst hX
  show Wm Z X 3 G V 0 0 _ 0 [(0, some (.ref y)), (1, some (.int h)), (2, some (.int o))] []
  have hM := hRM.1
  have h0 := hM.1
  have hc := hRM.2.2.1.1
  have c6 := hRM.2.2.1.2.1
  have hmu := hRM.2.2.2.2.2.2.1
  refine x_aload_n (pc := 0) cx (dA ddX8_join (i := 0) rfl) rfl ?_
  refine x_iload_n (pc := 1) cx (dA ddX8_join (i := 1) rfl) rfl ?_
  refine x_V1 (pc := 2) mX8_106 h0 (c_X8_isHouse hM hc c6) cx (dA ddX8_join (i := 2) rfl) (kI ?_)
  refine x_if_eq (pc := 5) (tgt := 21) cx (dA ddX8_join (i := 3) rfl) (by decide) (fun c5 => ?_) (fun c5 => ?_)
  · have c5 : ¬ okc S h := b2i_eq c5
    refine x_aload_n (pc := 21) cx (dA ddX8_join (i := 11) rfl) rfl ?_
    refine x_bipush (pc := 22) (v := -2) cx (dA ddX8_join (i := 12) rfl) (by decide) ?_
    refine x_V1 (pc := 24) mX8_119 h0 (c_X8_refuse hM (i := 0) (by decide) rfl) cx (dA ddX8_join (i := 13) rfl) (kI ?_)
    refine x_ireturn (pc := 27) cx (dA ddX8_join (i := 14) rfl) (by first | exact Nat.le_of_ble_eq_true rfl | omega) (by first | exact Nat.le_of_ble_eq_true rfl | omega) ?_
    first | exact pMI.r hRM (by decide) (if_neg (fun q => c5 q.1))
  · have ch : okc S h := b2i_ne c5
    refine x_aload_n (pc := 8) cx (dA ddX8_join (i := 4) rfl) rfl ?_
    refine x_iload_n (pc := 9) cx (dA ddX8_join (i := 5) rfl) rfl ?_
    refine x_V1 (pc := 10) mX8_106 h0 (c_X8_isHouse hM hc c6) cx (dA ddX8_join (i := 6) rfl) (kI ?_)
    refine x_if_eq (pc := 13) (tgt := 21) cx (dA ddX8_join (i := 7) rfl) (by decide) (fun c13 => ?_) (fun c13 => ?_)
    · have c13 : ¬ okc S o := b2i_eq c13
      refine x_aload_n (pc := 21) cx (dA ddX8_join (i := 11) rfl) rfl ?_
      refine x_bipush (pc := 22) (v := -2) cx (dA ddX8_join (i := 12) rfl) (by decide) ?_
      refine x_V1 (pc := 24) mX8_119 h0 (c_X8_refuse hM (i := 0) (by decide) rfl) cx (dA ddX8_join (i := 13) rfl) (kI ?_)
      refine x_ireturn (pc := 27) cx (dA ddX8_join (i := 14) rfl) (by first | exact Nat.le_of_ble_eq_true rfl | omega) (by first | exact Nat.le_of_ble_eq_true rfl | omega) ?_
      first | exact pMI.r hRM (by decide) (if_neg (fun q => c13 q.2.1))
    · have co : okc S o := b2i_ne c13
      refine x_iload_n (pc := 16) cx (dA ddX8_join (i := 8) rfl) rfl ?_
      refine x_iload_n (pc := 17) cx (dA ddX8_join (i := 9) rfl) rfl ?_
      refine x_icmp_ne (pc := 18) (tgt := 28) cx (dA ddX8_join (i := 10) rfl) (by decide) (fun c18 => ?_) (fun c18 => ?_)
      · have cne : h ≠ o := c18
        obtain ⟨i, hi, rfl, ti⟩ := i32_in ch
        obtain ⟨hR, hN⟩ := hRM.2.2.1.2.2.1 i hi
        obtain ⟨k, hk, rfl, tk⟩ := i32_in co
        obtain ⟨oR, oN⟩ := hRM.2.2.1.2.2.1 k hk
        have hB := hN.1
        have oB := oN.1
        have b4 := hB.1
        have o4 := oB.1
        have hh : i < 8 := by omega
        have hk8 : k < 8 := by omega
        have e1 : hX S (nI i) = S.1.2.1 i := hX_at hh
        have e2 : hX S (nI k) = S.1.2.1 k := hX_at hk8
        have CA : okc S (nI i) ∧ okc S (nI k) ∧ nI i ≠ nI k := ⟨ch, co, cne⟩
        refine x_aload_n (pc := 28) cx (dA ddX8_join (i := 15) rfl) rfl ?_
        refine x_iload_n (pc := 29) cx (dA ddX8_join (i := 16) rfl) rfl ?_
        refine x_iload_n (pc := 30) cx (dA ddX8_join (i := 17) rfl) rfl ?_
        refine x_V2 (pc := 31) mX8_319 h0 (c_X8_mayJoin hM hh hR hB hk8 oR oB) cx (dA ddX8_join (i := 18) rfl) (kI ?_)
        refine x_if_ne (pc := 34) (tgt := 44) cx (dA ddX8_join (i := 19) rfl) (by decide) (fun c34 => ?_) (fun c34 => ?_)
        · have cj := b2i_ne c34
          have CJ : hX S (nI i) 0 = hX S (nI k) 0 ∧ hX S (nI i) 4 + hX S (nI k) 4 ≤ 3 := by rw [e1, e2]; exact cj
          refine x_aload_n (pc := 44) cx (dA ddX8_join (i := 24) rfl) rfl ?_
          refine gX8_91 (pc := 45) (congrArg Value.int hc) cx (dA ddX8_join (i := 25) rfl) h0 ?_
          refine x_bipush (pc := 48) (v := nI 6) cx (dA ddX8_join (i := 26) rfl) (by decide) ?_
          refine x_icmp_ne (pc := 50) (tgt := 60) cx (dA ddX8_join (i := 27) rfl) (by decide) (fun c50 => ?_) (fun c50 => ?_)
          · have c50 := ceqF (by omega) (by omega) c50
            have c5 : S.1.1 < 6 := by omega
            refine x_aload_n (pc := 60) cx (dA ddX8_join (i := 32) rfl) rfl ?_
            refine x_iload_n (pc := 61) cx (dA ddX8_join (i := 33) rfl) rfl ?_
            refine x_iload_n (pc := 62) cx (dA ddX8_join (i := 34) rfl) rfl ?_
            refine x_aload_n (pc := 63) cx (dA ddX8_join (i := 35) rfl) rfl ?_
            refine gX8_91 (pc := 64) (congrArg Value.int hc) cx (dA ddX8_join (i := 36) rfl) h0 ?_
            refine x_V3 (pc := 67) mX8_322 h0 (c_X8_joinTo hM hh hR hB hk8 oR oB cj.2 (s := S.1.1) (by omega) (by omega) (by omega)) cx (dA ddX8_join (i := 37) rfl) (kVx fun V2 h2 => ?_)
            refine x_aload_n (pc := 70) cx (dA ddX8_join (i := 38) rfl) rfl ?_
            refine x_dup (pc := 71) cx rfl (dA ddX8_join (i := 39) rfl) ?_
            refine gX8_91 (pc := 72) (congrArg Value.int (show V2.1 411 y = nI S.1.1 from ((h2.2 y (by omega)).1 411).trans hc)) cx (dA ddX8_join (i := 40) rfl) h0 ?_
            refine x_dup_x1 (pc := 75) cx rfl rfl (dA ddX8_join (i := 41) rfl) ?_
            refine x_iconst (pc := 76) (v := nI 1) cx (dA ddX8_join (i := 42) rfl) (by decide) ?_
            refine x_iadd (pc := 77) cx (dA ddX8_join (i := 43) rfl) ?_
            rw [nI_add]
            refine pX8_91 (pc := 78)  cx (dA ddX8_join (i := 44) rfl) h0 ?_
            refine x_ireturn (pc := 81) cx (dA ddX8_join (i := 45) rfl) (by first | exact Nat.le_of_ble_eq_true rfl | omega) (by first | exact Nat.le_of_ble_eq_true rfl | omega) ?_
            have r4 := RM.add (V' := sI V2 411 y (nI (S.1.1 + 1))) (N := (addO (S.1.2.1 i) (S.1.2.1 k) ((S.1.2.1 k) 4))) hRM c5 (fun b h1 h3 => (h2.2 b h3).sI h1) (fun f hf h9 => (sI_ne h9).trans ((h2.2 y (by omega)).1 f)) sI_eq h2.1 (addO_OK hN oN cj.2)
            exact pMI.m (by unfold fJoin; rw [if_pos CA, if_pos CJ, if_neg (by omega), e1, e2]) r4
          · have c50 := ceqT (by omega) (by omega) c50
            refine x_aload_n (pc := 53) cx (dA ddX8_join (i := 28) rfl) rfl ?_
            refine x_bipush (pc := 54) (v := -6) cx (dA ddX8_join (i := 29) rfl) (by decide) ?_
            refine x_V1 (pc := 56) mX8_119 h0 (c_X8_refuse hM (i := 4) (by decide) rfl) cx (dA ddX8_join (i := 30) rfl) (kI ?_)
            refine x_ireturn (pc := 59) cx (dA ddX8_join (i := 31) rfl) (by first | exact Nat.le_of_ble_eq_true rfl | omega) (by first | exact Nat.le_of_ble_eq_true rfl | omega) ?_
            exact pMI.r hRM (by decide) (by unfold fJoin; rw [if_pos CA, if_pos CJ, if_pos c50])
        · have cj := b2i_eq c34
          refine x_aload_n (pc := 37) cx (dA ddX8_join (i := 20) rfl) rfl ?_
          refine x_bipush (pc := 38) (v := -5) cx (dA ddX8_join (i := 21) rfl) (by decide) ?_
          refine x_V1 (pc := 40) mX8_119 h0 (c_X8_refuse hM (i := 3) (by decide) rfl) cx (dA ddX8_join (i := 22) rfl) (kI ?_)
          refine x_ireturn (pc := 43) cx (dA ddX8_join (i := 23) rfl) (by first | exact Nat.le_of_ble_eq_true rfl | omega) (by first | exact Nat.le_of_ble_eq_true rfl | omega) ?_
          exact pMI.r hRM (by decide) (by unfold fJoin; rw [if_pos CA, if_neg (by rw [e1, e2]; exact cj)])
      · refine x_aload_n (pc := 21) cx (dA ddX8_join (i := 11) rfl) rfl ?_
        refine x_bipush (pc := 22) (v := -2) cx (dA ddX8_join (i := 12) rfl) (by decide) ?_
        refine x_V1 (pc := 24) mX8_119 h0 (c_X8_refuse hM (i := 0) (by decide) rfl) cx (dA ddX8_join (i := 13) rfl) (kI ?_)
        refine x_ireturn (pc := 27) cx (dA ddX8_join (i := 14) rfl) (by first | exact Nat.le_of_ble_eq_true rfl | omega) (by first | exact Nat.le_of_ble_eq_true rfl | omega) ?_
        first | exact pMI.r hRM (by decide) (if_neg (fun q => q.2.2 c18))
theorem c_X8_saved {l : Launch} {Z : zP} {G : zG} {V : zV} {y : Nat} {zk : Option Nat} {S : SX} (hRM : RM Z G V y zk S) {h o : Int32} : CT l Z yX8_saved cX8_saved 12 (some .long) 6 0 0 [.ref y, .int h, .int o] G V (pMJ Z G V y zk (fSaved S h o)) := by
  refine CT.of (by decide +kernel) (Nat.le_of_ble_eq_true rfl) (fun X hX cx => ?_)
  subst hX
  show Wm Z X 12 G V 0 0 _ 0 [(0, some (.ref y)), (1, some (.int h)), (2, some (.int o))] []
  have hM := hRM.1
  have h0 := hM.1
  have hc := hRM.2.2.1.1
  have c6 := hRM.2.2.1.2.1
  have hmu := hRM.2.2.2.2.2.2.1
  refine x_aload_n (pc := 0) cx (dA ddX8_saved (i := 0) rfl) rfl ?_
  refine x_iload_n (pc := 1) cx (dA ddX8_saved (i := 1) rfl) rfl ?_
  refine x_V1 (pc := 2) mX8_106 h0 (c_X8_isHouse hM hc c6) cx (dA ddX8_saved (i := 2) rfl) (kI ?_)
  refine x_if_eq (pc := 5) (tgt := 21) cx (dA ddX8_saved (i := 3) rfl) (by decide) (fun c5 => ?_) (fun c5 => ?_)
  · have c5 : ¬ okc S h := b2i_eq c5
    refine x_aload_n (pc := 21) cx (dA ddX8_saved (i := 11) rfl) rfl ?_
    refine x_bipush (pc := 22) (v := -2) cx (dA ddX8_saved (i := 12) rfl) (by decide) ?_
    refine x_V1 (pc := 24) mX8_119 h0 (c_X8_refuse hM (i := 0) (by decide) rfl) cx (dA ddX8_saved (i := 13) rfl) (kI ?_)
    refine x_i2l (pc := 27) cx (dA ddX8_saved (i := 14) rfl) ?_
    refine x_lreturn (pc := 28) cx (dA ddX8_saved (i := 15) rfl) (by first | exact Nat.le_of_ble_eq_true rfl | omega) (by first | exact Nat.le_of_ble_eq_true rfl | omega) ?_
    first | exact pMJ.r hRM (by decide) (if_neg (fun q => c5 q.1))
  · have ch : okc S h := b2i_ne c5
    refine x_aload_n (pc := 8) cx (dA ddX8_saved (i := 4) rfl) rfl ?_
    refine x_iload_n (pc := 9) cx (dA ddX8_saved (i := 5) rfl) rfl ?_
    refine x_V1 (pc := 10) mX8_106 h0 (c_X8_isHouse hM hc c6) cx (dA ddX8_saved (i := 6) rfl) (kI ?_)
    refine x_if_eq (pc := 13) (tgt := 21) cx (dA ddX8_saved (i := 7) rfl) (by decide) (fun c13 => ?_) (fun c13 => ?_)
    · have c13 : ¬ okc S o := b2i_eq c13
      refine x_aload_n (pc := 21) cx (dA ddX8_saved (i := 11) rfl) rfl ?_
      refine x_bipush (pc := 22) (v := -2) cx (dA ddX8_saved (i := 12) rfl) (by decide) ?_
      refine x_V1 (pc := 24) mX8_119 h0 (c_X8_refuse hM (i := 0) (by decide) rfl) cx (dA ddX8_saved (i := 13) rfl) (kI ?_)
      refine x_i2l (pc := 27) cx (dA ddX8_saved (i := 14) rfl) ?_
      refine x_lreturn (pc := 28) cx (dA ddX8_saved (i := 15) rfl) (by first | exact Nat.le_of_ble_eq_true rfl | omega) (by first | exact Nat.le_of_ble_eq_true rfl | omega) ?_
      first | exact pMJ.r hRM (by decide) (if_neg (fun q => c13 q.2.1))
    · have co : okc S o := b2i_ne c13
      refine x_iload_n (pc := 16) cx (dA ddX8_saved (i := 8) rfl) rfl ?_
      refine x_iload_n (pc := 17) cx (dA ddX8_saved (i := 9) rfl) rfl ?_
      refine x_icmp_ne (pc := 18) (tgt := 29) cx (dA ddX8_saved (i := 10) rfl) (by decide) (fun c18 => ?_) (fun c18 => ?_)
      · have cne : h ≠ o := c18
        obtain ⟨i, hi, rfl, ti⟩ := i32_in ch
        obtain ⟨hR, hN⟩ := hRM.2.2.1.2.2.1 i hi
        obtain ⟨k, hk, rfl, tk⟩ := i32_in co
        obtain ⟨oR, oN⟩ := hRM.2.2.1.2.2.1 k hk
        have hB := hN.1
        have oB := oN.1
        have b4 := hB.1
        have o4 := oB.1
        have hh : i < 8 := by omega
        have hk8 : k < 8 := by omega
        have e1 : hX S (nI i) = S.1.2.1 i := hX_at hh
        have e2 : hX S (nI k) = S.1.2.1 k := hX_at hk8
        have CA : okc S (nI i) ∧ okc S (nI k) ∧ nI i ≠ nI k := ⟨ch, co, cne⟩
        refine x_aload_n (pc := 29) cx (dA ddX8_saved (i := 16) rfl) rfl ?_
        refine x_iload_n (pc := 30) cx (dA ddX8_saved (i := 17) rfl) rfl ?_
        refine x_iload_n (pc := 31) cx (dA ddX8_saved (i := 18) rfl) rfl ?_
        refine x_V2 (pc := 32) mX8_319 h0 (c_X8_mayJoin hM hh hR hB hk8 oR oB) cx (dA ddX8_saved (i := 19) rfl) (kI ?_)
        refine x_if_ne (pc := 35) (tgt := 46) cx (dA ddX8_saved (i := 20) rfl) (by decide) (fun c35 => ?_) (fun c35 => ?_)
        · have cj := b2i_ne c35
          have CJ : hX S (nI i) 0 = hX S (nI k) 0 ∧ hX S (nI i) 4 + hX S (nI k) 4 ≤ 3 := by rw [e1, e2]; exact cj
          have jN : HOK (addO (S.1.2.1 i) (S.1.2.1 k) ((S.1.2.1 k) 4)) := addO_OK hN oN cj.2
          have j0 : (addO (S.1.2.1 i) (S.1.2.1 k) ((S.1.2.1 k) 4)) 0 = ((S.1.2.1 i) 0) := addO_lo (by decide) (by omega) _
          have h06 := hN.2.1
          have sp : 0 < sclP (S.1.2.1 i) ((S.1.2.1 i) 0) := Nat.pow_pos (by decide)
          have sq : 0 < sclP (S.1.2.1 k) ((S.1.2.1 i) 0) := Nat.pow_pos (by decide)
          have s48 : sclP (addO (S.1.2.1 i) (S.1.2.1 k) ((S.1.2.1 k) 4)) ((S.1.2.1 i) 0) ≤ 2 ^ 48 := scl48 jN.1.1 h06.2
          have s1 : sclP (S.1.2.1 i) ((S.1.2.1 i) 0) ≤ 2 ^ 48 := scl48 b4 h06.2
          have s2 : sclP (S.1.2.1 k) ((S.1.2.1 i) 0) ≤ 2 ^ 48 := scl48 o4 h06.2
          refine x_aload_n (pc := 46) cx (dA ddX8_saved (i := 26) rfl) rfl ?_
          refine x_iload_n (pc := 47) cx (dA ddX8_saved (i := 27) rfl) rfl ?_
          refine x_iload_n (pc := 48) cx (dA ddX8_saved (i := 28) rfl) rfl ?_
          refine x_bipush (pc := 49) (v := nI 6) cx (dA ddX8_saved (i := 29) rfl) (by decide) ?_
          refine x_V3 (pc := 51) mX8_322 h0 (c_X8_joinTo hM hh hR hB hk8 oR oB cj.2 (s := 6) (by decide) (by omega) (by omega)) cx (dA ddX8_saved (i := 30) rfl) (kVx fun V2 h2 => ?_)
          have r2 := hRM.r6 h2.2
          have hR2 := (r2.1.2.2.1.2.2.1 i hi).1
          have oR2 := (r2.1.2.2.1.2.2.1 k hk).1
          refine x_aload_n (pc := 54) cx (dA ddX8_saved (i := 31) rfl) rfl ?_
          refine gX8_45 (pc := 55) (rfA hM.2.2.2.2.2.2.2.2.2.2.2.1.1) cx (dA ddX8_saved (i := 32) rfl) h0 ?_
          refine x_iload_n (pc := 58) cx (dA ddX8_saved (i := 33) rfl) rfl ?_
          refine x_aaload (pc := 59) cx (dA ddX8_saved (i := 34) rfl) hM.2.2.2.2.2.2.2.2.2.2.2.1.2.1 (by decide) (by decide) hh (by decide) ?_
          rw [arA (hM.2.2.2.2.2.2.2.2.2.2.2.1.2.2 i hh).1]
          refine x_iconst (pc := 60) (v := nI 0) cx (dA ddX8_saved (i := 35) rfl) (by decide) ?_
          refine x_iaload (pc := 61) cx (dA ddX8_saved (i := 36) rfl) (hM.2.2.2.2.2.2.2.2.2.2.2.1.2.2 i hh).2 (by decide) (by decide) ?_
          rw [hR2 0 (by omega)]
          refine x_istore_n (pc := 62) cx (dA ddX8_saved (i := 37) rfl) (by decide) rfl ?_
          refine x_aload_n (pc := 63) cx (dA ddX8_saved (i := 38) rfl) rfl ?_
          refine x_bipush (pc := 64) (v := nI 6) cx (dA ddX8_saved (i := 39) rfl) (by decide) ?_
          refine x_iload_n (pc := 66) cx (dA ddX8_saved (i := 40) rfl) rfl ?_
          refine x_V2 (pc := 67) mX8_242 h0 (c_X8_scaleOf (V := V2) hM (h := 6) (by decide) h2.1 jN.1 (d := ((S.1.2.1 i) 0)) h06.2) cx (dA ddX8_saved (i := 41) rfl) (kJ ?_)
          refine x_lstore (pc := 70) cx (dA ddX8_saved (i := 42) rfl) (by decide) rfl ?_
          refine x_aload_n (pc := 72) cx (dA ddX8_saved (i := 43) rfl) rfl ?_
          refine x_iload_n (pc := 73) cx (dA ddX8_saved (i := 44) rfl) rfl ?_
          refine x_V1 (pc := 74) mX8_326 h0 (c_X8_wholeCost (V := V2) hM hh hR2 hB hN (mu := 0) (hmu_0 r2.1.2.2.2.2.2.2.1)) cx (dA ddX8_saved (i := 45) rfl) (kJx fun V3 h3 => ?_)
          rw [mcM_cst]
          have m3 : MF V2 V3 y := MF.of h3.1 (by omega) (by omega)
          have r3 := r2.1.mf m3
          refine x_lload (pc := 77) cx (dA ddX8_saved (i := 46) rfl) rfl ?_
          refine x_aload_n (pc := 79) cx (dA ddX8_saved (i := 47) rfl) rfl ?_
          refine x_iload_n (pc := 80) cx (dA ddX8_saved (i := 48) rfl) rfl ?_
          refine x_iload_n (pc := 81) cx (dA ddX8_saved (i := 49) rfl) rfl ?_
          refine x_V2 (pc := 82) mX8_242 h0 (c_X8_scaleOf (V := V3) hM hh (m3.mh hR2 hh) hB (d := ((S.1.2.1 i) 0)) h06.2) cx (dA ddX8_saved (i := 50) rfl) (kJ ?_)
          refine x_ldiv (pc := 85) cx (fun e => absurd ((lN_0 (by omega)).mp e) (by omega)) (dA ddX8_saved (i := 51) rfl) ?_
          rw [lN_div (by omega) sp (by omega), show sclP (addO (S.1.2.1 i) (S.1.2.1 k) ((S.1.2.1 k) 4)) ((S.1.2.1 i) 0) / sclP (S.1.2.1 i) ((S.1.2.1 i) 0) = (4 ^ (((S.1.2.1 i) 0) * (S.1.2.1 k) 4)) by rw [scl_j, Nat.mul_div_cancel_left _ sp]]
          refine x_lmul (pc := 86) cx (dA ddX8_saved (i := 52) rfl) ?_
          rw [lN_mul]
          refine x_lstore (pc := 87) cx (dA ddX8_saved (i := 53) rfl) (by decide) rfl ?_
          refine x_aload_n (pc := 89) cx (dA ddX8_saved (i := 54) rfl) rfl ?_
          refine x_iload_n (pc := 90) cx (dA ddX8_saved (i := 55) rfl) rfl ?_
          refine x_V1 (pc := 91) mX8_326 h0 (c_X8_wholeCost (V := V3) hM hk8 (m3.mh oR2 hk8) oB oN (mu := 0) (hmu_0 r3.2.2.2.2.2.2.1)) cx (dA ddX8_saved (i := 56) rfl) (kJx fun V4 h4 => ?_)
          rw [mcM_cst, ← cj.1]
          have m4 : MF V3 V4 y := MF.of h4.1 (by omega) (by omega)
          have r4 := r3.mf m4
          refine x_lload (pc := 94) cx (dA ddX8_saved (i := 57) rfl) rfl ?_
          refine x_aload_n (pc := 96) cx (dA ddX8_saved (i := 58) rfl) rfl ?_
          refine x_iload_n (pc := 97) cx (dA ddX8_saved (i := 59) rfl) rfl ?_
          refine x_iload_n (pc := 98) cx (dA ddX8_saved (i := 60) rfl) rfl ?_
          refine x_V2 (pc := 99) mX8_242 h0 (c_X8_scaleOf (V := V4) hM hk8 (m4.mh (m3.mh oR2 hk8) hk8) oB (d := ((S.1.2.1 i) 0)) h06.2) cx (dA ddX8_saved (i := 61) rfl) (kJ ?_)
          refine x_ldiv (pc := 102) cx (fun e => absurd ((lN_0 (by omega)).mp e) (by omega)) (dA ddX8_saved (i := 62) rfl) ?_
          rw [lN_div (by omega) sq (by omega), show sclP (addO (S.1.2.1 i) (S.1.2.1 k) ((S.1.2.1 k) 4)) ((S.1.2.1 i) 0) / sclP (S.1.2.1 k) ((S.1.2.1 i) 0) = (4 ^ (((S.1.2.1 i) 0) * (S.1.2.1 i) 4)) by rw [scl_j2, Nat.mul_div_cancel_left _ sq]]
          refine x_lmul (pc := 103) cx (dA ddX8_saved (i := 63) rfl) ?_
          rw [lN_mul]
          refine x_lstore (pc := 104) cx (dA ddX8_saved (i := 64) rfl) (by decide) rfl ?_
          refine x_lload (pc := 106) cx (dA ddX8_saved (i := 65) rfl) rfl ?_
          refine x_lload (pc := 108) cx (dA ddX8_saved (i := 66) rfl) rfl ?_
          refine x_ladd (pc := 110) cx (dA ddX8_saved (i := 67) rfl) ?_
          rw [lN_add]
          refine x_aload_n (pc := 111) cx (dA ddX8_saved (i := 68) rfl) rfl ?_
          refine x_bipush (pc := 112) (v := nI 6) cx (dA ddX8_saved (i := 69) rfl) (by decide) ?_
          refine x_V1 (pc := 114) mX8_326 h0 (c_X8_wholeCost (V := V4) hM (h := 6) (by decide) (m4.mh (m3.mh h2.1 (by decide)) (by decide)) jN.1 jN (mu := 0) (hmu_0 r4.2.2.2.2.2.2.1)) cx (dA ddX8_saved (i := 70) rfl) (kJx fun V5 h5 => ?_)
          rw [mcM_cst, j0]
          have m5 : MF V4 V5 y := MF.of h5.1 (by omega) (by omega)
          have mm : MF V2 V5 y := (m3.trans m4).trans m5
          have bn := sv_bd hN oN cj
          have ls := lsub_toInt bn.1 bn.2
          refine x_lsub (pc := 117) cx (dA ddX8_saved (i := 71) rfl) ?_
          refine x_lstore (pc := 118) cx (dA ddX8_saved (i := 72) rfl) (by decide) rfl ?_
          refine x_lload (pc := 120) cx (dA ddX8_saved (i := 73) rfl) rfl ?_
          refine x_lconst (pc := 122) (v := lN 0) cx (dA ddX8_saved (i := 74) rfl) rfl ?_
          refine x_lc_ge (pc := 123) (tgt := 131) cx (dA ddX8_saved (i := 75) rfl) (dA ddX8_saved (i := 76) rfl) (by decide) (fun c123 => ?_) (fun c123 => ?_)
          · refine x_lload (pc := 131) cx (dA ddX8_saved (i := 79) rfl) rfl ?_
            refine x_lreturn (pc := 133) cx (dA ddX8_saved (i := 80) rfl) (by first | exact Nat.le_of_ble_eq_true rfl | omega) (by first | exact Nat.le_of_ble_eq_true rfl | omega) ?_
            have e0 : (lN 0).toInt = 0 := rfl
            rw [i64_le, ls, e0] at c123
            rw [lN_sub (by omega)]
            exact sv_fin hRM r2.2 (r2.1) mm (by unfold fSaved; rw [if_pos CA, if_pos CJ, e1, e2]; rfl)
          · refine x_lconst (pc := 127) (v := lN 0) cx (dA ddX8_saved (i := 77) rfl) rfl ?_
            refine x_goto (pc := 128) (tgt := 133) cx (dA ddX8_saved (i := 78) rfl) (by decide) ?_
            refine x_lreturn (pc := 133) cx (dA ddX8_saved (i := 80) rfl) (by first | exact Nat.le_of_ble_eq_true rfl | omega) (by first | exact Nat.le_of_ble_eq_true rfl | omega) ?_
            have e0 : (lN 0).toInt = 0 := rfl
            rw [i64_le, ls, e0] at c123
            rw [show lN 0 = lN (svP (S.1.2.1 i) (S.1.2.1 k)) from congrArg lN (by unfold svP; omega)]
            exact sv_fin hRM r2.2 (r2.1) mm (by unfold fSaved; rw [if_pos CA, if_pos CJ, e1, e2])
        · have cj := b2i_eq c35
          refine x_aload_n (pc := 38) cx (dA ddX8_saved (i := 21) rfl) rfl ?_
          refine x_bipush (pc := 39) (v := -5) cx (dA ddX8_saved (i := 22) rfl) (by decide) ?_
          refine x_V1 (pc := 41) mX8_119 h0 (c_X8_refuse hM (i := 3) (by decide) rfl) cx (dA ddX8_saved (i := 23) rfl) (kI ?_)
          refine x_i2l (pc := 44) cx (dA ddX8_saved (i := 24) rfl) ?_
          refine x_lreturn (pc := 45) cx (dA ddX8_saved (i := 25) rfl) (by first | exact Nat.le_of_ble_eq_true rfl | omega) (by first | exact Nat.le_of_ble_eq_true rfl | omega) ?_
          exact pMJ.r hRM (by decide) (by unfold fSaved; rw [if_pos CA, if_neg (by rw [e1, e2]; exact cj)])
      · refine x_aload_n (pc := 21) cx (dA ddX8_saved (i := 11) rfl) rfl ?_
        refine x_bipush (pc := 22) (v := -2) cx (dA ddX8_saved (i := 12) rfl) (by decide) ?_
        refine x_V1 (pc := 24) mX8_119 h0 (c_X8_refuse hM (i := 0) (by decide) rfl) cx (dA ddX8_saved (i := 13) rfl) (kI ?_)
        refine x_i2l (pc := 27) cx (dA ddX8_saved (i := 14) rfl) ?_
        refine x_lreturn (pc := 28) cx (dA ddX8_saved (i := 15) rfl) (by first | exact Nat.le_of_ble_eq_true rfl | omega) (by first | exact Nat.le_of_ble_eq_true rfl | omega) ?_
        first | exact pMJ.r hRM (by decide) (if_neg (fun q => q.2.2 c18))
