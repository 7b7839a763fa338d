/-- v's lowest n bytes, the highest of them first, behind S bytes -/
def fdB (x : Int32) (n j : Nat) : Int32 := (x >>> (nI 8 * nI (n - 1 - j) &&& 31)).toInt8.toInt32
def feedV (V : zV) (t S : Nat) (x : Int32) (n k : Nat) : zV := sI (rAI V (t + 1) S k (fdB x n)) 201 t (nI (S + k))
theorem fd_sz {V : zV} {t S : Nat} {x : Int32} {n k : Nat} : (feedV V t S x n k).1 201 t = nI (S + k) := u2_same _ _ _ _
theorem sI_id {V : zV} {f t : Nat} {v : Int32} (h : V.1 f t = v) : sI V f t v = V := by
  obtain ⟨V1, V2⟩ := V
  unfold sI
  congr 1
  funext a b
  unfold u2
  split
  · next q => rw [q.1, q.2]; exact h.symm
  · rfl
theorem fd_0 {V : zV} {t S : Nat} {x : Int32} {n : Nat} (h : V.1 201 t = nI S) : feedV V t S x n 0 = V := by
  unfold feedV
  rw [rAI_0]
  exact sI_id h
theorem sI_sI (V : zV) (f t : Nat) (v w : Int32) : sI (sI V f t v) f t w = sI V f t w := by
  unfold sI
  congr 1
  funext a b
  unfold u2
  dsimp only
  split
  · rfl
  · rfl
theorem fd_s {V : zV} {t S : Nat} {x : Int32} {n k : Nat} : sI (sAI (feedV V t S x n k) (t + 1) (S + k) (fdB x n k)) 201 t (nI (S + k) + nI 1) = feedV V t S x n (k + 1) := by
  have e : sAI (feedV V t S x n k) (t + 1) (S + k) (fdB x n k) = sI (sAI (rAI V (t + 1) S k (fdB x n)) (t + 1) (S + k) (fdB x n k)) 201 t (nI (S + k)) := rfl
  rw [e, rAI_s _ _ _ _ _ rfl, sI_sI, nI_add]
  rfl
theorem sb_i8all : ∀ b : Fin 256, sb b.val = (Int8.ofBitVec (BitVec.ofFin b)).toInt32 := by decide +kernel
theorem sb_i8 (y : Int8) : sb y.toBitVec.toNat = y.toInt32 := sb_i8all y.toBitVec.toFin
/-- a byte fed, as a number -/
def fdN (x : Int32) (n j : Nat) : Nat := (x >>> (nI 8 * nI (n - 1 - j) &&& 31)).toInt8.toBitVec.toNat
theorem fdN_sb (x : Int32) (n j : Nat) : fdB x n j = sb (fdN x n j) := (sb_i8 _).symm
theorem fdN_lt (x : Int32) (n j : Nat) : fdN x n j < 256 := BitVec.isLt _
def feedB (B : Nat → Nat) (S : Nat) (x : Int32) (n : Nat) : Nat → Nat := fun j => if S ≤ j ∧ j < S + n then fdN x n (j - S) else B j
theorem TapeV.feed {V : zV} {t S n : Nat} {x : Int32} {B : Nat → Nat} (hV : TapeV V t B S) (hn : S + n ≤ 160) : TapeV (feedV V t S x n n) t (feedB B S x n) (S + n) := by
  obtain ⟨h1, h2, h3, h4⟩ := hV
  refine ⟨fd_sz, fun j hj => ?_, hn, fun j => ?_⟩
  · show rw2 V.2.2.1 (t + 1) S n (fdB x n) (t + 1) j = _
    unfold feedB
    by_cases e : S ≤ j ∧ j < S + n
    · rw [rw2_in e.1 e.2, if_pos e, fdN_sb]
    · rw [rw2_out (by omega), if_neg e]
      exact h2 j hj
  · unfold feedB
    split
    · exact fdN_lt _ _ _
    · exact h4 j
theorem TapeV.setN {V : zV} {t h S : Nat} {B N : Nat → Nat} (hth : t ≠ h) (hV : TapeV V t B S) : TapeV (setN V h N) t B S :=
  ⟨hV.1, fun j hj => (show rw2 V.2.2.1 (h + 1) 0 20 (fun j => nI (N j)) (t + 1) j = _ from (rw2_ne (by omega) j).trans (hV.2.1 j hj)), hV.2.2⟩
theorem HOK_clear : HOK clearP := by
  refine ⟨⟨by decide, fun j hj => ?_⟩, by decide, by decide, by decide, fun k hk => absurd hk (Nat.not_lt_zero _)⟩
  exact (show ∀ j : Fin 20, clearP j.val ≤ 99 by decide) ⟨j, hj⟩
theorem zzN_clear : zzN clearP := by
  intro k h1 h2
  rcases (show k = 0 ∨ k = 1 ∨ k = 2 by omega) with h | h | h <;> subst h <;> decide
theorem HouseV_set0 {V : zV} {h : Nat} {N : Nat → Nat} : HouseV (setN V h N) h N := fun j hj => (show rw2 V.2.2.1 (h + 1) 0 20 (fun j => nI (N j)) (h + 1) j = _ from rw2_in0 hj)
theorem HouseV_setN {V : zV} {h o : Nat} {N M : Nat → Nat} (hho : h ≠ o) (oV : HouseV V o M) : HouseV (setN V h N) o M := fun j hj => (show rw2 V.2.2.1 (h + 1) 0 20 (fun j => nI (N j)) (o + 1) j = _ from (rw2_ne (by omega) j).trans (oV j hj))
/-- the sorts of M behind N's own -/
def addI (N M : Nat → Nat) (s : Nat) : Nat → Nat → Nat
  | 0 => N
  | w + 1 => numP (addI N M s w) (5 + 5 * N 4 + w) (M (5 + 5 * s + w))
def addO (N M : Nat → Nat) : Nat → Nat → Nat
  | 0 => N
  | s + 1 => numP (addI (addO N M s) M s 5) 4 (addO N M s 4 + 1)
theorem addI_4 {N M : Nat → Nat} {s : Nat} : ∀ w, addI N M s w 4 = N 4
  | 0 => rfl
  | w + 1 => (numP_ne (by omega)).trans (addI_4 w)
theorem addO_4 {N M : Nat → Nat} : ∀ s, addO N M s 4 = N 4 + s
  | 0 => rfl
  | s + 1 => numP_eq.trans (by rw [addO_4 s]; omega)
theorem HouseB.put {N : Nat → Nat} {i v : Nat} (h : HouseB N) (hv : v ≤ 99) (h4 : i = 4 → v ≤ 3) : HouseB (numP N i v) := by
  refine ⟨?_, fun j hj => ?_⟩
  · by_cases e : 4 = i
    · subst e; rw [numP_eq]; exact h4 rfl
    · rw [numP_ne e]; exact h.1
  · by_cases e : j = i
    · subst e; rw [numP_eq]; exact hv
    · rw [numP_ne e]; exact h.2 j hj
theorem addI_B {N M : Nat → Nat} {s : Nat} (hN : HouseB N) (hM : HouseB M) (hs : s < 3) : ∀ w, w ≤ 5 → HouseB (addI N M s w)
  | 0, _ => hN
  | w + 1, h => (addI_B hN hM hs w (by omega)).put (hM.2 _ (by omega)) (fun e => by omega)
theorem addO_B {N M : Nat → Nat} (hN : HouseB N) (hM : HouseB M) (h3 : N 4 + M 4 ≤ 3) : ∀ s, s ≤ M 4 → HouseB (addO N M s)
  | 0, _ => hN
  | s + 1, h => (addI_B (addO_B hN hM h3 s (by omega)) hM (by omega) 5 (Nat.le_refl _)).put (by rw [addO_4]; omega) (fun _ => by rw [addO_4]; omega)
abbrev mayP (κ x : Int32) : Prop := (κ.toInt = 1 ∧ 0 ≤ x.toInt ∧ x.toInt ≤ 99) ∨ (κ.toInt = 2 ∧ 1 ≤ x.toInt ∧ x.toInt ≤ 6) ∨ (κ.toInt = 3 ∧ 0 ≤ x.toInt ∧ x.toInt / 10 ≤ 99 ∧ 1 ≤ x.toInt % 10 ∧ x.toInt % 10 ≤ 6) ∨ κ.toInt = 4 ∨ (κ.toInt = 5 ∧ 0 ≤ x.toInt ∧ x.toInt < 8)
theorem i32_nat {x : Int32} (h : ¬ x < 0) : ∃ b, b < 2 ^ 31 ∧ x = nI b := by
  rw [i32_lt, toI_0] at h
  have h2 := Int32.toInt_lt x
  exact ⟨x.toInt.toNat, by omega, Int32.toInt_inj.mp (by rw [nI_toInt (by omega)]; omega)⟩
theorem b2i_congr {p q : Prop} [Decidable p] [Decidable q] (h : p ↔ q) : b2i p = b2i q := by
  by_cases hp : p
  · rw [b2i_t hp, b2i_t (h.mp hp)]
  · rw [b2i_f hp, b2i_f (fun hq => hp (h.mpr hq))]
theorem c_X4_append {l : Launch} {Z : zP} {G : zG} {V : zV} {t : Nat} (hT : TapeAt Z G t) {B : Nat → Nat} {S : Nat} (hV : TapeV V t B S) {x : Int32} {n : Nat} (hn : 1 ≤ n) (h4 : n ≤ 4) (hf : S + n ≤ 160) : CT l Z yX4_append cX4_append 4 (some .int) 0 0 0 [.ref t, .int x, .int (nI n)] G V (pI (nI (S + n)) G (feedV V t S x n n)) := by
  refine CT.of (by decide +kernel) (Nat.le_of_ble_eq_true rfl) (fun X hX cx => ?_)
  subst hX
  show Wm Z X 4 G V 0 0 _ 0 [(0, some (.ref t)), (1, some (.int x)), (2, some (.int (nI n)))] []
  have h0 := hT.1
  have hA := hT.2.2
  have e0 : V = feedV V t S x n 0 := (fd_0 hV.1).symm
  refine x_iload_n (pc := 0) cx (dA ddX4_append (i := 0) rfl) rfl ?_
  refine x_iconst (pc := 1) (v := nI 1) cx (dA ddX4_append (i := 1) rfl) (by decide) ?_
  refine x_isub (pc := 2) cx (dA ddX4_append (i := 2) rfl) ?_
  refine x_istore_n (pc := 3) cx (dA ddX4_append (i := 3) rfl) (by decide) rfl ?_
  have L4 : ∀ k : Nat, k ≤ n → ∀ v : Int32, v.toInt = (n : Int) - 1 - (k : Int) → Wm Z X 4 G (feedV V t S x n k) 0 0 (rQ Z X 0 0 (pI (nI (S + n)) G (feedV V t S x n n))) 4 [(0, some (.ref t)), (1, some (.int x)), (2, some (.int (nI n))), (3, some (.int v))] [] := by
    refine lpU n (fun k hk ih => ?_)
    intro v hv
    refine x_iload_n (pc := 4) cx (dA ddX4_append (i := 4) rfl) rfl ?_
    refine x_if_lt (pc := 5) (tgt := 59) cx (dA ddX4_append (i := 5) rfl) (by decide) (fun c5 => ?_) (fun c5 => ?_)
    · have ek : k = n := by rw [i32_lt, hv, toI_0] at c5; omega
      subst ek
      refine x_aload_n (pc := 59) cx (dA ddX4_append (i := 34) rfl) rfl ?_
      refine gX4_15 (pc := 60) (congrArg Value.int (fd_sz (V := V) (t := t) (S := S) (x := x) (n := k) (k := k))) cx (dA ddX4_append (i := 35) rfl) h0 ?_
      refine x_ireturn (pc := 63) cx (dA ddX4_append (i := 36) rfl) (by first | exact Nat.le_of_ble_eq_true rfl | omega) (by first | exact Nat.le_of_ble_eq_true rfl | omega) ?_
      exact ⟨rfl, rfl, rfl⟩
    · have kn : k < n := by rw [i32_lt, hv, toI_0] at c5; omega
      have ev : v = nI (n - 1 - k) := by apply Int32.toInt_inj.mp; rw [hv, nI_toInt (by omega)]; omega
      subst ev
      refine x_aload_n (pc := 8) cx (dA ddX4_append (i := 6) rfl) rfl ?_
      refine gX4_15 (pc := 9) (congrArg Value.int (fd_sz (V := V) (t := t) (S := S) (x := x) (n := n) (k := k))) cx (dA ddX4_append (i := 7) rfl) h0 ?_
      refine x_if_lt (pc := 12) (tgt := 53) cx (dA ddX4_append (i := 8) rfl) (by decide) (fun c12 => absurd c12 (nI_pos (by omega))) (fun c12 => ?_)
      refine x_aload_n (pc := 15) cx (dA ddX4_append (i := 9) rfl) rfl ?_
      refine gX4_15 (pc := 16) (congrArg Value.int (fd_sz (V := V) (t := t) (S := S) (x := x) (n := n) (k := k))) cx (dA ddX4_append (i := 10) rfl) h0 ?_
      refine x_aload_n (pc := 19) cx (dA ddX4_append (i := 11) rfl) rfl ?_
      refine gX4_9 (pc := 20) (rfA hT.2.1) cx (dA ddX4_append (i := 12) rfl) h0 ?_
      refine x_alen (pc := 23) cx (dA ddX4_append (i := 13) rfl) hA (by decide) ?_
      refine x_icmp_ge (pc := 24) (tgt := 53) cx (dA ddX4_append (i := 14) rfl) (by decide) (fun c24 => absurd c24 (nI_ge (by omega) (by omega))) (fun c24 => ?_)
      refine x_aload_n (pc := 27) cx (dA ddX4_append (i := 15) rfl) rfl ?_
      refine gX4_9 (pc := 28) (rfA hT.2.1) cx (dA ddX4_append (i := 16) rfl) h0 ?_
      refine x_aload_n (pc := 31) cx (dA ddX4_append (i := 17) rfl) rfl ?_
      refine gX4_15 (pc := 32) (congrArg Value.int (fd_sz (V := V) (t := t) (S := S) (x := x) (n := n) (k := k))) cx (dA ddX4_append (i := 18) rfl) h0 ?_
      refine x_iload_n (pc := 35) cx (dA ddX4_append (i := 19) rfl) rfl ?_
      refine x_bipush (pc := 36) (v := nI 8) cx (dA ddX4_append (i := 20) rfl) (by decide) ?_
      refine x_iload_n (pc := 38) cx (dA ddX4_append (i := 21) rfl) rfl ?_
      refine x_imul (pc := 39) cx (dA ddX4_append (i := 22) rfl) ?_
      refine x_ishr (pc := 40) cx (dA ddX4_append (i := 23) rfl) ?_
      refine x_i2b (pc := 41) cx (dA ddX4_append (i := 24) rfl) ?_
      refine x_bastore (pc := 42) cx (dA ddX4_append (i := 25) rfl) (m := 160) (j := S + k) hA (by omega) (by omega) ?_
      refine x_aload_n (pc := 43) cx (dA ddX4_append (i := 26) rfl) rfl ?_
      refine x_dup (pc := 44) cx rfl (dA ddX4_append (i := 27) rfl) ?_
      refine gX4_15 (pc := 45) (congrArg Value.int (fd_sz (V := V) (t := t) (S := S) (x := x) (n := n) (k := k))) cx (dA ddX4_append (i := 28) rfl) h0 ?_
      refine x_iconst (pc := 48) (v := nI 1) cx (dA ddX4_append (i := 29) rfl) (by decide) ?_
      refine x_iadd (pc := 49) cx (dA ddX4_append (i := 30) rfl) ?_
      refine pX4_15 (pc := 50)  cx (dA ddX4_append (i := 31) rfl) h0 ?_
      rw [Int8.toInt8_toInt32, show sI (sAI (feedV V t S x n k) (t + 1) (S + k) (x >>> (nI 8 * nI (n - 1 - k) &&& 31)).toInt8.toInt32) 201 t (nI (S + k) + nI 1) = feedV V t S x n (k + 1) from fd_s]
      refine x_iinc (pc := 53) cx (dA ddX4_append (i := 32) rfl) rfl rfl (by decide) rfl ?_
      refine x_goto (pc := 56) (tgt := 4) cx (dA ddX4_append (i := 33) rfl) (by decide) ?_
      exact x_enter (ih (by omega) _ (by rw [nI_dec _ (by omega)]; omega)) ⟨.inr rfl, .inr rfl, .inr rfl, .inr rfl, trivial⟩
  have L := L4 0 (Nat.zero_le _) (nI n - nI 1) (by rw [pk_sub hn, nI_toInt (by omega)]; omega)
  rw [fd_0 hV.1] at L
  exact x_enter L ⟨.inr rfl, .inr rfl, .inr rfl, .inr rfl, trivial⟩
theorem c_X4_readStatement {l : Launch} {Z : zP} {G : zG} {V : zV} {t h : Nat} (hT : TapeAt Z G t) (hH : HouseAt Z G h) (hth : t ≠ h) {B : Nat → Nat} {S : Nat} (hV : TapeV V t B S) {N : Nat → Nat} {τ : TK} (hk : tk0 B S τ) (hN : HOK N) (hz : zzN N) : CT l Z yX4_readStatement cX4_readStatement 2 (some .boolean) 6 0 0 [.ref t, .ref h] G (rdV V t h N τ) (pI (b2i ((stP B S N τ).1 = true)) G (rdV V t h (stP B S N τ).2.1 (stP B S N τ).2.2)) := by
  refine CT.of (by decide +kernel) (Nat.le_of_ble_eq_true rfl) (fun X hX cx => ?_)
  subst hX
  show Wm Z X 2 G (rdV V t h N τ) 0 0 _ 0 [(0, some (.ref t)), (1, some (.ref h))] []
  have h0 := hT.1
  have hh := hH.1
  have rV := hV.rd hth (N := N) (τ := τ)
  have q3 := hk.2.2.1
  have τ1k := adv_tk (B := B) q3
  have n4 := hN.1.1
  refine x_aload_n (pc := 0) cx (dA ddX4_readStatement (i := 0) rfl) rfl ?_
  refine x_ldcS (pc := 1) (i := 0) (tx := "days") (by decide +kernel) cx (dA ddX4_readStatement (i := 1) rfl) ?_
  refine x_V1 (pc := 3) mX4_46 h0 (c_X4_isWord (i := 0) hT rV rd_202 rd_203 rd_204 hk (by omega)) cx (dA ddX4_readStatement (i := 2) rfl) (kI ?_)
  refine x_if_eq (pc := 6) (tgt := 16) cx (dA ddX4_readStatement (i := 3) rfl) (by decide) (fun c6 => ?_) (fun c6 => ?_)
  · have w0 := b2i_eq c6
    refine x_aload_n (pc := 16) cx (dA ddX4_readStatement (i := 9) rfl) rfl ?_
    refine x_ldcS (pc := 17) (i := 1) (tx := "box") (by decide +kernel) cx (dA ddX4_readStatement (i := 10) rfl) ?_
    refine x_V1 (pc := 19) mX4_46 h0 (c_X4_isWord (i := 1) hT rV rd_202 rd_203 rd_204 hk (by omega)) cx (dA ddX4_readStatement (i := 11) rfl) (kI ?_)
    refine x_if_eq (pc := 22) (tgt := 58) cx (dA ddX4_readStatement (i := 12) rfl) (by decide) (fun c22 => ?_) (fun c22 => ?_)
    · have w1 := b2i_eq c22
      refine x_aload_n (pc := 58) cx (dA ddX4_readStatement (i := 31) rfl) rfl ?_
      refine x_ldcS (pc := 59) (i := 3) (tx := "full") (by decide +kernel) cx (dA ddX4_readStatement (i := 32) rfl) ?_
      refine x_V1 (pc := 61) mX4_46 h0 (c_X4_isWord (i := 3) hT rV rd_202 rd_203 rd_204 hk (by omega)) cx (dA ddX4_readStatement (i := 33) rfl) (kI ?_)
      refine x_if_eq (pc := 64) (tgt := 74) cx (dA ddX4_readStatement (i := 34) rfl) (by decide) (fun c64 => ?_) (fun c64 => ?_)
      · have w3 := b2i_eq c64
        refine x_aload_n (pc := 74) cx (dA ddX4_readStatement (i := 40) rfl) rfl ?_
        refine x_ldcS (pc := 75) (i := 4) (tx := "sort") (by decide +kernel) cx (dA ddX4_readStatement (i := 41) rfl) ?_
        refine x_V1 (pc := 77) mX4_46 h0 (c_X4_isWord (i := 4) hT rV rd_202 rd_203 rd_204 hk (by omega)) cx (dA ddX4_readStatement (i := 42) rfl) (kI ?_)
        refine x_if_eq (pc := 80) (tgt := 103) cx (dA ddX4_readStatement (i := 43) rfl) (by decide) (fun c80 => ?_) (fun c80 => ?_)
        · have w4 := b2i_eq c80
          have e9 : stP B S N τ = (false, N, τ) := by unfold stP; rw [if_neg w0, if_neg w1, if_neg w3, if_neg (fun q => w4 q.1)]
          refine x_iconst (pc := 103) (v := nI 0) cx (dA ddX4_readStatement (i := 54) rfl) (by decide) ?_
          refine x_zreturn (pc := 104) cx (dA ddX4_readStatement (i := 55) rfl) (by first | exact Nat.le_of_ble_eq_true rfl | omega) (by first | exact Nat.le_of_ble_eq_true rfl | omega) rfl ?_
          rw [e9]
          exact rI (b2i_f (fun q => Bool.noConfusion q)).symm
        · have w4 := b2i_ne c80
          refine x_aload_n (pc := 83) cx (dA ddX4_readStatement (i := 44) rfl) rfl ?_
          refine x_V0 (pc := 84) mX4_40 hh (c_X0_sorts hH HouseV_rd hN.1) cx (dA ddX4_readStatement (i := 45) rfl) (kI ?_)
          refine x_iconst (pc := 87) (v := nI 3) cx (dA ddX4_readStatement (i := 46) rfl) (by decide) ?_
          refine x_icmp_ge (pc := 88) (tgt := 103) cx (dA ddX4_readStatement (i := 47) rfl) (by decide) (fun c88 => ?_) (fun c88 => ?_)
          · have c88 := cleT (by omega) (by omega) c88
            have e9 : stP B S N τ = (false, N, τ) := by unfold stP; rw [if_neg w0, if_neg w1, if_neg w3, if_neg (fun q => absurd q.2 (by omega))]
            refine x_iconst (pc := 103) (v := nI 0) cx (dA ddX4_readStatement (i := 54) rfl) (by decide) ?_
            refine x_zreturn (pc := 104) cx (dA ddX4_readStatement (i := 55) rfl) (by first | exact Nat.le_of_ble_eq_true rfl | omega) (by first | exact Nat.le_of_ble_eq_true rfl | omega) rfl ?_
            rw [e9]
            exact rI (b2i_f (fun q => Bool.noConfusion q)).symm
          · have c88 := cleF (by omega) (by omega) c88
            have e9 : stP B S N τ = bnd (srS B S N (5 + 5 * N 4) (adv B S τ.2.2) 5) fun N τ => (true, numP N 4 (N 4 + 1), τ) := by unfold stP; rw [if_neg w0, if_neg w1, if_neg w3, if_pos ⟨w4, c88⟩, hz.id c88]
            refine x_aload_n (pc := 91) cx (dA ddX4_readStatement (i := 48) rfl) rfl ?_
            refine x_aload_n (pc := 92) cx (dA ddX4_readStatement (i := 49) rfl) rfl ?_
            refine x_V1 (pc := 93) mX4_62 h0 (c_X4_readSort hT hH hth hV hk hN.1 c88 (hz _ (Nat.le_refl _) c88)) cx (dA ddX4_readStatement (i := 50) rfl) (kI ?_)
            refine x_if_eq (pc := 96) (tgt := 103) cx (dA ddX4_readStatement (i := 51) rfl) (by decide) (fun c96 => ?_) (fun c96 => ?_)
            · rw [← e9] at c96 ⊢
              have b3 := b2i_eq c96
              refine x_iconst (pc := 103) (v := nI 0) cx (dA ddX4_readStatement (i := 54) rfl) (by decide) ?_
              refine x_zreturn (pc := 104) cx (dA ddX4_readStatement (i := 55) rfl) (by first | exact Nat.le_of_ble_eq_true rfl | omega) (by first | exact Nat.le_of_ble_eq_true rfl | omega) rfl ?_
              exact rI (b2i_f b3).symm
            · rw [← e9] at c96 ⊢
              have b3 := b2i_ne c96
              refine x_iconst (pc := 99) (v := nI 1) cx (dA ddX4_readStatement (i := 52) rfl) (by decide) ?_
              refine x_goto (pc := 100) (tgt := 104) cx (dA ddX4_readStatement (i := 53) rfl) (by decide) ?_
              refine x_zreturn (pc := 104) cx (dA ddX4_readStatement (i := 55) rfl) (by first | exact Nat.le_of_ble_eq_true rfl | omega) (by first | exact Nat.le_of_ble_eq_true rfl | omega) rfl ?_
              exact rI (b2i_t b3).symm
      · have w3 := b2i_ne c64
        refine x_aload_n (pc := 67) cx (dA ddX4_readStatement (i := 35) rfl) rfl ?_
        refine x_aload_n (pc := 68) cx (dA ddX4_readStatement (i := 36) rfl) rfl ?_
        refine x_iconst (pc := 69) (v := nI 3) cx (dA ddX4_readStatement (i := 37) rfl) (by decide) ?_
        refine x_V2 (pc := 70) mX4_50 h0 (c_X4_readHouseNumber (w := 3) (lo := 0) (hi := 3) hT hH hth hV hk (by omega) rfl rfl) cx (dA ddX4_readStatement (i := 38) rfl) (kI ?_)
        refine x_zreturn (pc := 73) cx (dA ddX4_readStatement (i := 39) rfl) (by first | exact Nat.le_of_ble_eq_true rfl | omega) (by first | exact Nat.le_of_ble_eq_true rfl | omega) b2i_nar ?_
        have e9 : stP B S N τ = rdN B S N 3 0 3 τ := by unfold stP; rw [if_neg w0, if_neg w1, if_pos w3]
        rw [e9]
        exact rI rfl
    · have w1 := b2i_ne c22
      have e8 : stP B S N τ = bnd (rdN B S N 1 0 99 τ) fun N τ => tdN B S 2 N 2 1 40 τ := by unfold stP; rw [if_neg w0, if_pos w1]
      refine x_aload_n (pc := 25) cx (dA ddX4_readStatement (i := 13) rfl) rfl ?_
      refine x_aload_n (pc := 26) cx (dA ddX4_readStatement (i := 14) rfl) rfl ?_
      refine x_iconst (pc := 27) (v := nI 1) cx (dA ddX4_readStatement (i := 15) rfl) (by decide) ?_
      refine x_V2 (pc := 28) mX4_50 h0 (c_X4_readHouseNumber (w := 1) (lo := 0) (hi := 99) hT hH hth hV hk (by omega) rfl rfl) cx (dA ddX4_readStatement (i := 16) rfl) (kI ?_)
      have r1 := hV.rd hth (N := (rdN B S N 1 0 99 τ).2.1) (τ := (rdN B S N 1 0 99 τ).2.2)
      have k1 := (rdN_inv (N := N) (i := 1) (lo := 0) (hi := 99) hk).1
      refine x_if_eq (pc := 31) (tgt := 56) cx (dA ddX4_readStatement (i := 17) rfl) (by decide) (fun c31 => ?_) (fun c31 => ?_)
      · have b1 := b2i_eq c31
        have e9 : stP B S N τ = (rdN B S N 1 0 99 τ) := e8.trans (bnd_f b1)
        refine x_iconst (pc := 56) (v := nI 0) cx (dA ddX4_readStatement (i := 29) rfl) (by decide) ?_
        refine x_zreturn (pc := 57) cx (dA ddX4_readStatement (i := 30) rfl) (by first | exact Nat.le_of_ble_eq_true rfl | omega) (by first | exact Nat.le_of_ble_eq_true rfl | omega) rfl ?_
        rw [e9]
        exact rI (b2i_f b1).symm
      · have b1 := b2i_ne c31
        have e9 : stP B S N τ = tdN B S 2 (rdN B S N 1 0 99 τ).2.1 2 1 40 (rdN B S N 1 0 99 τ).2.2 := e8.trans (bnd_t b1)
        refine x_aload_n (pc := 34) cx (dA ddX4_readStatement (i := 18) rfl) rfl ?_
        refine x_ldcS (pc := 35) (i := 2) (tx := "room") (by decide +kernel) cx (dA ddX4_readStatement (i := 19) rfl) ?_
        refine x_V1 (pc := 37) mX4_46 h0 (c_X4_isWord (i := 2) hT r1 rd_202 rd_203 rd_204 k1 (by omega)) cx (dA ddX4_readStatement (i := 20) rfl) (kI ?_)
        refine x_if_eq (pc := 40) (tgt := 56) cx (dA ddX4_readStatement (i := 21) rfl) (by decide) (fun c40 => ?_) (fun c40 => ?_)
        · have w2 := b2i_eq c40
          have e7 : stP B S N τ = (false, (rdN B S N 1 0 99 τ).2.1, (rdN B S N 1 0 99 τ).2.2) := e9.trans (if_neg w2)
          refine x_iconst (pc := 56) (v := nI 0) cx (dA ddX4_readStatement (i := 29) rfl) (by decide) ?_
          refine x_zreturn (pc := 57) cx (dA ddX4_readStatement (i := 30) rfl) (by first | exact Nat.le_of_ble_eq_true rfl | omega) (by first | exact Nat.le_of_ble_eq_true rfl | omega) rfl ?_
          rw [e7]
          exact rI (b2i_f (fun q => Bool.noConfusion q)).symm
        · have w2 := b2i_ne c40
          have e7 : stP B S N τ = rdN B S (rdN B S N 1 0 99 τ).2.1 2 1 40 (rdN B S N 1 0 99 τ).2.2 := e9.trans (if_pos w2)
          refine x_aload_n (pc := 43) cx (dA ddX4_readStatement (i := 22) rfl) rfl ?_
          refine x_aload_n (pc := 44) cx (dA ddX4_readStatement (i := 23) rfl) rfl ?_
          refine x_iconst (pc := 45) (v := nI 2) cx (dA ddX4_readStatement (i := 24) rfl) (by decide) ?_
          refine x_V2 (pc := 46) mX4_50 h0 (c_X4_readHouseNumber (w := 2) (lo := 1) (hi := 40) hT hH hth hV k1 (by omega) rfl rfl) cx (dA ddX4_readStatement (i := 25) rfl) (kI ?_)
          refine x_if_eq (pc := 49) (tgt := 56) cx (dA ddX4_readStatement (i := 26) rfl) (by decide) (fun c49 => ?_) (fun c49 => ?_)
          · have b2 := b2i_eq c49
            refine x_iconst (pc := 56) (v := nI 0) cx (dA ddX4_readStatement (i := 29) rfl) (by decide) ?_
            refine x_zreturn (pc := 57) cx (dA ddX4_readStatement (i := 30) rfl) (by first | exact Nat.le_of_ble_eq_true rfl | omega) (by first | exact Nat.le_of_ble_eq_true rfl | omega) rfl ?_
            rw [e7]
            exact rI (b2i_f b2).symm
          · have b2 := b2i_ne c49
            refine x_iconst (pc := 52) (v := nI 1) cx (dA ddX4_readStatement (i := 27) rfl) (by decide) ?_
            refine x_goto (pc := 53) (tgt := 57) cx (dA ddX4_readStatement (i := 28) rfl) (by decide) ?_
            refine x_zreturn (pc := 57) cx (dA ddX4_readStatement (i := 30) rfl) (by first | exact Nat.le_of_ble_eq_true rfl | omega) (by first | exact Nat.le_of_ble_eq_true rfl | omega) rfl ?_
            rw [e7]
            exact rI (b2i_t b2).symm
  · have w0 := b2i_ne c6
    refine x_aload_n (pc := 9) cx (dA ddX4_readStatement (i := 4) rfl) rfl ?_
    refine x_aload_n (pc := 10) cx (dA ddX4_readStatement (i := 5) rfl) rfl ?_
    refine x_iconst (pc := 11) (v := nI 0) cx (dA ddX4_readStatement (i := 6) rfl) (by decide) ?_
    refine x_V2 (pc := 12) mX4_50 h0 (c_X4_readHouseNumber (w := 0) (lo := 1) (hi := 6) hT hH hth hV hk (by omega) rfl rfl) cx (dA ddX4_readStatement (i := 7) rfl) (kI ?_)
    refine x_zreturn (pc := 15) cx (dA ddX4_readStatement (i := 8) rfl) (by first | exact Nat.le_of_ble_eq_true rfl | omega) (by first | exact Nat.le_of_ble_eq_true rfl | omega) b2i_nar ?_
    have e9 : stP B S N τ = rdN B S N 0 1 6 τ := by unfold stP; rw [if_pos w0]
    rw [e9]
    exact rI rfl
theorem c_X4_readInto {l : Launch} {Z : zP} {G : zG} {V : zV} {t h : Nat} (hT : TapeAt Z G t) (hH : HouseAt Z G h) (hth : t ≠ h) {B : Nat → Nat} {S : Nat} (hV : TapeV V t B S) : CT l Z yX4_readInto cX4_readInto 3 (some .int) 7 0 0 [.ref t, .ref h] G V (fun r G2 V2 => ∃ τ, pI (nhV (rdL B S 161 clearP (adv B S 0)).1) G (rdV V t h (rdL B S 161 clearP (adv B S 0)).2 τ) r G2 V2) := by
  refine CT.of (by decide +kernel) (Nat.le_of_ble_eq_true rfl) (fun X hX cx => ?_)
  subst hX
  show Wm Z X 3 G V 0 0 _ 0 [(0, some (.ref t)), (1, some (.ref h))] []
  have h0 := hT.1
  have hh := hH.1
  have hS := hV.2.2.1
  refine x_aload_n (pc := 0) cx (dA ddX4_readInto (i := 0) rfl) rfl ?_
  refine x_V0 (pc := 1) mX4_19 hh (c_X0_clear hH) cx (dA ddX4_readInto (i := 1) rfl) (kV ?_)
  rw [show rAI V (h + 1) 0 20 (fun j => nI (clearP j)) = setN V h clearP from rfl]
  obtain ⟨k0, f0, o0, e0⟩ : ∃ k0 f0 o0, setN V h clearP = tokV (setN V h clearP) t k0 f0 o0 := ⟨_, _, _, (tok_id _ _).symm⟩
  rw [e0]
  refine x_aload_n (pc := 4) cx (dA ddX4_readInto (i := 2) rfl) rfl ?_
  refine x_iconst (pc := 5) (v := nI 0) cx (dA ddX4_readInto (i := 3) rfl) (by decide) ?_
  refine pX4_24 (pc := 6)  cx (dA ddX4_readInto (i := 4) rfl) h0 ?_
  rw [tok_204]
  refine x_aload_n (pc := 9) cx (dA ddX4_readInto (i := 5) rfl) rfl ?_
  refine x_V0 (pc := 10) mX4_27 h0 (c_X4_advance hT (TapeV.tok (TapeV.setN hth hV)) (Nat.zero_le _) tok_g204) cx (dA ddX4_readInto (i := 6) rfl) (kV ?_)
  rw [tok_tok]
  refine x_iconst (pc := 13) (v := nI 0) cx (dA ddX4_readInto (i := 7) rfl) (by decide) ?_
  refine x_istore_n (pc := 14) cx (dA ddX4_readInto (i := 8) rfl) (by decide) rfl ?_
  have L15 : ∀ i, i ≤ 161 → ∀ (N : Nat → Nat) (τ : TK), HOK N → zzN N → tk0 B S τ → i ≤ τ.2.2 → rdL B S (161 - i) N τ = (rdL B S 161 clearP (adv B S 0)) → Wm Z X 3 G (rdV V t h N τ) 0 0 (rQ Z X 0 0 (fun r G2 V2 => ∃ τ, pI (nhV (rdL B S 161 clearP (adv B S 0)).1) G (rdV V t h (rdL B S 161 clearP (adv B S 0)).2 τ) r G2 V2)) 15 [(0, some (.ref t)), (1, some (.ref h)), (2, some (.int (nI i)))] [] := by
    refine lpU 161 (fun i hi ih => ?_)
    intro N τ hN hz hk hp hr
    have q3 := hk.2.2.1
    have rV := hV.rd hth (N := N) (τ := τ)
    refine x_iload_n (pc := 15) cx (dA ddX4_readInto (i := 9) rfl) rfl ?_
    refine x_sipush (pc := 16) (v := nI 160) cx (dA ddX4_readInto (i := 10) rfl) (by decide) ?_
    refine x_icmp_gt (pc := 19) (tgt := 81) cx (dA ddX4_readInto (i := 11) rfl) (by decide) (fun c19 => absurd c19 (fun q => absurd (cltT (by omega) (by omega) q) (by omega))) (fun c19 => ?_)
    refine x_aload_n (pc := 22) cx (dA ddX4_readInto (i := 12) rfl) rfl ?_
    refine x_aload_n (pc := 23) cx (dA ddX4_readInto (i := 13) rfl) rfl ?_
    refine x_V1 (pc := 24) mX4_30 h0 (c_X4_readStatement hT hH hth hV hk hN hz) cx (dA ddX4_readInto (i := 14) rfl) (kI ?_)
    have iv := stP_inv (N := N) hk hN hz
    obtain ⟨d, hd⟩ : ∃ d, 161 - i = d + 1 := ⟨160 - i, by omega⟩
    rw [hd] at hr
    have e8 : rdL B S (d + 1) N τ = if (stP B S N τ).1 = false then (some (stP B S N τ).2.2.2.1, (stP B S N τ).2.1) else if (stP B S N τ).2.2.1 = 0 then (if 0 < (stP B S N τ).2.1 4 then none else some S, (stP B S N τ).2.1) else if (stP B S N τ).2.2.1 = 3 then rdL B S d (stP B S N τ).2.1 (adv B S (stP B S N τ).2.2.2.2) else (some (stP B S N τ).2.2.2.1, (stP B S N τ).2.1) := rfl
    have r2 := hV.rd hth (N := (stP B S N τ).2.1) (τ := (stP B S N τ).2.2)
    refine x_if_ne (pc := 27) (tgt := 35) cx (dA ddX4_readInto (i := 15) rfl) (by decide) (fun c27 => ?_) (fun c27 => ?_)
    · have ok := b2i_ne c27
      rw [if_neg (by rw [ok]; exact fun q => Bool.noConfusion q)] at e8
      obtain ⟨pg, hN2, hz2⟩ := iv.2 ok
      have k2 := iv.1
      have k4 := k2.2.2.2.1
      refine x_aload_n (pc := 35) cx (dA ddX4_readInto (i := 19) rfl) rfl ?_
      refine gX4_37 (pc := 36) (congrArg Value.int rd_202) cx (dA ddX4_readInto (i := 20) rfl) h0 ?_
      refine x_if_ne (pc := 39) (tgt := 58) cx (dA ddX4_readInto (i := 21) rfl) (by decide) (fun c39 => ?_) (fun c39 => ?_)
      · have n0 : (stP B S N τ).2.2.1 ≠ 0 := fun e => c39 (by rw [e]; rfl)
        rw [if_neg n0] at e8
        refine x_aload_n (pc := 58) cx (dA ddX4_readInto (i := 30) rfl) rfl ?_
        refine gX4_37 (pc := 59) (congrArg Value.int rd_202) cx (dA ddX4_readInto (i := 31) rfl) h0 ?_
        refine x_iconst (pc := 62) (v := nI 3) cx (dA ddX4_readInto (i := 32) rfl) (by decide) ?_
        refine x_icmp_eq (pc := 63) (tgt := 71) cx (dA ddX4_readInto (i := 33) rfl) (by decide) (fun c63 => ?_) (fun c63 => ?_)
        · have c63 := ceqT (by omega) (by omega) c63
          rw [if_pos c63] at e8
          refine x_aload_n (pc := 71) cx (dA ddX4_readInto (i := 37) rfl) rfl ?_
          refine x_V0 (pc := 72) mX4_27 h0 (c_X4_advance hT r2 k2.2.2.1 rd_204) cx (dA ddX4_readInto (i := 38) rfl) (kV ?_)
          rw [rd_adv]
          have ak := adv_ok (B := B) k2.2.2.1
          have ak2 := adv_tk (B := B) k2.2.2.1
          refine x_iinc (pc := 75) cx (dA ddX4_readInto (i := 39) rfl) rfl (iinc1 _) (by decide) rfl ?_
          refine x_goto (pc := 78) (tgt := 15) cx (dA ddX4_readInto (i := 40) rfl) (by decide) ?_
          exact x_enter (ih (by omega) (stP B S N τ).2.1 (adv B S (stP B S N τ).2.2.2.2) hN2 hz2 ak2 (by have := ak.1; have := ak.2.1; omega) (by rw [← hr, e8, show 161 - (i + 1) = d by omega])) ⟨.inr rfl, .inr rfl, .inr rfl, trivial⟩
        · have c63 := ceqF (by omega) (by omega) c63
          rw [if_neg c63] at e8
          refine x_aload_n (pc := 66) cx (dA ddX4_readInto (i := 34) rfl) rfl ?_
          refine gX4_34 (pc := 67) (congrArg Value.int rd_203) cx (dA ddX4_readInto (i := 35) rfl) h0 ?_
          refine x_ireturn (pc := 70) cx (dA ddX4_readInto (i := 36) rfl) (by first | exact Nat.le_of_ble_eq_true rfl | omega) (by first | exact Nat.le_of_ble_eq_true rfl | omega) ?_
          rw [← hr, e8]
          exact ⟨_, rI rfl⟩
      · have z0 : (stP B S N τ).2.2.1 = 0 := nI_inj (by omega) (by omega) c39
        rw [if_pos z0] at e8
        refine x_aload_n (pc := 42) cx (dA ddX4_readInto (i := 22) rfl) rfl ?_
        refine x_V0 (pc := 43) mX4_40 hh (c_X0_sorts hH HouseV_rd hN2.1) cx (dA ddX4_readInto (i := 23) rfl) (kI ?_)
        refine x_if_le (pc := 46) (tgt := 53) cx (dA ddX4_readInto (i := 24) rfl) (by decide) (fun c46 => ?_) (fun c46 => ?_)
        · have c46 := cleT (b := 0) (by have := hN2.1.1; omega) (by omega) c46
          rw [if_neg (by omega)] at e8
          refine x_aload_n (pc := 53) cx (dA ddX4_readInto (i := 27) rfl) rfl ?_
          refine gX4_15 (pc := 54) (congrArg Value.int r2.1) cx (dA ddX4_readInto (i := 28) rfl) h0 ?_
          refine x_ireturn (pc := 57) cx (dA ddX4_readInto (i := 29) rfl) (by first | exact Nat.le_of_ble_eq_true rfl | omega) (by first | exact Nat.le_of_ble_eq_true rfl | omega) ?_
          rw [← hr, e8]
          exact ⟨_, rI rfl⟩
        · have c46 := cleF (b := 0) (by have := hN2.1.1; omega) (by omega) c46
          rw [if_pos c46] at e8
          refine x_iconst (pc := 49) (v := -1) cx (dA ddX4_readInto (i := 25) rfl) (by decide) ?_
          refine x_goto (pc := 50) (tgt := 57) cx (dA ddX4_readInto (i := 26) rfl) (by decide) ?_
          refine x_ireturn (pc := 57) cx (dA ddX4_readInto (i := 29) rfl) (by first | exact Nat.le_of_ble_eq_true rfl | omega) (by first | exact Nat.le_of_ble_eq_true rfl | omega) ?_
          rw [← hr, e8]
          exact ⟨_, rI rfl⟩
    · have nok := b2i_eq c27
      rw [if_pos (by cases h : (stP B S N τ).1; rfl; exact absurd h nok)] at e8
      refine x_aload_n (pc := 30) cx (dA ddX4_readInto (i := 16) rfl) rfl ?_
      refine gX4_34 (pc := 31) (congrArg Value.int rd_203) cx (dA ddX4_readInto (i := 17) rfl) h0 ?_
      refine x_ireturn (pc := 34) cx (dA ddX4_readInto (i := 18) rfl) (by first | exact Nat.le_of_ble_eq_true rfl | omega) (by first | exact Nat.le_of_ble_eq_true rfl | omega) ?_
      rw [← hr, e8]
      exact ⟨_, rI rfl⟩
  exact x_enter (L15 0 (Nat.zero_le _) clearP (adv B S 0) HOK_clear zzN_clear (adv_tk (Nat.zero_le _)) (Nat.zero_le _) rfl) ⟨.inr rfl, .inr rfl, .inr rfl, trivial⟩
theorem c_X0_addSortsOf {l : Launch} {Z : zP} {G : zG} {V : zV} {h o : Nat} (hH : HouseAt Z G h) (oH : HouseAt Z G o) (hho : h ≠ o) {N M : Nat → Nat} (oV : HouseV V o M) (hB : HouseB N) (oB : HouseB M) (h3 : N 4 + M 4 ≤ 3) : CT l Z yX0_addSortsOf cX0_addSortsOf 4 none 2 0 0 [.ref h, .ref o] G (setN V h N) (pV G (setN V h (addO N M (M 4)))) := by
  refine CT.of (by decide +kernel) (Nat.le_of_ble_eq_true rfl) (fun X hX cx => ?_)
  subst hX
  show Wm Z X 4 G (setN V h N) 0 0 _ 0 [(0, some (.ref h)), (1, some (.ref o))] []
  have h0 := hH.1
  have oo := oH.1
  have m3 := oB.1
  have n3 := hB.1
  refine x_iconst (pc := 0) (v := nI 0) cx (dA ddX0_addSortsOf (i := 0) rfl) (by decide) ?_
  refine x_istore_n (pc := 1) cx (dA ddX0_addSortsOf (i := 1) rfl) (by decide) rfl ?_
  have L2 : ∀ s, s ≤ M 4 → Wm Z X 4 G (setN V h (addO N M s)) 0 0 (rQ Z X 0 0 (pV G (setN V h (addO N M (M 4))))) 2 [(0, some (.ref h)), (1, some (.ref o)), (2, some (.int (nI s)))] [] := by
    refine lpU (M 4) (fun s hs ih => ?_)
    have s4 := addO_4 (N := N) (M := M) s
    have sB : HouseB (addO N M s) := addO_B hB oB h3 s hs
    refine x_iload_n (pc := 2) cx (dA ddX0_addSortsOf (i := 2) rfl) rfl ?_
    refine x_aload_n (pc := 3) cx (dA ddX0_addSortsOf (i := 3) rfl) rfl ?_
    refine x_V0 (pc := 4) mX0_35 oo (c_X0_sorts oH (HouseV_setN hho oV) oB) cx (dA ddX0_addSortsOf (i := 4) rfl) (kI ?_)
    refine x_icmp_ge (pc := 7) (tgt := 63) cx (dA ddX0_addSortsOf (i := 5) rfl) (by decide) (fun c7 => ?_) (fun c7 => ?_)
    · have c7 := cleT (by omega) (by omega) c7
      have es : s = M 4 := by omega
      subst es
      refine x_return (pc := 63) cx (dA ddX0_addSortsOf (i := 35) rfl) (by first | exact Nat.le_of_ble_eq_true rfl | omega) (by first | exact Nat.le_of_ble_eq_true rfl | omega) ?_
      exact ⟨rfl, rfl, rfl⟩
    · have c7 := cleF (by omega) (by omega) c7
      refine x_aload_n (pc := 10) cx (dA ddX0_addSortsOf (i := 6) rfl) rfl ?_
      refine x_V0 (pc := 11) mX0_35 h0 (c_X0_sorts hH HouseV_set0 sB) cx (dA ddX0_addSortsOf (i := 7) rfl) (kI ?_)
      refine x_iconst (pc := 14) (v := nI 3) cx (dA ddX0_addSortsOf (i := 8) rfl) (by decide) ?_
      rw [s4]
      refine x_icmp_ge (pc := 15) (tgt := 63) cx (dA ddX0_addSortsOf (i := 9) rfl) (by decide) (fun c15 => ?_) (fun c15 => ?_)
      · have c15 := cleT (by omega) (by omega) c15
        exact absurd c15 (by omega)
      · have c15 := cleF (by omega) (by omega) c15
        refine x_iconst (pc := 18) (v := nI 0) cx (dA ddX0_addSortsOf (i := 10) rfl) (by decide) ?_
        refine x_istore_n (pc := 19) cx (dA ddX0_addSortsOf (i := 11) rfl) (by decide) rfl ?_
        have L20 : ∀ w, w ≤ 5 → Wm Z X 4 G (setN V h (addI (addO N M s) M s w)) 0 0 (rQ Z X 0 0 (pV G (setN V h (addO N M (M 4))))) 20 [(0, some (.ref h)), (1, some (.ref o)), (2, some (.int (nI s))), (3, some (.int (nI w)))] [] := by
          refine lpU 5 (fun w hw ih2 => ?_)
          have w4 : (addI (addO N M s) M s w) 4 = N 4 + s := (addI_4 w).trans s4
          have wB : HouseB (addI (addO N M s) M s w) := addI_B sB oB (by omega) w hw
          refine x_iload_n (pc := 20) cx (dA ddX0_addSortsOf (i := 12) rfl) rfl ?_
          refine x_iconst (pc := 21) (v := nI 5) cx (dA ddX0_addSortsOf (i := 13) rfl) (by decide) ?_
          refine x_icmp_ge (pc := 22) (tgt := 46) cx (dA ddX0_addSortsOf (i := 14) rfl) (by decide) (fun c22 => ?_) (fun c22 => ?_)
          · have c22 := cleT (by omega) (by omega) c22
            have ew : w = 5 := by omega
            subst ew
            refine x_aload_n (pc := 46) cx (dA ddX0_addSortsOf (i := 26) rfl) rfl ?_
            refine x_iconst (pc := 47) (v := nI 4) cx (dA ddX0_addSortsOf (i := 27) rfl) (by decide) ?_
            refine x_aload_n (pc := 48) cx (dA ddX0_addSortsOf (i := 28) rfl) rfl ?_
            refine x_V0 (pc := 49) mX0_35 h0 (c_X0_sorts hH HouseV_set0 wB) cx (dA ddX0_addSortsOf (i := 29) rfl) (kI ?_)
            rw [w4]
            refine x_iconst (pc := 52) (v := nI 1) cx (dA ddX0_addSortsOf (i := 30) rfl) (by decide) ?_
            refine x_iadd (pc := 53) cx (dA ddX0_addSortsOf (i := 31) rfl) ?_
            rw [nI_add]
            refine x_V2 (pc := 54) mX0_15 h0 (c_X0_putNumber hH (by omega)) cx (dA ddX0_addSortsOf (i := 32) rfl) (kV ?_)
            rw [setN_put (by omega), show numP (addI (addO N M s) M s 5) 4 (N 4 + s + 1) = addO N M (s + 1) from by rw [← s4]; rfl]
            refine x_iinc (pc := 57) cx (dA ddX0_addSortsOf (i := 33) rfl) rfl (iinc1 _) (by decide) rfl ?_
            refine x_goto (pc := 60) (tgt := 2) cx (dA ddX0_addSortsOf (i := 34) rfl) (by decide) ?_
            exact x_enter (ih (by omega)) ⟨.inr rfl, .inr rfl, .inr rfl, trivial⟩
          · have c22 := cleF (by omega) (by omega) c22
            refine x_aload_n (pc := 25) cx (dA ddX0_addSortsOf (i := 15) rfl) rfl ?_
            refine x_aload_n (pc := 26) cx (dA ddX0_addSortsOf (i := 16) rfl) rfl ?_
            refine x_V0 (pc := 27) mX0_35 h0 (c_X0_sorts hH HouseV_set0 wB) cx (dA ddX0_addSortsOf (i := 17) rfl) (kI ?_)
            rw [w4]
            refine x_iload_n (pc := 30) cx (dA ddX0_addSortsOf (i := 18) rfl) rfl ?_
            refine x_aload_n (pc := 31) cx (dA ddX0_addSortsOf (i := 19) rfl) rfl ?_
            refine x_iload_n (pc := 32) cx (dA ddX0_addSortsOf (i := 20) rfl) rfl ?_
            refine x_iload_n (pc := 33) cx (dA ddX0_addSortsOf (i := 21) rfl) rfl ?_
            refine x_V2 (pc := 34) mX0_45 oo (c_X0_sortNumber oH (HouseV_setN hho oV) oB (by omega) (by omega)) cx (dA ddX0_addSortsOf (i := 22) rfl) (kI ?_)
            refine x_V3 (pc := 37) mX0_51 h0 (c_X0_putSortNumber hH (by omega) (by omega)) cx (dA ddX0_addSortsOf (i := 23) rfl) (kV ?_)
            rw [setN_put (by omega), show numP (addI (addO N M s) M s w) (5 + 5 * (N 4 + s) + w) (M (5 + 5 * s + w)) = addI (addO N M s) M s (w + 1) from by rw [← s4]; rfl]
            refine x_iinc (pc := 40) cx (dA ddX0_addSortsOf (i := 24) rfl) rfl (iinc1 _) (by decide) rfl ?_
            refine x_goto (pc := 43) (tgt := 20) cx (dA ddX0_addSortsOf (i := 25) rfl) (by decide) ?_
            exact x_enter (ih2 (by omega)) ⟨.inr rfl, .inr rfl, .inr rfl, .inr rfl, trivial⟩
        exact x_enter (L20 0 (Nat.zero_le _)) ⟨.inr rfl, .inr rfl, .inr rfl, .inr rfl, trivial⟩
  exact x_enter (L2 0 (Nat.zero_le _)) ⟨.inr rfl, .inr rfl, .inr rfl, trivial⟩
theorem c_X3_mayBe {l : Launch} {Z : zP} {G : zG} {V : zV} {κ x : Int32} : CT l Z yX3_mayBe cX3_mayBe 2 (some .boolean) 1 0 0 [.int κ, .int x] G V (pI (b2i (mayP κ x)) G V) := by
  refine CT.of (by decide +kernel) (Nat.le_of_ble_eq_true rfl) (fun X hX cx => ?_)
  subst hX
  show Wm Z X 2 G V 0 0 _ 0 [(0, some (.int κ)), (1, some (.int x))] []
  have t1 : (nI 1).toInt = 1 := rfl
  have t6 : (nI 6).toInt = 6 := rfl
  have t99 : (nI 99).toInt = 99 := rfl
  refine x_iload_n (pc := 0) cx (dA ddX3_mayBe (i := 0) rfl) rfl ?_
  by_cases c1_0 : κ = 1
  · refine x_tabIn (pc := 1) (v := 1) (tgt := 36) cx (dA ddX3_mayBe (i := 1) rfl) (by rw [c1_0]; decide) (by decide) (by decide) rfl (by decide) ?_
    refine x_iload_n (pc := 36) cx (dA ddX3_mayBe (i := 2) rfl) rfl ?_
    refine x_if_lt (pc := 37) (tgt := 50) cx (dA ddX3_mayBe (i := 3) rfl) (by decide) (fun c37 => ?_) (fun c37 => ?_)
    · refine x_iconst (pc := 50) (v := nI 0) cx (dA ddX3_mayBe (i := 9) rfl) (by decide) ?_
      refine x_zreturn (pc := 51) cx (dA ddX3_mayBe (i := 10) rfl) (by first | exact Nat.le_of_ble_eq_true rfl | omega) (by first | exact Nat.le_of_ble_eq_true rfl | omega) rfl ?_
      have t1 : (nI 1).toInt = 1 := rfl
      have t6 : (nI 6).toInt = 6 := rfl
      have t99 : (nI 99).toInt = 99 := rfl
      have ek : κ.toInt = 1 := by rw [c1_0]; rfl
      (try simp only [i32_lt, i32_le, toI_0, t99] at c37)
      (try simp only [i32_lt, i32_le, toI_0, t99] at c43)
      refine rI ?_
      first | exact (b2i_t (by unfold mayP; omega)).symm | exact (b2i_f (by unfold mayP; omega)).symm
    · refine x_iload_n (pc := 40) cx (dA ddX3_mayBe (i := 4) rfl) rfl ?_
      refine x_bipush (pc := 41) (v := nI 99) cx (dA ddX3_mayBe (i := 5) rfl) (by decide) ?_
      refine x_icmp_gt (pc := 43) (tgt := 50) cx (dA ddX3_mayBe (i := 6) rfl) (by decide) (fun c43 => ?_) (fun c43 => ?_)
      · refine x_iconst (pc := 50) (v := nI 0) cx (dA ddX3_mayBe (i := 9) rfl) (by decide) ?_
        refine x_zreturn (pc := 51) cx (dA ddX3_mayBe (i := 10) rfl) (by first | exact Nat.le_of_ble_eq_true rfl | omega) (by first | exact Nat.le_of_ble_eq_true rfl | omega) rfl ?_
        have t1 : (nI 1).toInt = 1 := rfl
        have t6 : (nI 6).toInt = 6 := rfl
        have t99 : (nI 99).toInt = 99 := rfl
        have ek : κ.toInt = 1 := by rw [c1_0]; rfl
        (try simp only [i32_lt, i32_le, toI_0, t99] at c37)
        (try simp only [i32_lt, i32_le, toI_0, t99] at c43)
        refine rI ?_
        first | exact (b2i_t (by unfold mayP; omega)).symm | exact (b2i_f (by unfold mayP; omega)).symm
      · refine x_iconst (pc := 46) (v := nI 1) cx (dA ddX3_mayBe (i := 7) rfl) (by decide) ?_
        refine x_goto (pc := 47) (tgt := 51) cx (dA ddX3_mayBe (i := 8) rfl) (by decide) ?_
        refine x_zreturn (pc := 51) cx (dA ddX3_mayBe (i := 10) rfl) (by first | exact Nat.le_of_ble_eq_true rfl | omega) (by first | exact Nat.le_of_ble_eq_true rfl | omega) rfl ?_
        have t1 : (nI 1).toInt = 1 := rfl
        have t6 : (nI 6).toInt = 6 := rfl
        have t99 : (nI 99).toInt = 99 := rfl
        have ek : κ.toInt = 1 := by rw [c1_0]; rfl
        (try simp only [i32_lt, i32_le, toI_0, t99] at c37)
        (try simp only [i32_lt, i32_le, toI_0, t99] at c43)
        refine rI ?_
        first | exact (b2i_t (by unfold mayP; omega)).symm | exact (b2i_f (by unfold mayP; omega)).symm
  by_cases c1_1 : κ = 2
  · refine x_tabIn (pc := 1) (v := 2) (tgt := 52) cx (dA ddX3_mayBe (i := 1) rfl) (by rw [c1_1]; decide) (by decide) (by decide) rfl (by decide) ?_
    refine x_iload_n (pc := 52) cx (dA ddX3_mayBe (i := 11) rfl) rfl ?_
    refine x_iconst (pc := 53) (v := nI 1) cx (dA ddX3_mayBe (i := 12) rfl) (by decide) ?_
    refine x_icmp_lt (pc := 54) (tgt := 67) cx (dA ddX3_mayBe (i := 13) rfl) (by decide) (fun c54 => ?_) (fun c54 => ?_)
    · refine x_iconst (pc := 67) (v := nI 0) cx (dA ddX3_mayBe (i := 19) rfl) (by decide) ?_
      refine x_zreturn (pc := 68) cx (dA ddX3_mayBe (i := 20) rfl) (by first | exact Nat.le_of_ble_eq_true rfl | omega) (by first | exact Nat.le_of_ble_eq_true rfl | omega) rfl ?_
      have t1 : (nI 1).toInt = 1 := rfl
      have t6 : (nI 6).toInt = 6 := rfl
      have t99 : (nI 99).toInt = 99 := rfl
      have ek : κ.toInt = 2 := by rw [c1_1]; rfl
      (try simp only [i32_lt, i32_le, toI_0, t1] at c54)
      (try simp only [i32_lt, i32_le, toI_0, t6] at c60)
      refine rI ?_
      first | exact (b2i_t (by unfold mayP; omega)).symm | exact (b2i_f (by unfold mayP; omega)).symm
    · refine x_iload_n (pc := 57) cx (dA ddX3_mayBe (i := 14) rfl) rfl ?_
      refine x_bipush (pc := 58) (v := nI 6) cx (dA ddX3_mayBe (i := 15) rfl) (by decide) ?_
      refine x_icmp_gt (pc := 60) (tgt := 67) cx (dA ddX3_mayBe (i := 16) rfl) (by decide) (fun c60 => ?_) (fun c60 => ?_)
      · refine x_iconst (pc := 67) (v := nI 0) cx (dA ddX3_mayBe (i := 19) rfl) (by decide) ?_
        refine x_zreturn (pc := 68) cx (dA ddX3_mayBe (i := 20) rfl) (by first | exact Nat.le_of_ble_eq_true rfl | omega) (by first | exact Nat.le_of_ble_eq_true rfl | omega) rfl ?_
        have t1 : (nI 1).toInt = 1 := rfl
        have t6 : (nI 6).toInt = 6 := rfl
        have t99 : (nI 99).toInt = 99 := rfl
        have ek : κ.toInt = 2 := by rw [c1_1]; rfl
        (try simp only [i32_lt, i32_le, toI_0, t1] at c54)
        (try simp only [i32_lt, i32_le, toI_0, t6] at c60)
        refine rI ?_
        first | exact (b2i_t (by unfold mayP; omega)).symm | exact (b2i_f (by unfold mayP; omega)).symm
      · refine x_iconst (pc := 63) (v := nI 1) cx (dA ddX3_mayBe (i := 17) rfl) (by decide) ?_
        refine x_goto (pc := 64) (tgt := 68) cx (dA ddX3_mayBe (i := 18) rfl) (by decide) ?_
        refine x_zreturn (pc := 68) cx (dA ddX3_mayBe (i := 20) rfl) (by first | exact Nat.le_of_ble_eq_true rfl | omega) (by first | exact Nat.le_of_ble_eq_true rfl | omega) rfl ?_
        have t1 : (nI 1).toInt = 1 := rfl
        have t6 : (nI 6).toInt = 6 := rfl
        have t99 : (nI 99).toInt = 99 := rfl
        have ek : κ.toInt = 2 := by rw [c1_1]; rfl
        (try simp only [i32_lt, i32_le, toI_0, t1] at c54)
        (try simp only [i32_lt, i32_le, toI_0, t6] at c60)
        refine rI ?_
        first | exact (b2i_t (by unfold mayP; omega)).symm | exact (b2i_f (by unfold mayP; omega)).symm
  by_cases c1_2 : κ = 3
  · refine x_tabIn (pc := 1) (v := 3) (tgt := 69) cx (dA ddX3_mayBe (i := 1) rfl) (by rw [c1_2]; decide) (by decide) (by decide) rfl (by decide) ?_
    refine x_iload_n (pc := 69) cx (dA ddX3_mayBe (i := 21) rfl) rfl ?_
    refine x_if_lt (pc := 70) (tgt := 103) cx (dA ddX3_mayBe (i := 22) rfl) (by decide) (fun c70 => ?_) (fun c70 => ?_)
    · have ek : κ.toInt = 3 := by rw [c1_2]; rfl
      (try simp only [i32_lt, i32_le, toI_0, t1] at c70)
      refine x_iconst (pc := 103) (v := nI 0) cx (dA ddX3_mayBe (i := 40) rfl) (by decide) ?_
      refine x_zreturn (pc := 104) cx (dA ddX3_mayBe (i := 41) rfl) (by first | exact Nat.le_of_ble_eq_true rfl | omega) (by first | exact Nat.le_of_ble_eq_true rfl | omega) rfl ?_
      refine rI ?_
      first | exact (b2i_t (by unfold mayP; omega)).symm | exact (b2i_f (by unfold mayP; omega)).symm
    · have ek : κ.toInt = 3 := by rw [c1_2]; rfl
      obtain ⟨b, hb, rfl⟩ := i32_nat c70
      have tb := nI_toInt hb
      refine x_iload_n (pc := 73) cx (dA ddX3_mayBe (i := 23) rfl) rfl ?_
      refine x_bipush (pc := 74) (v := nI 10) cx (dA ddX3_mayBe (i := 24) rfl) (by decide) ?_
      refine x_idiv (pc := 76) cx (by decide) (dA ddX3_mayBe (i := 25) rfl) ?_
      refine x_bipush (pc := 77) (v := nI 99) cx (dA ddX3_mayBe (i := 26) rfl) (by decide) ?_
      rw [div32 hb (by omega) (by omega)]
      refine x_icmp_gt (pc := 79) (tgt := 103) cx (dA ddX3_mayBe (i := 27) rfl) (by decide) (fun c79 => ?_) (fun c79 => ?_)
      · have c79 := cltT (by omega) (by omega) c79
        refine x_iconst (pc := 103) (v := nI 0) cx (dA ddX3_mayBe (i := 40) rfl) (by decide) ?_
        refine x_zreturn (pc := 104) cx (dA ddX3_mayBe (i := 41) rfl) (by first | exact Nat.le_of_ble_eq_true rfl | omega) (by first | exact Nat.le_of_ble_eq_true rfl | omega) rfl ?_
        refine rI ?_
        first | exact (b2i_t (by unfold mayP; omega)).symm | exact (b2i_f (by unfold mayP; omega)).symm
      · have c79 := cltF (by omega) (by omega) c79
        refine x_iload_n (pc := 82) cx (dA ddX3_mayBe (i := 28) rfl) rfl ?_
        refine x_bipush (pc := 83) (v := nI 10) cx (dA ddX3_mayBe (i := 29) rfl) (by decide) ?_
        refine x_irem (pc := 85) cx (by decide) (dA ddX3_mayBe (i := 30) rfl) ?_
        refine x_iconst (pc := 86) (v := nI 1) cx (dA ddX3_mayBe (i := 31) rfl) (by decide) ?_
        rw [rem32 hb (by omega) (by omega)]
        refine x_icmp_lt (pc := 87) (tgt := 103) cx (dA ddX3_mayBe (i := 32) rfl) (by decide) (fun c87 => ?_) (fun c87 => ?_)
        · have c87 := cltT (by omega) (by omega) c87
          refine x_iconst (pc := 103) (v := nI 0) cx (dA ddX3_mayBe (i := 40) rfl) (by decide) ?_
          refine x_zreturn (pc := 104) cx (dA ddX3_mayBe (i := 41) rfl) (by first | exact Nat.le_of_ble_eq_true rfl | omega) (by first | exact Nat.le_of_ble_eq_true rfl | omega) rfl ?_
          refine rI ?_
          first | exact (b2i_t (by unfold mayP; omega)).symm | exact (b2i_f (by unfold mayP; omega)).symm
        · have c87 := cltF (by omega) (by omega) c87
          refine x_iload_n (pc := 90) cx (dA ddX3_mayBe (i := 33) rfl) rfl ?_
          refine x_bipush (pc := 91) (v := nI 10) cx (dA ddX3_mayBe (i := 34) rfl) (by decide) ?_
          refine x_irem (pc := 93) cx (by decide) (dA ddX3_mayBe (i := 35) rfl) ?_
          refine x_bipush (pc := 94) (v := nI 6) cx (dA ddX3_mayBe (i := 36) rfl) (by decide) ?_
          rw [rem32 hb (by omega) (by omega)]
          refine x_icmp_gt (pc := 96) (tgt := 103) cx (dA ddX3_mayBe (i := 37) rfl) (by decide) (fun c96 => ?_) (fun c96 => ?_)
          · have c96 := cltT (by omega) (by omega) c96
            refine x_iconst (pc := 103) (v := nI 0) cx (dA ddX3_mayBe (i := 40) rfl) (by decide) ?_
            refine x_zreturn (pc := 104) cx (dA ddX3_mayBe (i := 41) rfl) (by first | exact Nat.le_of_ble_eq_true rfl | omega) (by first | exact Nat.le_of_ble_eq_true rfl | omega) rfl ?_
            refine rI ?_
            first | exact (b2i_t (by unfold mayP; omega)).symm | exact (b2i_f (by unfold mayP; omega)).symm
          · have c96 := cltF (by omega) (by omega) c96
            refine x_iconst (pc := 99) (v := nI 1) cx (dA ddX3_mayBe (i := 38) rfl) (by decide) ?_
            refine x_goto (pc := 100) (tgt := 104) cx (dA ddX3_mayBe (i := 39) rfl) (by decide) ?_
            refine x_zreturn (pc := 104) cx (dA ddX3_mayBe (i := 41) rfl) (by first | exact Nat.le_of_ble_eq_true rfl | omega) (by first | exact Nat.le_of_ble_eq_true rfl | omega) rfl ?_
            refine rI ?_
            first | exact (b2i_t (by unfold mayP; omega)).symm | exact (b2i_f (by unfold mayP; omega)).symm
  by_cases c1_3 : κ = 4
  · refine x_tabIn (pc := 1) (v := 4) (tgt := 105) cx (dA ddX3_mayBe (i := 1) rfl) (by rw [c1_3]; decide) (by decide) (by decide) rfl (by decide) ?_
    refine x_iconst (pc := 105) (v := nI 1) cx (dA ddX3_mayBe (i := 42) rfl) (by decide) ?_
    refine x_zreturn (pc := 106) cx (dA ddX3_mayBe (i := 43) rfl) (by first | exact Nat.le_of_ble_eq_true rfl | omega) (by first | exact Nat.le_of_ble_eq_true rfl | omega) rfl ?_
    have ek : κ.toInt = 4 := by rw [c1_3]; rfl
    refine rI ?_
    first | exact (b2i_t (by unfold mayP; omega)).symm | exact (b2i_f (by unfold mayP; omega)).symm
  by_cases c1_4 : κ = 5
  · refine x_tabIn (pc := 1) (v := 5) (tgt := 107) cx (dA ddX3_mayBe (i := 1) rfl) (by rw [c1_4]; decide) (by decide) (by decide) rfl (by decide) ?_
    refine x_iload_n (pc := 107) cx (dA ddX3_mayBe (i := 44) rfl) rfl ?_
    refine x_SN1 (pc := 108) mX3_31 c_X7_isShelf cx (dA ddX3_mayBe (i := 45) rfl) (kI ?_)
    refine x_zreturn (pc := 111) cx (dA ddX3_mayBe (i := 46) rfl) (by first | exact Nat.le_of_ble_eq_true rfl | omega) (by first | exact Nat.le_of_ble_eq_true rfl | omega) b2i_nar ?_
    have ek : κ.toInt = 5 := by rw [c1_4]; rfl
    refine rI (b2i_congr ?_)
    unfold mayP
    omega
  refine x_tabOut (pc := 1) (tgt := 112) cx (dA ddX3_mayBe (i := 1) rfl) (by have t0 := lv_neT (a := 1) c1_0 (by decide); have t1 := lv_neT (a := 2) c1_1 (by decide); have t2 := lv_neT (a := 3) c1_2 (by decide); have t3 := lv_neT (a := 4) c1_3 (by decide); have t4 := lv_neT (a := 5) c1_4 (by decide); omega) (by decide) ?_
  refine x_iconst (pc := 112) (v := nI 0) cx (dA ddX3_mayBe (i := 47) rfl) (by decide) ?_
  refine x_zreturn (pc := 113) cx (dA ddX3_mayBe (i := 48) rfl) (by first | exact Nat.le_of_ble_eq_true rfl | omega) (by first | exact Nat.le_of_ble_eq_true rfl | omega) rfl ?_
  refine rI (b2i_f ?_).symm
  unfold mayP
  have q0 : ¬ κ.toInt = 1 := fun e => c1_0 (i32_eq.mpr e)
  have q1 : ¬ κ.toInt = 2 := fun e => c1_1 (i32_eq.mpr e)
  have q2 : ¬ κ.toInt = 3 := fun e => c1_2 (i32_eq.mpr e)
  have q3 : ¬ κ.toInt = 4 := fun e => c1_3 (i32_eq.mpr e)
  have q4 : ¬ κ.toInt = 5 := fun e => c1_4 (i32_eq.mpr e)
  omega
