/-- a week's sums, so much more -/
def shW (τ : WK) (a b p r : Nat) : WK := (τ.1, τ.2.1, τ.2.2.1 + a, τ.2.2.2.1 + b, τ.2.2.2.2.1 + p, τ.2.2.2.2.2 + r)
theorem shW_0 (τ : WK) : τ = shW (τ.1, τ.2.1, 0, 0, 0, 0) τ.2.2.1 τ.2.2.2.1 τ.2.2.2.2.1 τ.2.2.2.2.2 := by
  unfold shW
  simp
section SHW
variable {D : Int32 → Int32} {vl : Int32 → Nat} {N : Nat → Nat} {L : Nat → Nat → Nat} {τ : WK} {a b p r : Nat}
theorem send_sh {q : Nat} : sendP N (shW τ a b p r) q = ((sendP N τ q).1, shW (sendP N τ q).2 a b p r) := by
  unfold sendP shW
  split
  · rfl
  · simp only [Prod.mk.injEq, true_and, and_true]
    omega
theorem rcv_sh {k : Nat} : rcvP N (shW τ a b p r) k = ((rcvP N τ k).1, shW (rcvP N τ k).2 a b p r) := by
  unfold rcvP shW
  dsimp only
  split
  · rfl
  · simp only [Prod.mk.injEq, true_and, and_true]
    omega
theorem rcA_sh {x : Nat × WK × Int32} : ∀ k, rcA D vl N (x.1, shW x.2.1 a b p r, x.2.2) k = ((rcA D vl N x k).1, shW (rcA D vl N x k).2.1 a b p r, (rcA D vl N x k).2.2)
  | 0 => rfl
  | k + 1 => by
    have ih := rcA_sh (x := x) k
    unfold rcA
    rw [ih]
    dsimp only
    split
    · rw [rcv_sh]
    · rfl
theorem dayP_sh {d : Int32} : dayP D vl N L d (shW τ a b p r) = ((dayP D vl N L d τ).1, shW (dayP D vl N L d τ).2.1 a b p r, (dayP D vl N L d τ).2.2) := by
  have hm : dayM D vl N L d (shW τ a b p r) = ((dayM D vl N L d τ).1, shW (dayM D vl N L d τ).2 a b p r) := send_sh
  unfold dayP
  rw [hm]
  have h := rcA_sh (D := D) (vl := vl) (N := N) (a := a) (b := b) (p := p) (r := r) (x := ((dayM D vl N L d τ).1 + sumP N (dayM D vl N L d τ).2.2.1 2, (dayM D vl N L d τ).2, D d)) (N 4)
  dsimp only at h
  show dayE N (rcA D vl N ((dayM D vl N L d τ).1 + sumP N (dayM D vl N L d τ).2.2.1 2, shW (dayM D vl N L d τ).2 a b p r, D d) (N 4)) = _
  rw [h]
  unfold dayE shW
  simp only [Prod.mk.injEq, true_and, and_true]
  omega
theorem dayP_c {d : Int32} : (dayP D vl N L d τ).2.1.2.2.1 = τ.2.2.1 + (dayP D vl N L d τ).1 := by
  unfold dayP dayE
  dsimp only
  rw [(rcA_kp (N 4)).2.1]
  dsimp only
  congr 1
  unfold dayM sendP
  (repeat' split) <;> rfl
theorem pdA_c {d : Int32} : ∀ i, (pdA D vl N L τ d i).2.1.2.2.1 = τ.2.2.1 + (pdA D vl N L τ d i).1
  | 0 => rfl
  | i + 1 => by
    have ih := pdA_c (d := d) i
    unfold pdA
    split
    · exact ih
    · show (dayP D vl N L _ _).2.1.2.2.1 = _ + (_ + _)
      rw [dayP_c, ih, Nat.add_assoc]
theorem pdA_l {d : Int32} (h4 : N 4 ≤ 3) (hs : τ.2.1 < 5 ^ N 4) : ∀ i, (pdA D vl N L τ d i).2.1.1 = τ.1 - i
  | 0 => rfl
  | i + 1 => by
    have ih := pdA_l (d := d) h4 hs i
    unfold pdA
    split
    · next h => rw [h] at ih ⊢; omega
    · show (dayP D vl N L _ _).2.1.1 = _
      rw [(dayP_st h4 (pdA_st (D := D) (vl := vl) (L := L) (d := d) h4 hs i).2).1, ih]
      omega
end SHW
theorem yv42 {V : zV} {y b p r : Nat} {d : Int32} : (yV V y d b p r).1 442 y = nI b := (sI_ne (by decide)).trans ((sI_ne (by decide)).trans sI_eq)
theorem yv_o {V : zV} {y b p r s f : Nat} {d : Int32} (h : f ≠ 413 ∧ f ≠ 442 ∧ f ≠ 443 ∧ f ≠ 444 ∧ f ≠ 445) : (sI (yV V y d b p r) 445 y (nI s)).1 f y = V.1 f y := (sI_ne h.2.2.2.2).trans ((sI_ne h.2.2.2.1).trans ((sI_ne h.2.2.1).trans ((sI_ne h.2.1).trans (sI_ne h.1))))
theorem yv_s {V : zV} {y b p r s a : Nat} {d : Int32} (h : a ≠ y) : same4 V (sI (yV V y d b p r) 445 y (nI s)) a := (((((same4.refl V a).sI h).sI h).sI h).sI h).sI h
/-- days of a week pass -/
def stW (V V3 : zV) (y : Nat) (N : Nat → Nat) (P : Nat × WK × Int32) : Prop := (∀ a, a ≠ y → (a < y + 39 ∨ y + 94 ≤ a) → same4 V V3 a) ∧ (∀ d, 1 ≤ d → d ≤ N 0 → ∀ s, s < 5 ^ N 4 → V3.2.2.1 (y + 47 + 1 + d) s = nI (ldP N d s)) ∧ (∀ f, (f < 413 ∨ f = 414 ∨ f = 417 ∨ f = 439) → V3.1 f y = V.1 f y) ∧ V3.1 413 y = P.2.2 ∧ V3.1 415 y = nI P.2.1.1 ∧ V3.1 416 y = nI P.2.1.2.1 ∧ V3.1 418 y = nI P.2.1.2.2.2.1 ∧ V3.1 419 y = nI P.2.1.2.2.2.2.1 ∧ V3.1 420 y = nI P.2.1.2.2.2.2.2
/-- weeks pass by draws -/
def swW (V V3 : zV) (y : Nat) (N : Nat → Nat) (d : Int32) : Prop := (∀ a, a ≠ y → (a < y + 39 ∨ y + 94 ≤ a) → same4 V V3 a) ∧ (∀ d, 1 ≤ d → d ≤ N 0 → ∀ s, s < 5 ^ N 4 → V3.2.2.1 (y + 47 + 1 + d) s = nI (ldP N d s)) ∧ (∀ f, (f < 413 ∨ 413 < f ∧ f < 423 ∨ f = 439) → V3.1 f y = V.1 f y) ∧ V3.1 413 y = d
theorem swW_s {V V3 : zV} {y b p r s : Nat} {N : Nat → Nat} {d e : Int32} (h : swW V V3 y N d) : swW V (sI (yV V3 y e b p r) 445 y (nI s)) y N e := ⟨fun a ha hb => (h.1 a ha hb).trans (yv_s ha), fun d h1 h2 s hs => (h.2.1 d h1 h2 s hs), fun f hf => (yv_o (by omega)).trans (h.2.2.1 f hf), (sI_ne (by decide)).trans yv13⟩
theorem c_X8_step {l : Launch} {Z : zP} {G : zG} {V : zV} {y : Nat} {zk : Option Nat} {S : SX} (hRM : RM Z G V y zk S) {D : Int32 → Int32} {vl : Int32 → Nat} (hDr : ∀ d, drw d = D d) (hvl : ∀ d, dvl d = vl d) (hv4 : ∀ d, vl d < 4) {n : Int32} : CT l Z yX8_step cX8_step 4 (some .int) 6 0 0 [.ref y, .int n] G V (pMI Z G V y zk (fStep D vl S n)) := by
  refine CT.of (by decide +kernel) (Nat.le_of_ble_eq_true rfl) (fun X hX cx => ?_)
  subst hX
  show Wm Z X 4 G V 0 0 _ 0 [(0, some (.ref y)), (1, some (.int n))] []
  have hM := hRM.1
  have h0 := hM.1
  have hc := hRM.2.2.1.1
  have c6 := hRM.2.2.1.2.1
  have hmu := hRM.2.2.2.2.2.2.1
  have hws := hRM.2.2.1.2.2.2.2
  refine x_iload_n (pc := 0) cx (dA ddX8_step (i := 0) rfl) rfl ?_
  refine x_i2l (pc := 1) cx (dA ddX8_step (i := 1) rfl) ?_
  refine x_lconst (pc := 2) (v := lN 1) cx (dA ddX8_step (i := 2) rfl) rfl ?_
  refine x_ldc2 (pc := 3) cx klX8_128 (dA ddX8_step (i := 3) rfl) ?_
  refine x_S3 (pc := 6) mX8_94 c_X8_in cx (dA ddX8_step (i := 4) rfl) (kI ?_)
  rw [tl_toInt, show (lN 1).toInt = 1 from rfl, show (lN 6).toInt = 6 from rfl]
  refine x_if_ne (pc := 9) (tgt := 19) cx (dA ddX8_step (i := 5) rfl) (by decide) (fun c9 => ?_) (fun c9 => ?_)
  · have cn := b2i_ne c9
    obtain ⟨n, hn, rfl, tn9⟩ := i32_in (x := n) (n := 7) ⟨by omega, by omega⟩
    refine x_aload_n (pc := 19) cx (dA ddX8_step (i := 10) rfl) rfl ?_
    refine gX8_346 (pc := 20) rfl cx (dA ddX8_step (i := 11) rfl) h0 ?_
    refine x_if_eq (pc := 23) (tgt := 33) cx (dA ddX8_step (i := 12) rfl) (by decide) (fun c23 => ?_) (fun c23 => ?_)
    · have hq : S.1.2.2.2 = none := by cases e : S.1.2.2.2 with | none => rfl | some ws => exact absurd ((hws.2 ws e).1.symm.trans c23) (by decide)
      refine x_aload_n (pc := 33) cx (dA ddX8_step (i := 16) rfl) rfl ?_
      refine x_bipush (pc := 34) (v := -5) cx (dA ddX8_step (i := 17) rfl) (by decide) ?_
      refine x_V1 (pc := 36) mX8_119 h0 (c_X8_refuse hM (i := 3) (by decide) rfl) cx (dA ddX8_step (i := 18) rfl) (kI ?_)
      refine x_ireturn (pc := 39) cx (dA ddX8_step (i := 19) rfl) (by first | exact Nat.le_of_ble_eq_true rfl | omega) (by first | exact Nat.le_of_ble_eq_true rfl | omega) ?_
      exact pMI.r hRM (by decide) (by unfold fStep; rw [if_pos cn, hq])
    · obtain ⟨ws, hq⟩ : ∃ ws, S.1.2.2.2 = some ws := by cases e : S.1.2.2.2 with | none => exact absurd (hws.1 e) c23 | some ws => exact ⟨ws, rfl⟩
      obtain ⟨g14, h7, hN, h8, ⟨g1, g2, g3, g4, g5, g6⟩, hl, hst⟩ := hws.2 ws hq
      have hB := hN.1
      have b4 := hB.1
      have n125 := st125 b4
      have h06 := hN.2.1
      refine x_aload_n (pc := 26) cx (dA ddX8_step (i := 13) rfl) rfl ?_
      refine gX8_349 (pc := 27) (congrArg Value.int g1) cx (dA ddX8_step (i := 14) rfl) h0 ?_
      refine x_if_ne (pc := 30) (tgt := 40) cx (dA ddX8_step (i := 15) rfl) (by decide) (fun c30 => ?_) (fun c30 => ?_)
      · have l0 : ws.2.2.1 ≠ 0 := fun e => c30 (by rw [e]; rfl)
        refine x_aload_n (pc := 40) cx (dA ddX8_step (i := 20) rfl) rfl ?_
        refine x_bipush (pc := 41) (v := nI 7) cx (dA ddX8_step (i := 21) rfl) (by decide) ?_
        refine x_V1 (pc := 43) mX8_264 h0 (c_X8_findBest hM (h := 7) (by decide) h7 hB hN (mu := 0) (hmu_0 hmu)) cx (dA ddX8_step (i := 22) rfl) (kVx fun V2 hF => ?_)
        refine x_iconst (pc := 46) (v := nI 0) cx (dA ddX8_step (i := 23) rfl) (by decide) ?_
        refine x_istore_n (pc := 47) cx (dA ddX8_step (i := 24) rfl) (by decide) rfl ?_
        refine x_iconst (pc := 48) (v := nI 0) cx (dA ddX8_step (i := 25) rfl) (by decide) ?_
        refine x_istore_n (pc := 49) cx (dA ddX8_step (i := 26) rfl) (by decide) rfl ?_
        have L50 : ∀ k, k ≤ n → ∀ V3, stW V V3 y ws.1 (pdA D vl ws.1 (ruR ws.1 ws.2.1) ws.2.2 S.1.2.2.1 k) → Wm Z X 4 G V3 0 0 (rQ Z X 0 0 (pMI Z G V y zk (fStep D vl S (nI n)))) 50 [(0, some (.ref y)), (1, some (.int (nI n))), (2, some (.int (nI (pdA D vl ws.1 (ruR ws.1 ws.2.1) ws.2.2 S.1.2.2.1 k).1))), (3, some (.int (nI k)))] [] := by
          refine lpU n (fun k hk ih => ?_)
          intro V3 hI
          have ps := pdA_st (D := D) (vl := vl) (L := (ruR ws.1 ws.2.1)) (τ := ws.2.2) (d := S.1.2.2.1) b4 hst k
          refine x_iload_n (pc := 50) cx (dA ddX8_step (i := 27) rfl) rfl ?_
          refine x_iload_n (pc := 51) cx (dA ddX8_step (i := 28) rfl) rfl ?_
          refine x_icmp_ge (pc := 52) (tgt := 144) cx (dA ddX8_step (i := 29) rfl) (by decide) (fun c52 => ?_) (fun c52 => ?_)
          · have c52 := cleT (by omega) (by omega) c52
            have ek : n = k := by omega
            subst ek
            refine x_aload_n (pc := 144) cx (dA ddX8_step (i := 77) rfl) rfl ?_
            refine x_dup (pc := 145) cx rfl (dA ddX8_step (i := 78) rfl) ?_
            refine gX8_355 (pc := 146) (congrArg Value.int (show V3.1 417 y = nI (ws.2.2.2.2.1) from (hI.2.2.1 417 (by omega)).trans g3)) cx (dA ddX8_step (i := 79) rfl) h0 ?_
            refine x_iload_n (pc := 149) cx (dA ddX8_step (i := 80) rfl) rfl ?_
            refine x_iadd (pc := 150) cx (dA ddX8_step (i := 81) rfl) ?_
            rw [nI_add]
            refine pX8_355 (pc := 151)  cx (dA ddX8_step (i := 82) rfl) h0 ?_
            refine x_iload_n (pc := 154) cx (dA ddX8_step (i := 83) rfl) rfl ?_
            refine x_ireturn (pc := 155) cx (dA ddX8_step (i := 84) rfl) (by first | exact Nat.le_of_ble_eq_true rfl | omega) (by first | exact Nat.le_of_ble_eq_true rfl | omega) ?_
            have pc := pdA_c (D := D) (vl := vl) (N := ws.1) (L := (ruR ws.1 ws.2.1)) (τ := ws.2.2) (d := S.1.2.2.1) n
            have ps := pdA_st (D := D) (vl := vl) (L := (ruR ws.1 ws.2.1)) (τ := ws.2.2) (d := S.1.2.2.1) b4 hst n
            have wd : WdM (sI V3 417 y (nI (ws.2.2.2.2.1 + (pdA D vl ws.1 (ruR ws.1 ws.2.1) ws.2.2 S.1.2.2.1 n).1))) y (S.1.1, S.1.2.1, (pdA D vl ws.1 (ruR ws.1 ws.2.1) ws.2.2 S.1.2.2.1 n).2.2, some (ws.1, ws.2.1, (pdA D vl ws.1 (ruR ws.1 ws.2.1) ws.2.2 S.1.2.2.1 n).2.1)) := wd_w (w := (ws.1, ws.2.1, (pdA D vl ws.1 (ruR ws.1 ws.2.1) ws.2.2 S.1.2.2.1 n).2.1)) hRM.2.2.1 (fun f hf => (sI_ne (by omega)).trans (hI.2.2.1 f (by omega))) (fun i hi j => (hI.1 _ (by omega) (by omega)).2.2.1 j) ((sI_ne (by decide)).trans hI.2.2.2.1) ((sI_ne (by decide)).trans ((hI.2.2.1 414 (by omega)).trans g14)) (fun j hj => ((hI.1 _ (by omega) (by omega)).2.2.1 j).trans (h7 j hj)) hN (h8.st ((hI.1 _ (by omega) (by omega)).2.2.1 8) ((hI.1 _ (by omega) (by omega)).2.2.1 8) (fun j => (hI.1 _ (by omega) (by omega)).2.2.1 j)) ⟨(sI_ne (by decide)).trans hI.2.2.2.2.1, (sI_ne (by decide)).trans hI.2.2.2.2.2.1, sI_eq.trans (by rw [← pc]), (sI_ne (by decide)).trans hI.2.2.2.2.2.2.1, (sI_ne (by decide)).trans hI.2.2.2.2.2.2.2.1, (sI_ne (by decide)).trans hI.2.2.2.2.2.2.2.2⟩ (Nat.le_trans ps.1 hl) ps.2
            have sa : ∀ a, a ≠ y → (a < y + 39 ∨ y + 94 ≤ a) → same4 V (sI V3 417 y (nI (ws.2.2.2.2.1 + (pdA D vl ws.1 (ruR ws.1 ws.2.1) ws.2.2 S.1.2.2.1 n).1))) a := fun a a1 a2 => (hI.1 a a1 a2).sI a1
            have out : ∀ a, a < y ∨ y + 94 ≤ a → same4 V (sI V3 417 y (nI (ws.2.2.2.2.1 + (pdA D vl ws.1 (ruR ws.1 ws.2.1) ws.2.2 S.1.2.2.1 n).1))) a := fun a ha => sa a (by omega) (by omega)
            refine pMI.m (S' := putW S (S.1.1, S.1.2.1, (pdA D vl ws.1 (ruR ws.1 ws.2.1) ws.2.2 S.1.2.2.1 n).2.2, some (ws.1, ws.2.1, (pdA D vl ws.1 (ruR ws.1 ws.2.1) ws.2.2 S.1.2.2.1 n).2.1))) (by unfold fStep; rw [if_pos cn, hq]; refine (if_neg l0).trans ?_; rw [tn9]) ⟨hRM.mk' out wd (fun w hw => (hRM.2.2.2.1 w hw).st ((sa _ (by omega) (by omega)).2.2.1 w) ((sa _ (by omega) (by omega)).2.2.1 w) ((sa _ (by omega) (by omega)).2.2.1 w) (fun j => (sa _ (by omega) (by omega)).2.2.2 j) ((sa _ (by omega) (by omega)).2.2.1 w) ((sa _ (by omega) (by omega)).2.2.1 w) (fun j => (sa _ (by omega) (by omega)).2.2.1 j) ((sa _ (by omega) (by omega)).2.2.1 w)) ?_ (fun k hk => ((sa _ (by omega) (by omega)).2.2.1 _).trans (hRM.2.2.2.2.2.1 k hk)) ((sI_ne (by decide)).trans ((hI.2.2.1 439 (by omega)).trans hmu)) rfl, out⟩
            obtain ⟨t1, t2, t3, t4⟩ := hRM.2.2.2.2.1
            exact ⟨(sI_ne (by decide)).trans ((hI.2.2.1 409 (by omega)).trans t1), fun j hj => ((sa _ (by omega) (by omega)).2.2.1 j).trans (t2 j hj), t3, t4⟩
          · have c52 := cleF (by omega) (by omega) c52
            refine x_aload_n (pc := 55) cx (dA ddX8_step (i := 30) rfl) rfl ?_
            refine gX8_349 (pc := 56) (congrArg Value.int (show V3.1 415 y = nI ((pdA D vl ws.1 (ruR ws.1 ws.2.1) ws.2.2 S.1.2.2.1 k).2.1.1) from hI.2.2.2.2.1)) cx (dA ddX8_step (i := 31) rfl) h0 ?_
            refine x_if_le (pc := 59) (tgt := 144) cx (dA ddX8_step (i := 32) rfl) (by decide) (fun c59 => ?_) (fun c59 => ?_)
            · have l1 : (pdA D vl ws.1 (ruR ws.1 ws.2.1) ws.2.2 S.1.2.2.1 k).2.1.1 = 0 := by have := cleT (b := 0) (by omega) (by omega) c59; omega
              refine x_aload_n (pc := 144) cx (dA ddX8_step (i := 77) rfl) rfl ?_
              refine x_dup (pc := 145) cx rfl (dA ddX8_step (i := 78) rfl) ?_
              refine gX8_355 (pc := 146) (congrArg Value.int (show V3.1 417 y = nI (ws.2.2.2.2.1) from (hI.2.2.1 417 (by omega)).trans g3)) cx (dA ddX8_step (i := 79) rfl) h0 ?_
              refine x_iload_n (pc := 149) cx (dA ddX8_step (i := 80) rfl) rfl ?_
              refine x_iadd (pc := 150) cx (dA ddX8_step (i := 81) rfl) ?_
              rw [nI_add]
              refine pX8_355 (pc := 151)  cx (dA ddX8_step (i := 82) rfl) h0 ?_
              refine x_iload_n (pc := 154) cx (dA ddX8_step (i := 83) rfl) rfl ?_
              refine x_ireturn (pc := 155) cx (dA ddX8_step (i := 84) rfl) (by first | exact Nat.le_of_ble_eq_true rfl | omega) (by first | exact Nat.le_of_ble_eq_true rfl | omega) ?_
              have pc := pdA_c (D := D) (vl := vl) (N := ws.1) (L := (ruR ws.1 ws.2.1)) (τ := ws.2.2) (d := S.1.2.2.1) k
              have ps := pdA_st (D := D) (vl := vl) (L := (ruR ws.1 ws.2.1)) (τ := ws.2.2) (d := S.1.2.2.1) b4 hst k
              have wd : WdM (sI V3 417 y (nI (ws.2.2.2.2.1 + (pdA D vl ws.1 (ruR ws.1 ws.2.1) ws.2.2 S.1.2.2.1 k).1))) y (S.1.1, S.1.2.1, (pdA D vl ws.1 (ruR ws.1 ws.2.1) ws.2.2 S.1.2.2.1 k).2.2, some (ws.1, ws.2.1, (pdA D vl ws.1 (ruR ws.1 ws.2.1) ws.2.2 S.1.2.2.1 k).2.1)) := wd_w (w := (ws.1, ws.2.1, (pdA D vl ws.1 (ruR ws.1 ws.2.1) ws.2.2 S.1.2.2.1 k).2.1)) hRM.2.2.1 (fun f hf => (sI_ne (by omega)).trans (hI.2.2.1 f (by omega))) (fun i hi j => (hI.1 _ (by omega) (by omega)).2.2.1 j) ((sI_ne (by decide)).trans hI.2.2.2.1) ((sI_ne (by decide)).trans ((hI.2.2.1 414 (by omega)).trans g14)) (fun j hj => ((hI.1 _ (by omega) (by omega)).2.2.1 j).trans (h7 j hj)) hN (h8.st ((hI.1 _ (by omega) (by omega)).2.2.1 8) ((hI.1 _ (by omega) (by omega)).2.2.1 8) (fun j => (hI.1 _ (by omega) (by omega)).2.2.1 j)) ⟨(sI_ne (by decide)).trans hI.2.2.2.2.1, (sI_ne (by decide)).trans hI.2.2.2.2.2.1, sI_eq.trans (by rw [← pc]), (sI_ne (by decide)).trans hI.2.2.2.2.2.2.1, (sI_ne (by decide)).trans hI.2.2.2.2.2.2.2.1, (sI_ne (by decide)).trans hI.2.2.2.2.2.2.2.2⟩ (Nat.le_trans ps.1 hl) ps.2
              have sa : ∀ a, a ≠ y → (a < y + 39 ∨ y + 94 ≤ a) → same4 V (sI V3 417 y (nI (ws.2.2.2.2.1 + (pdA D vl ws.1 (ruR ws.1 ws.2.1) ws.2.2 S.1.2.2.1 k).1))) a := fun a a1 a2 => (hI.1 a a1 a2).sI a1
              have out : ∀ a, a < y ∨ y + 94 ≤ a → same4 V (sI V3 417 y (nI (ws.2.2.2.2.1 + (pdA D vl ws.1 (ruR ws.1 ws.2.1) ws.2.2 S.1.2.2.1 k).1))) a := fun a ha => sa a (by omega) (by omega)
              refine pMI.m (S' := putW S (S.1.1, S.1.2.1, (pdA D vl ws.1 (ruR ws.1 ws.2.1) ws.2.2 S.1.2.2.1 k).2.2, some (ws.1, ws.2.1, (pdA D vl ws.1 (ruR ws.1 ws.2.1) ws.2.2 S.1.2.2.1 k).2.1))) (by unfold fStep; rw [if_pos cn, hq]; refine (if_neg l0).trans ?_; rw [tn9, show pdA D vl ws.1 (ruR ws.1 ws.2.1) ws.2.2 S.1.2.2.1 n = (pdA D vl ws.1 (ruR ws.1 ws.2.1) ws.2.2 S.1.2.2.1 k) from pdA_stay l1 (by omega)]) ⟨hRM.mk' out wd (fun w hw => (hRM.2.2.2.1 w hw).st ((sa _ (by omega) (by omega)).2.2.1 w) ((sa _ (by omega) (by omega)).2.2.1 w) ((sa _ (by omega) (by omega)).2.2.1 w) (fun j => (sa _ (by omega) (by omega)).2.2.2 j) ((sa _ (by omega) (by omega)).2.2.1 w) ((sa _ (by omega) (by omega)).2.2.1 w) (fun j => (sa _ (by omega) (by omega)).2.2.1 j) ((sa _ (by omega) (by omega)).2.2.1 w)) ?_ (fun k hk => ((sa _ (by omega) (by omega)).2.2.1 _).trans (hRM.2.2.2.2.2.1 k hk)) ((sI_ne (by decide)).trans ((hI.2.2.1 439 (by omega)).trans hmu)) rfl, out⟩
              obtain ⟨t1, t2, t3, t4⟩ := hRM.2.2.2.2.1
              exact ⟨(sI_ne (by decide)).trans ((hI.2.2.1 409 (by omega)).trans t1), fun j hj => ((sa _ (by omega) (by omega)).2.2.1 j).trans (t2 j hj), t3, t4⟩
            · have l1 : 0 < (pdA D vl ws.1 (ruR ws.1 ws.2.1) ws.2.2 S.1.2.2.1 k).2.1.1 := cleF (b := 0) (by omega) (by omega) c59
              have e9 : (pdA D vl ws.1 (ruR ws.1 ws.2.1) ws.2.2 S.1.2.2.1 (k + 1)) = ((pdA D vl ws.1 (ruR ws.1 ws.2.1) ws.2.2 S.1.2.2.1 k).1 + (dayP D vl ws.1 (ruR ws.1 ws.2.1) (pdA D vl ws.1 (ruR ws.1 ws.2.1) ws.2.2 S.1.2.2.1 k).2.2 (pdA D vl ws.1 (ruR ws.1 ws.2.1) ws.2.2 S.1.2.2.1 k).2.1).1, (dayP D vl ws.1 (ruR ws.1 ws.2.1) (pdA D vl ws.1 (ruR ws.1 ws.2.1) ws.2.2 S.1.2.2.1 k).2.2 (pdA D vl ws.1 (ruR ws.1 ws.2.1) ws.2.2 S.1.2.2.1 k).2.1).2) := if_neg (by omega)
              have e8 : dayP D vl ws.1 (ruR ws.1 ws.2.1) (pdA D vl ws.1 (ruR ws.1 ws.2.1) ws.2.2 S.1.2.2.1 k).2.2 (pdA D vl ws.1 (ruR ws.1 ws.2.1) ws.2.2 S.1.2.2.1 k).2.1 = ((dayP D vl ws.1 (fun d s => ruL ws.1 ws.2.1.1 ws.2.1.2.1 ws.2.1.2.2.1 ws.2.1.2.2.2 d s) (pdA D vl ws.1 (ruR ws.1 ws.2.1) ws.2.2 S.1.2.2.1 k).2.2 ((pdA D vl ws.1 (ruR ws.1 ws.2.1) ws.2.2 S.1.2.2.1 k).2.1.1, (pdA D vl ws.1 (ruR ws.1 ws.2.1) ws.2.2 S.1.2.2.1 k).2.1.2.1, 0, 0, 0, 0)).1, shW (dayP D vl ws.1 (fun d s => ruL ws.1 ws.2.1.1 ws.2.1.2.1 ws.2.1.2.2.1 ws.2.1.2.2.2 d s) (pdA D vl ws.1 (ruR ws.1 ws.2.1) ws.2.2 S.1.2.2.1 k).2.2 ((pdA D vl ws.1 (ruR ws.1 ws.2.1) ws.2.2 S.1.2.2.1 k).2.1.1, (pdA D vl ws.1 (ruR ws.1 ws.2.1) ws.2.2 S.1.2.2.1 k).2.1.2.1, 0, 0, 0, 0)).2.1 (pdA D vl ws.1 (ruR ws.1 ws.2.1) ws.2.2 S.1.2.2.1 k).2.1.2.2.1 (pdA D vl ws.1 (ruR ws.1 ws.2.1) ws.2.2 S.1.2.2.1 k).2.1.2.2.2.1 (pdA D vl ws.1 (ruR ws.1 ws.2.1) ws.2.2 S.1.2.2.1 k).2.1.2.2.2.2.1 (pdA D vl ws.1 (ruR ws.1 ws.2.1) ws.2.2 S.1.2.2.1 k).2.1.2.2.2.2.2, (dayP D vl ws.1 (fun d s => ruL ws.1 ws.2.1.1 ws.2.1.2.1 ws.2.1.2.2.1 ws.2.1.2.2.2 d s) (pdA D vl ws.1 (ruR ws.1 ws.2.1) ws.2.2 S.1.2.2.1 k).2.2 ((pdA D vl ws.1 (ruR ws.1 ws.2.1) ws.2.2 S.1.2.2.1 k).2.1.1, (pdA D vl ws.1 (ruR ws.1 ws.2.1) ws.2.2 S.1.2.2.1 k).2.1.2.1, 0, 0, 0, 0)).2.2) := by have h := dayP_sh (D := D) (vl := vl) (N := ws.1) (L := (ruR ws.1 ws.2.1)) (d := (pdA D vl ws.1 (ruR ws.1 ws.2.1) ws.2.2 S.1.2.2.1 k).2.2) (τ := ((pdA D vl ws.1 (ruR ws.1 ws.2.1) ws.2.2 S.1.2.2.1 k).2.1.1, (pdA D vl ws.1 (ruR ws.1 ws.2.1) ws.2.2 S.1.2.2.1 k).2.1.2.1, 0, 0, 0, 0)) (a := (pdA D vl ws.1 (ruR ws.1 ws.2.1) ws.2.2 S.1.2.2.1 k).2.1.2.2.1) (b := (pdA D vl ws.1 (ruR ws.1 ws.2.1) ws.2.2 S.1.2.2.1 k).2.1.2.2.2.1) (p := (pdA D vl ws.1 (ruR ws.1 ws.2.1) ws.2.2 S.1.2.2.1 k).2.1.2.2.2.2.1) (r := (pdA D vl ws.1 (ruR ws.1 ws.2.1) ws.2.2 S.1.2.2.1 k).2.1.2.2.2.2.2); rw [← shW_0] at h; exact h
              rw [e8] at e9
              have xl := (dayP_st (D := D) (vl := vl) (L := (fun d s => ruL ws.1 ws.2.1.1 ws.2.1.2.1 ws.2.1.2.2.1 ws.2.1.2.2.2 d s)) (d := (pdA D vl ws.1 (ruR ws.1 ws.2.1) ws.2.2 S.1.2.2.1 k).2.2) (τ := ((pdA D vl ws.1 (ruR ws.1 ws.2.1) ws.2.2 S.1.2.2.1 k).2.1.1, (pdA D vl ws.1 (ruR ws.1 ws.2.1) ws.2.2 S.1.2.2.1 k).2.1.2.1, 0, 0, 0, 0)) b4 ps.2).1
              dsimp only at xl
              refine x_iload_n (pc := 62) cx (dA ddX8_step (i := 33) rfl) rfl ?_
              refine x_aload_n (pc := 63) cx (dA ddX8_step (i := 34) rfl) rfl ?_
              refine x_bipush (pc := 64) (v := nI 7) cx (dA ddX8_step (i := 35) rfl) (by decide) ?_
              refine x_aload_n (pc := 66) cx (dA ddX8_step (i := 36) rfl) rfl ?_
              refine gX8_349 (pc := 67) (congrArg Value.int (show V3.1 415 y = nI ((pdA D vl ws.1 (ruR ws.1 ws.2.1) ws.2.2 S.1.2.2.1 k).2.1.1) from hI.2.2.2.2.1)) cx (dA ddX8_step (i := 37) rfl) h0 ?_
              refine x_aload_n (pc := 70) cx (dA ddX8_step (i := 38) rfl) rfl ?_
              refine gX8_352 (pc := 71) (congrArg Value.int (show V3.1 416 y = nI ((pdA D vl ws.1 (ruR ws.1 ws.2.1) ws.2.2 S.1.2.2.1 k).2.1.2.1) from hI.2.2.2.2.2.1)) cx (dA ddX8_step (i := 39) rfl) h0 ?_
              refine x_bipush (pc := 74) (v := nI 8) cx (dA ddX8_step (i := 40) rfl) (by decide) ?_
              refine x_V4 (pc := 76) mX8_367 h0 (c_X8_day (V := V3) hM (h := 7) (by decide) (fun j hj => ((hI.1 _ (by omega) (by omega)).2.2.1 j).trans (h7 j hj)) hB hN (r := 8) (by decide) (h8.st ((hI.1 _ (by omega) (by omega)).2.2.1 8) ((hI.1 _ (by omega) (by omega)).2.2.1 8) (fun j => (hI.1 _ (by omega) (by omega)).2.2.1 j)) hDr hvl hv4 (d := (pdA D vl ws.1 (ruR ws.1 ws.2.1) ws.2.2 S.1.2.2.1 k).2.2) hI.2.2.2.1 (z := (pdA D vl ws.1 (ruR ws.1 ws.2.1) ws.2.2 S.1.2.2.1 k).2.1.1) (s := (pdA D vl ws.1 (ruR ws.1 ws.2.1) ws.2.2 S.1.2.2.1 k).2.1.2.1) (by omega) (by omega) ps.2 (fun _ => hI.2.1 _ (by omega) (by omega) _ ps.2)) cx (dA ddX8_step (i := 41) rfl) (kI ?_)
              obtain ⟨V4, e4⟩ : ∃ V4, V4 = (sI (yV V3 y (dayP D vl ws.1 (fun d s => ruL ws.1 ws.2.1.1 ws.2.1.2.1 ws.2.1.2.2.1 ws.2.1.2.2.2 d s) (pdA D vl ws.1 (ruR ws.1 ws.2.1) ws.2.2 S.1.2.2.1 k).2.2 ((pdA D vl ws.1 (ruR ws.1 ws.2.1) ws.2.2 S.1.2.2.1 k).2.1.1, (pdA D vl ws.1 (ruR ws.1 ws.2.1) ws.2.2 S.1.2.2.1 k).2.1.2.1, 0, 0, 0, 0)).2.2 (dayP D vl ws.1 (fun d s => ruL ws.1 ws.2.1.1 ws.2.1.2.1 ws.2.1.2.2.1 ws.2.1.2.2.2 d s) (pdA D vl ws.1 (ruR ws.1 ws.2.1) ws.2.2 S.1.2.2.1 k).2.2 ((pdA D vl ws.1 (ruR ws.1 ws.2.1) ws.2.2 S.1.2.2.1 k).2.1.1, (pdA D vl ws.1 (ruR ws.1 ws.2.1) ws.2.2 S.1.2.2.1 k).2.1.2.1, 0, 0, 0, 0)).2.1.2.2.2.1 (dayP D vl ws.1 (fun d s => ruL ws.1 ws.2.1.1 ws.2.1.2.1 ws.2.1.2.2.1 ws.2.1.2.2.2 d s) (pdA D vl ws.1 (ruR ws.1 ws.2.1) ws.2.2 S.1.2.2.1 k).2.2 ((pdA D vl ws.1 (ruR ws.1 ws.2.1) ws.2.2 S.1.2.2.1 k).2.1.1, (pdA D vl ws.1 (ruR ws.1 ws.2.1) ws.2.2 S.1.2.2.1 k).2.1.2.1, 0, 0, 0, 0)).2.1.2.2.2.2.1 (dayP D vl ws.1 (fun d s => ruL ws.1 ws.2.1.1 ws.2.1.2.1 ws.2.1.2.2.1 ws.2.1.2.2.2 d s) (pdA D vl ws.1 (ruR ws.1 ws.2.1) ws.2.2 S.1.2.2.1 k).2.2 ((pdA D vl ws.1 (ruR ws.1 ws.2.1) ws.2.2 S.1.2.2.1 k).2.1.1, (pdA D vl ws.1 (ruR ws.1 ws.2.1) ws.2.2 S.1.2.2.1 k).2.1.2.1, 0, 0, 0, 0)).2.1.2.2.2.2.2) 445 y (nI (dayP D vl ws.1 (fun d s => ruL ws.1 ws.2.1.1 ws.2.1.2.1 ws.2.1.2.2.1 ws.2.1.2.2.2 d s) (pdA D vl ws.1 (ruR ws.1 ws.2.1) ws.2.2 S.1.2.2.1 k).2.2 ((pdA D vl ws.1 (ruR ws.1 ws.2.1) ws.2.2 S.1.2.2.1 k).2.1.1, (pdA D vl ws.1 (ruR ws.1 ws.2.1) ws.2.2 S.1.2.2.1 k).2.1.2.1, 0, 0, 0, 0)).2.1.2.1)) := ⟨_, rfl⟩
              rw [← e4]
              obtain ⟨x, ex⟩ : ∃ x, x = (dayP D vl ws.1 (fun d s => ruL ws.1 ws.2.1.1 ws.2.1.2.1 ws.2.1.2.2.1 ws.2.1.2.2.2 d s) (pdA D vl ws.1 (ruR ws.1 ws.2.1) ws.2.2 S.1.2.2.1 k).2.2 ((pdA D vl ws.1 (ruR ws.1 ws.2.1) ws.2.2 S.1.2.2.1 k).2.1.1, (pdA D vl ws.1 (ruR ws.1 ws.2.1) ws.2.2 S.1.2.2.1 k).2.1.2.1, 0, 0, 0, 0)) := ⟨_, rfl⟩
              rw [← ex] at e4 e8 e9 xl
              rw [← ex]
              have go : ∀ f, (f ≠ 413 ∧ f ≠ 442 ∧ f ≠ 443 ∧ f ≠ 444 ∧ f ≠ 445) → V4.1 f y = V3.1 f y := fun f hf => by rw [e4]; exact yv_o hf
              have gs : ∀ a, a ≠ y → same4 V3 V4 a := fun a ha => by rw [e4]; exact yv_s ha
              have g45 : V4.1 445 y = nI x.2.1.2.1 := by rw [e4]; exact sI_eq
              have g42 : V4.1 442 y = nI x.2.1.2.2.2.1 := by rw [e4]; exact (sI_ne (by decide)).trans yv42
              have g43 : V4.1 443 y = nI x.2.1.2.2.2.2.1 := by rw [e4]; exact (sI_ne (by decide)).trans yv43
              have g44 : V4.1 444 y = nI x.2.1.2.2.2.2.2 := by rw [e4]; exact (sI_ne (by decide)).trans yv44
              have g13 : V4.1 413 y = x.2.2 := by rw [e4]; exact (sI_ne (by decide)).trans yv13
              have gA : V4.2.2.1 = V3.2.2.1 := by rw [e4]; rfl
              refine x_iadd (pc := 79) cx (dA ddX8_step (i := 42) rfl) ?_
              rw [nI_add]
              refine x_istore_n (pc := 80) cx (dA ddX8_step (i := 43) rfl) (by decide) rfl ?_
              refine x_aload_n (pc := 81) cx (dA ddX8_step (i := 44) rfl) rfl ?_
              refine x_aload_n (pc := 82) cx (dA ddX8_step (i := 45) rfl) rfl ?_
              refine gX8_343 (pc := 83) (congrArg Value.int (show V4.1 445 y = nI (x.2.1.2.1) from g45)) cx (dA ddX8_step (i := 46) rfl) h0 ?_
              refine pX8_352 (pc := 86)  cx (dA ddX8_step (i := 47) rfl) h0 ?_
              refine x_aload_n (pc := 89) cx (dA ddX8_step (i := 48) rfl) rfl ?_
              refine x_dup (pc := 90) cx rfl (dA ddX8_step (i := 49) rfl) ?_
              refine gX8_358 (pc := 91) (congrArg Value.int (show (sI V4 416 y (nI x.2.1.2.1)).1 418 y = nI ((pdA D vl ws.1 (ruR ws.1 ws.2.1) ws.2.2 S.1.2.2.1 k).2.1.2.2.2.1) from (sI_ne (by decide)).trans ((go _ (by decide)).trans hI.2.2.2.2.2.2.1))) cx (dA ddX8_step (i := 50) rfl) h0 ?_
              refine x_aload_n (pc := 94) cx (dA ddX8_step (i := 51) rfl) rfl ?_
              refine gX8_334 (pc := 95) (congrArg Value.int (show (sI V4 416 y (nI x.2.1.2.1)).1 442 y = nI (x.2.1.2.2.2.1) from (sI_ne (by decide)).trans (g42))) cx (dA ddX8_step (i := 52) rfl) h0 ?_
              refine x_iadd (pc := 98) cx (dA ddX8_step (i := 53) rfl) ?_
              rw [nI_add]
              refine pX8_358 (pc := 99)  cx (dA ddX8_step (i := 54) rfl) h0 ?_
              refine x_aload_n (pc := 102) cx (dA ddX8_step (i := 55) rfl) rfl ?_
              refine x_dup (pc := 103) cx rfl (dA ddX8_step (i := 56) rfl) ?_
              refine gX8_361 (pc := 104) (congrArg Value.int (show (sI (sI V4 416 y (nI x.2.1.2.1)) 418 y (nI ((pdA D vl ws.1 (ruR ws.1 ws.2.1) ws.2.2 S.1.2.2.1 k).2.1.2.2.2.1 + x.2.1.2.2.2.1))).1 419 y = nI ((pdA D vl ws.1 (ruR ws.1 ws.2.1) ws.2.2 S.1.2.2.1 k).2.1.2.2.2.2.1) from (sI_ne (by decide)).trans ((sI_ne (by decide)).trans ((go _ (by decide)).trans hI.2.2.2.2.2.2.2.1)))) cx (dA ddX8_step (i := 57) rfl) h0 ?_
              refine x_aload_n (pc := 107) cx (dA ddX8_step (i := 58) rfl) rfl ?_
              refine gX8_337 (pc := 108) (congrArg Value.int (show (sI (sI V4 416 y (nI x.2.1.2.1)) 418 y (nI ((pdA D vl ws.1 (ruR ws.1 ws.2.1) ws.2.2 S.1.2.2.1 k).2.1.2.2.2.1 + x.2.1.2.2.2.1))).1 443 y = nI (x.2.1.2.2.2.2.1) from (sI_ne (by decide)).trans ((sI_ne (by decide)).trans (g43)))) cx (dA ddX8_step (i := 59) rfl) h0 ?_
              refine x_iadd (pc := 111) cx (dA ddX8_step (i := 60) rfl) ?_
              rw [nI_add]
              refine pX8_361 (pc := 112)  cx (dA ddX8_step (i := 61) rfl) h0 ?_
              refine x_aload_n (pc := 115) cx (dA ddX8_step (i := 62) rfl) rfl ?_
              refine x_dup (pc := 116) cx rfl (dA ddX8_step (i := 63) rfl) ?_
              refine gX8_364 (pc := 117) (congrArg Value.int (show (sI (sI (sI V4 416 y (nI x.2.1.2.1)) 418 y (nI ((pdA D vl ws.1 (ruR ws.1 ws.2.1) ws.2.2 S.1.2.2.1 k).2.1.2.2.2.1 + x.2.1.2.2.2.1))) 419 y (nI ((pdA D vl ws.1 (ruR ws.1 ws.2.1) ws.2.2 S.1.2.2.1 k).2.1.2.2.2.2.1 + x.2.1.2.2.2.2.1))).1 420 y = nI ((pdA D vl ws.1 (ruR ws.1 ws.2.1) ws.2.2 S.1.2.2.1 k).2.1.2.2.2.2.2) from (sI_ne (by decide)).trans ((sI_ne (by decide)).trans ((sI_ne (by decide)).trans ((go _ (by decide)).trans hI.2.2.2.2.2.2.2.2))))) cx (dA ddX8_step (i := 64) rfl) h0 ?_
              refine x_aload_n (pc := 120) cx (dA ddX8_step (i := 65) rfl) rfl ?_
              refine gX8_340 (pc := 121) (congrArg Value.int (show (sI (sI (sI V4 416 y (nI x.2.1.2.1)) 418 y (nI ((pdA D vl ws.1 (ruR ws.1 ws.2.1) ws.2.2 S.1.2.2.1 k).2.1.2.2.2.1 + x.2.1.2.2.2.1))) 419 y (nI ((pdA D vl ws.1 (ruR ws.1 ws.2.1) ws.2.2 S.1.2.2.1 k).2.1.2.2.2.2.1 + x.2.1.2.2.2.2.1))).1 444 y = nI (x.2.1.2.2.2.2.2) from (sI_ne (by decide)).trans ((sI_ne (by decide)).trans ((sI_ne (by decide)).trans (g44))))) cx (dA ddX8_step (i := 66) rfl) h0 ?_
              refine x_iadd (pc := 124) cx (dA ddX8_step (i := 67) rfl) ?_
              rw [nI_add]
              refine pX8_364 (pc := 125)  cx (dA ddX8_step (i := 68) rfl) h0 ?_
              refine x_aload_n (pc := 128) cx (dA ddX8_step (i := 69) rfl) rfl ?_
              refine x_dup (pc := 129) cx rfl (dA ddX8_step (i := 70) rfl) ?_
              refine gX8_349 (pc := 130) (congrArg Value.int (show (sI (sI (sI (sI V4 416 y (nI x.2.1.2.1)) 418 y (nI ((pdA D vl ws.1 (ruR ws.1 ws.2.1) ws.2.2 S.1.2.2.1 k).2.1.2.2.2.1 + x.2.1.2.2.2.1))) 419 y (nI ((pdA D vl ws.1 (ruR ws.1 ws.2.1) ws.2.2 S.1.2.2.1 k).2.1.2.2.2.2.1 + x.2.1.2.2.2.2.1))) 420 y (nI ((pdA D vl ws.1 (ruR ws.1 ws.2.1) ws.2.2 S.1.2.2.1 k).2.1.2.2.2.2.2 + x.2.1.2.2.2.2.2))).1 415 y = nI ((pdA D vl ws.1 (ruR ws.1 ws.2.1) ws.2.2 S.1.2.2.1 k).2.1.1) from (sI_ne (by decide)).trans ((sI_ne (by decide)).trans ((sI_ne (by decide)).trans ((sI_ne (by decide)).trans ((go _ (by decide)).trans hI.2.2.2.2.1)))))) cx (dA ddX8_step (i := 71) rfl) h0 ?_
              refine x_iconst (pc := 133) (v := nI 1) cx (dA ddX8_step (i := 72) rfl) (by decide) ?_
              refine x_isub (pc := 134) cx (dA ddX8_step (i := 73) rfl) ?_
              rw [pk_sub (by omega)]
              refine pX8_349 (pc := 135)  cx (dA ddX8_step (i := 74) rfl) h0 ?_
              refine x_iinc (pc := 138) cx (dA ddX8_step (i := 75) rfl) rfl (iinc1 _) (by decide) rfl ?_
              refine x_goto (pc := 141) (tgt := 50) cx (dA ddX8_step (i := 76) rfl) (by decide) ?_
              have hI5 : stW V (sI (sI (sI (sI (sI V4 416 y (nI x.2.1.2.1)) 418 y (nI ((pdA D vl ws.1 (ruR ws.1 ws.2.1) ws.2.2 S.1.2.2.1 k).2.1.2.2.2.1 + x.2.1.2.2.2.1))) 419 y (nI ((pdA D vl ws.1 (ruR ws.1 ws.2.1) ws.2.2 S.1.2.2.1 k).2.1.2.2.2.2.1 + x.2.1.2.2.2.2.1))) 420 y (nI ((pdA D vl ws.1 (ruR ws.1 ws.2.1) ws.2.2 S.1.2.2.1 k).2.1.2.2.2.2.2 + x.2.1.2.2.2.2.2))) 415 y (nI ((pdA D vl ws.1 (ruR ws.1 ws.2.1) ws.2.2 S.1.2.2.1 k).2.1.1 - 1))) y ws.1 ((pdA D vl ws.1 (ruR ws.1 ws.2.1) ws.2.2 S.1.2.2.1 k).1 + x.1, shW x.2.1 (pdA D vl ws.1 (ruR ws.1 ws.2.1) ws.2.2 S.1.2.2.1 k).2.1.2.2.1 (pdA D vl ws.1 (ruR ws.1 ws.2.1) ws.2.2 S.1.2.2.1 k).2.1.2.2.2.1 (pdA D vl ws.1 (ruR ws.1 ws.2.1) ws.2.2 S.1.2.2.1 k).2.1.2.2.2.2.1 (pdA D vl ws.1 (ruR ws.1 ws.2.1) ws.2.2 S.1.2.2.1 k).2.1.2.2.2.2.2, x.2.2) := ⟨fun a a1 a2 => ((((((hI.1 a a1 a2).trans (gs a a1)).sI a1).sI a1).sI a1).sI a1).sI a1, fun d h1 h2 s hs => by show V4.2.2.1 _ s = _; rw [gA]; exact hI.2.1 d h1 h2 s hs, fun f hf => (sI_ne (by omega)).trans ((sI_ne (by omega)).trans ((sI_ne (by omega)).trans ((sI_ne (by omega)).trans ((sI_ne (by omega)).trans ((go f (by omega)).trans (hI.2.2.1 f hf)))))), (sI_ne (by decide)).trans ((sI_ne (by decide)).trans ((sI_ne (by decide)).trans ((sI_ne (by decide)).trans ((sI_ne (by decide)).trans (g13))))), sI_eq.trans (congrArg nI xl.symm), (sI_ne (by decide)).trans ((sI_ne (by decide)).trans ((sI_ne (by decide)).trans ((sI_ne (by decide)).trans (sI_eq)))), (sI_ne (by decide)).trans ((sI_ne (by decide)).trans ((sI_ne (by decide)).trans (sI_eq.trans (congrArg nI (Nat.add_comm _ _))))), (sI_ne (by decide)).trans ((sI_ne (by decide)).trans (sI_eq.trans (congrArg nI (Nat.add_comm _ _)))), (sI_ne (by decide)).trans (sI_eq.trans (congrArg nI (Nat.add_comm _ _)))⟩
              rw [← e9] at hI5
              have L := ih (by omega) _ hI5
              rw [show (pdA D vl ws.1 (ruR ws.1 ws.2.1) ws.2.2 S.1.2.2.1 (k + 1)).1 = (pdA D vl ws.1 (ruR ws.1 ws.2.1) ws.2.2 S.1.2.2.1 k).1 + x.1 by rw [e9]] at L
              exact x_enter L ⟨.inr rfl, .inr rfl, .inr rfl, .inr rfl, trivial⟩
        exact x_enter (L50 0 (Nat.zero_le _) V2 ⟨fun a a1 a2 => hF.1 a (by omega), fun d h1 h2 s hs => ((hF.2.2 d (by omega) s hs).2).trans (by rw [mlM_ld h1]), fun f _ => (hF.1 y (by omega)).1 f, ((hF.1 y (by omega)).1 413).trans hRM.2.2.1.2.2.2.1, ((hF.1 y (by omega)).1 415).trans g1, ((hF.1 y (by omega)).1 416).trans g2, ((hF.1 y (by omega)).1 418).trans g4, ((hF.1 y (by omega)).1 419).trans g5, ((hF.1 y (by omega)).1 420).trans g6⟩) ⟨.inr rfl, .inr rfl, .inr rfl, .inr rfl, trivial⟩
      · have l0 : ws.2.2.1 = 0 := nI_inj (b := 0) (by omega) (by decide) c30
        refine x_aload_n (pc := 33) cx (dA ddX8_step (i := 16) rfl) rfl ?_
        refine x_bipush (pc := 34) (v := -5) cx (dA ddX8_step (i := 17) rfl) (by decide) ?_
        refine x_V1 (pc := 36) mX8_119 h0 (c_X8_refuse hM (i := 3) (by decide) rfl) cx (dA ddX8_step (i := 18) rfl) (kI ?_)
        refine x_ireturn (pc := 39) cx (dA ddX8_step (i := 19) rfl) (by first | exact Nat.le_of_ble_eq_true rfl | omega) (by first | exact Nat.le_of_ble_eq_true rfl | omega) ?_
        exact pMI.r hRM (by decide) (by unfold fStep; rw [if_pos cn, hq]; exact if_pos l0)
  · have c9 := b2i_eq c9
    refine x_aload_n (pc := 12) cx (dA ddX8_step (i := 6) rfl) rfl ?_
    refine x_bipush (pc := 13) (v := -2) cx (dA ddX8_step (i := 7) rfl) (by decide) ?_
    refine x_V1 (pc := 15) mX8_119 h0 (c_X8_refuse hM (i := 0) (by decide) rfl) cx (dA ddX8_step (i := 8) rfl) (kI ?_)
    refine x_ireturn (pc := 18) cx (dA ddX8_step (i := 9) rfl) (by first | exact Nat.le_of_ble_eq_true rfl | omega) (by first | exact Nat.le_of_ble_eq_true rfl | omega) ?_
    first | exact pMI.r hRM (by decide) (if_neg (fun q => c9 q))
theorem c_X8_weeks {l : Launch} {Z : zP} {G : zG} {V : zV} {y : Nat} {zk : Option Nat} {S : SX} (hRM : RM Z G V y zk S) {D : Int32 → Int32} {vl : Int32 → Nat} (hDr : ∀ d, drw d = D d) (hvl : ∀ d, dvl d = vl d) (hv4 : ∀ d, vl d < 4) {h r n : Int32} : CT l Z yX8_weeks cX8_weeks 9 (some .int) 6 0 0 [.ref y, .int h, .int r, .int n] G V (pMI Z G V y zk (fWeeks D vl S h r n)) := by
  refine CT.of (by decide +kernel) (Nat.le_of_ble_eq_true rfl) (fun X hX cx => ?_)
  subst hX
  show Wm Z X 9 G V 0 0 _ 0 [(0, some (.ref y)), (1, some (.int h)), (2, some (.int r)), (3, some (.int n))] []
  have hM := hRM.1
  have h0 := hM.1
  have hc := hRM.2.2.1.1
  have c6 := hRM.2.2.1.2.1
  have hmu := hRM.2.2.2.2.2.2.1
  refine x_aload_n (pc := 0) cx (dA ddX8_weeks (i := 0) rfl) rfl ?_
  refine x_iload_n (pc := 1) cx (dA ddX8_weeks (i := 1) rfl) rfl ?_
  refine x_V1 (pc := 2) mX8_106 h0 (c_X8_isHouse hM hc c6) cx (dA ddX8_weeks (i := 2) rfl) (kI ?_)
  refine x_if_eq (pc := 5) (tgt := 32) cx (dA ddX8_weeks (i := 3) rfl) (by decide) (fun c5 => ?_) (fun c5 => ?_)
  · have c5 : ¬ okc S h := b2i_eq c5
    refine x_aload_n (pc := 32) cx (dA ddX8_weeks (i := 16) rfl) rfl ?_
    refine x_bipush (pc := 33) (v := -2) cx (dA ddX8_weeks (i := 17) rfl) (by decide) ?_
    refine x_V1 (pc := 35) mX8_119 h0 (c_X8_refuse hM (i := 0) (by decide) rfl) cx (dA ddX8_weeks (i := 18) rfl) (kI ?_)
    refine x_ireturn (pc := 38) cx (dA ddX8_weeks (i := 19) rfl) (by first | exact Nat.le_of_ble_eq_true rfl | omega) (by first | exact Nat.le_of_ble_eq_true rfl | omega) ?_
    first | exact pMI.r hRM (by decide) (if_neg (fun q => c5 q.1))
  · have ch : okc S h := b2i_ne c5
    obtain ⟨i, hi, rfl, ti⟩ := i32_in ch
    obtain ⟨hR, hN⟩ := hRM.2.2.1.2.2.1 i hi
    have hB := hN.1
    have b4 := hB.1
    have n125 := st125 b4
    have h06 := hN.2.1
    have hh : i < 8 := by omega
    refine x_iload_n (pc := 8) cx (dA ddX8_weeks (i := 4) rfl) rfl ?_
    refine x_i2l (pc := 9) cx (dA ddX8_weeks (i := 5) rfl) ?_
    refine x_lconst (pc := 10) (v := lN 0) cx (dA ddX8_weeks (i := 6) rfl) rfl ?_
    refine x_ldc2 (pc := 11) cx klX8_113 (dA ddX8_weeks (i := 7) rfl) ?_
    refine x_S3 (pc := 14) mX8_94 c_X8_in cx (dA ddX8_weeks (i := 8) rfl) (kI ?_)
    rw [l0_toInt, tl_toInt, show (lN 7).toInt = 7 from rfl]
    refine x_if_eq (pc := 17) (tgt := 32) cx (dA ddX8_weeks (i := 9) rfl) (by decide) (fun c17 => ?_) (fun c17 => ?_)
    · have c17 := b2i_eq c17
      refine x_aload_n (pc := 32) cx (dA ddX8_weeks (i := 16) rfl) rfl ?_
      refine x_bipush (pc := 33) (v := -2) cx (dA ddX8_weeks (i := 17) rfl) (by decide) ?_
      refine x_V1 (pc := 35) mX8_119 h0 (c_X8_refuse hM (i := 0) (by decide) rfl) cx (dA ddX8_weeks (i := 18) rfl) (kI ?_)
      refine x_ireturn (pc := 38) cx (dA ddX8_weeks (i := 19) rfl) (by first | exact Nat.le_of_ble_eq_true rfl | omega) (by first | exact Nat.le_of_ble_eq_true rfl | omega) ?_
      first | exact pMI.r hRM (by decide) (if_neg (fun q => by have z := q.2.1; exact c17 ⟨z.1, by have := z.2; omega⟩))
    · have cr := b2i_ne c17
      obtain ⟨r, hr, rfl, tr⟩ := i32_in (x := r) (n := 8) ⟨cr.1, by have := cr.2; omega⟩
      have cr : oks (nI r) := ⟨cr.1, by have := cr.2; omega⟩
      refine x_iload_n (pc := 20) cx (dA ddX8_weeks (i := 10) rfl) rfl ?_
      refine x_i2l (pc := 21) cx (dA ddX8_weeks (i := 11) rfl) ?_
      refine x_lconst (pc := 22) (v := lN 1) cx (dA ddX8_weeks (i := 12) rfl) rfl ?_
      refine x_ldc2 (pc := 23) cx klX8_370 (dA ddX8_weeks (i := 13) rfl) ?_
      refine x_S3 (pc := 26) mX8_94 c_X8_in cx (dA ddX8_weeks (i := 14) rfl) (kI ?_)
      rw [tl_toInt, show (lN 1).toInt = 1 from rfl, show (lN 50).toInt = 50 from rfl]
      refine x_if_ne (pc := 29) (tgt := 39) cx (dA ddX8_weeks (i := 15) rfl) (by decide) (fun c29 => ?_) (fun c29 => ?_)
      · have cn := b2i_ne c29
        obtain ⟨n, hn, rfl, tn9⟩ := i32_in (x := n) (n := 51) ⟨by omega, by omega⟩
        refine x_aload_n (pc := 39) cx (dA ddX8_weeks (i := 20) rfl) rfl ?_
        refine x_iload_n (pc := 40) cx (dA ddX8_weeks (i := 21) rfl) rfl ?_
        refine x_V1 (pc := 41) mX8_271 h0 (c_X8_noRule hRM hr) cx (dA ddX8_weeks (i := 22) rfl) (kE fun x V2 hx => ?_)
        refine x_istore (pc := 44) cx (dA ddX8_weeks (i := 23) rfl) (by decide) rfl ?_
        refine x_iload (pc := 46) cx (dA ddX8_weeks (i := 24) rfl) rfl ?_
        refine x_if_eq (pc := 48) (tgt := 54) cx (dA ddX8_weeks (i := 25) rfl) (by decide) (fun c48 => ?_) (fun c48 => ?_)
        · obtain ⟨-, eV, q, hq⟩ := hx.resolve_right (fun h => by rcases h with ⟨e, -⟩ | ⟨e, -⟩ <;> rw [e] at c48 <;> exact absurd c48 (by decide))
          have eV := eV.symm
          subst eV
          have hR5 := ((hRM.2.2.2.1 r hr).2.2 q hq).2.1
          have hs : shX S (nI r) = some (.inr q) := (shX_at hr).trans hq
          refine x_aload_n (pc := 54) cx (dA ddX8_weeks (i := 28) rfl) rfl ?_
          refine x_iload_n (pc := 55) cx (dA ddX8_weeks (i := 29) rfl) rfl ?_
          refine x_V1 (pc := 56) mX8_264 h0 (c_X8_findBest hM hh hR hB hN (mu := 0) (hmu_0 hmu)) cx (dA ddX8_weeks (i := 30) rfl) (kVx fun V2 hF => ?_)
          refine x_iconst (pc := 59) (v := nI 0) cx (dA ddX8_weeks (i := 31) rfl) (by decide) ?_
          refine x_istore (pc := 60) cx (dA ddX8_weeks (i := 32) rfl) (by decide) rfl ?_
          refine x_iconst (pc := 62) (v := nI 0) cx (dA ddX8_weeks (i := 33) rfl) (by decide) ?_
          refine x_istore (pc := 63) cx (dA ddX8_weeks (i := 34) rfl) (by decide) rfl ?_
          have L65 : ∀ k, k ≤ n → ∀ V3, swW V V3 y (S.1.2.1 i) (weP D vl (S.1.2.1 i) (ruR (S.1.2.1 i) q) S.1.2.2.1 k).2 → Wm Z X 9 G V3 0 0 (rQ Z X 0 0 (pMI Z G V y zk (fWeeks D vl S (nI i) (nI r) (nI n)))) 65 [(0, some (.ref y)), (1, some (.int (nI i))), (2, some (.int (nI r))), (3, some (.int (nI n))), (5, some (.int (nI (weP D vl (S.1.2.1 i) (ruR (S.1.2.1 i) q) S.1.2.2.1 k).1))), (6, some (.int (nI k)))] [] := by
            refine lpU n (fun k hk ih => ?_)
            intro V3 hI
            refine x_iload (pc := 65) cx (dA ddX8_weeks (i := 35) rfl) rfl ?_
            refine x_iload_n (pc := 67) cx (dA ddX8_weeks (i := 36) rfl) rfl ?_
            refine x_icmp_ge (pc := 68) (tgt := 122) cx (dA ddX8_weeks (i := 37) rfl) (by decide) (fun c68 => ?_) (fun c68 => ?_)
            · have c68 := cleT (by omega) (by omega) c68
              have ek : n = k := by omega
              subst ek
              refine x_iload (pc := 122) cx (dA ddX8_weeks (i := 65) rfl) rfl ?_
              refine x_ireturn (pc := 124) cx (dA ddX8_weeks (i := 66) rfl) (by first | exact Nat.le_of_ble_eq_true rfl | omega) (by first | exact Nat.le_of_ble_eq_true rfl | omega) ?_
              have sa : ∀ a, a ≠ y → (a < y + 39 ∨ y + 94 ≤ a) → same4 V V3 a := hI.1
              have out : ∀ a, a < y ∨ y + 94 ≤ a → same4 V V3 a := fun a ha => sa a (by omega) (by omega)
              refine pMI.m (S' := putW S (S.1.1, S.1.2.1, (weP D vl (S.1.2.1 i) (ruR (S.1.2.1 i) q) S.1.2.2.1 n).2, S.1.2.2.2)) (by unfold fWeeks; rw [if_pos ⟨ch, cr, cn⟩, hs]; simp only [hX, ti, tn9]) ⟨hRM.mk' out ?_ (fun w hw => (hRM.2.2.2.1 w hw).st ((sa _ (by omega) (by omega)).2.2.1 w) ((sa _ (by omega) (by omega)).2.2.1 w) ((sa _ (by omega) (by omega)).2.2.1 w) (fun j => (sa _ (by omega) (by omega)).2.2.2 j) ((sa _ (by omega) (by omega)).2.2.1 w) ((sa _ (by omega) (by omega)).2.2.1 w) (fun j => (sa _ (by omega) (by omega)).2.2.1 j) ((sa _ (by omega) (by omega)).2.2.1 w)) ?_ (fun k hk => ((sa _ (by omega) (by omega)).2.2.1 _).trans (hRM.2.2.2.2.2.1 k hk)) ((hI.2.2.1 439 (by omega)).trans hmu) rfl, out⟩
              · obtain ⟨w1, w2, w3, w4, w5, w6⟩ := hRM.2.2.1
                refine ⟨(hI.2.2.1 411 (by omega)).trans w1, w2, fun k (hk : k < S.1.1) => ⟨fun j hj => ((sa _ (by omega) (by omega)).2.2.1 j).trans ((w3 k hk).1 j hj), (w3 k hk).2⟩, hI.2.2.2, fun e => (hI.2.2.1 414 (by omega)).trans (w5 e), fun ws hw => ?_⟩
                obtain ⟨f1, f2, f3, f4, ⟨g1, g2, g3, g4, g5, g6⟩, f6⟩ := w6 ws hw
                exact ⟨(hI.2.2.1 414 (by omega)).trans f1, fun j hj => ((sa _ (by omega) (by omega)).2.2.1 j).trans (f2 j hj), f3, f4.st ((sa _ (by omega) (by omega)).2.2.1 8) ((sa _ (by omega) (by omega)).2.2.1 8) (fun j => (sa _ (by omega) (by omega)).2.2.1 j), ⟨(hI.2.2.1 415 (by omega)).trans g1, (hI.2.2.1 416 (by omega)).trans g2, (hI.2.2.1 417 (by omega)).trans g3, (hI.2.2.1 418 (by omega)).trans g4, (hI.2.2.1 419 (by omega)).trans g5, (hI.2.2.1 420 (by omega)).trans g6⟩, f6⟩
              · obtain ⟨t1, t2, t3, t4⟩ := hRM.2.2.2.2.1
                exact ⟨(hI.2.2.1 409 (by omega)).trans t1, fun j hj => ((sa _ (by omega) (by omega)).2.2.1 j).trans (t2 j hj), t3, t4⟩
            · have c68 := cleF (by omega) (by omega) c68
              refine x_iconst (pc := 71) (v := nI 0) cx (dA ddX8_weeks (i := 38) rfl) (by decide) ?_
              refine x_istore (pc := 72) cx (dA ddX8_weeks (i := 39) rfl) (by decide) rfl ?_
              refine x_aload_n (pc := 74) cx (dA ddX8_weeks (i := 40) rfl) rfl ?_
              refine gX8_45 (pc := 75) (rfA hM.2.2.2.2.2.2.2.2.2.2.2.1.1) cx (dA ddX8_weeks (i := 41) rfl) h0 ?_
              refine x_iload_n (pc := 78) cx (dA ddX8_weeks (i := 42) rfl) rfl ?_
              refine x_aaload (pc := 79) cx (dA ddX8_weeks (i := 43) rfl) hM.2.2.2.2.2.2.2.2.2.2.2.1.2.1 (by decide) (by decide) hh (by decide) ?_
              rw [arA (hM.2.2.2.2.2.2.2.2.2.2.2.1.2.2 i hh).1]
              refine x_iconst (pc := 80) (v := nI 0) cx (dA ddX8_weeks (i := 44) rfl) (by decide) ?_
              refine x_iaload (pc := 81) cx (dA ddX8_weeks (i := 45) rfl) (hM.2.2.2.2.2.2.2.2.2.2.2.1.2.2 i hh).2 (by decide) (by decide) ?_
              rw [show V3.2.2.1 (y + 29 + 1 + i) 0 = nI (S.1.2.1 i 0) from ((hI.1 _ (by omega) (by omega)).2.2.1 0).trans (hR 0 (by omega))]
              refine x_istore (pc := 82) cx (dA ddX8_weeks (i := 46) rfl) (by decide) rfl ?_
              have L84 : ∀ j, j ≤ (S.1.2.1 i) 0 → ∀ V4, swW V V4 y (S.1.2.1 i) (pdA D vl (S.1.2.1 i) (ruR (S.1.2.1 i) q) ((S.1.2.1 i) 0, 0, 0, 0, 0, 0) (weP D vl (S.1.2.1 i) (ruR (S.1.2.1 i) q) S.1.2.2.1 k).2 j).2.2 → Wm Z X 9 G V4 0 0 (rQ Z X 0 0 (pMI Z G V y zk (fWeeks D vl S (nI i) (nI r) (nI n)))) 84 [(0, some (.ref y)), (1, some (.int (nI i))), (2, some (.int (nI r))), (3, some (.int (nI n))), (5, some (.int (nI ((weP D vl (S.1.2.1 i) (ruR (S.1.2.1 i) q) S.1.2.2.1 k).1 + (pdA D vl (S.1.2.1 i) (ruR (S.1.2.1 i) q) ((S.1.2.1 i) 0, 0, 0, 0, 0, 0) (weP D vl (S.1.2.1 i) (ruR (S.1.2.1 i) q) S.1.2.2.1 k).2 j).1)))), (6, some (.int (nI k))), (7, some (.int (nI (pdA D vl (S.1.2.1 i) (ruR (S.1.2.1 i) q) ((S.1.2.1 i) 0, 0, 0, 0, 0, 0) (weP D vl (S.1.2.1 i) (ruR (S.1.2.1 i) q) S.1.2.2.1 k).2 j).2.1.2.1))), (8, some (.int (nI ((S.1.2.1 i) 0 - j))))] [] := by
                refine lpU ((S.1.2.1 i) 0) (fun j hj ih2 => ?_)
                intro V4 hJ
                refine x_iload (pc := 84) cx (dA ddX8_weeks (i := 47) rfl) rfl ?_
                refine x_if_le (pc := 86) (tgt := 116) cx (dA ddX8_weeks (i := 48) rfl) (by decide) (fun c86 => ?_) (fun c86 => ?_)
                · have ej : j = (S.1.2.1 i) 0 := by have := cleT (b := 0) (by omega) (by omega) c86; omega
                  subst ej
                  refine x_iinc (pc := 116) cx (dA ddX8_weeks (i := 63) rfl) rfl (iinc1 _) (by decide) rfl ?_
                  refine x_goto (pc := 119) (tgt := 65) cx (dA ddX8_weeks (i := 64) rfl) (by decide) ?_
                  have es : (pdA D vl (S.1.2.1 i) (ruR (S.1.2.1 i) q) ((S.1.2.1 i) 0, 0, 0, 0, 0, 0) (weP D vl (S.1.2.1 i) (ruR (S.1.2.1 i) q) S.1.2.2.1 k).2 6) = (pdA D vl (S.1.2.1 i) (ruR (S.1.2.1 i) q) ((S.1.2.1 i) 0, 0, 0, 0, 0, 0) (weP D vl (S.1.2.1 i) (ruR (S.1.2.1 i) q) S.1.2.2.1 k).2 ((S.1.2.1 i) 0)) := pdA_stay (by have h := pdA_l (D := D) (vl := vl) (L := (ruR (S.1.2.1 i) q)) (τ := ((S.1.2.1 i) 0, 0, 0, 0, 0, 0)) (d := (weP D vl (S.1.2.1 i) (ruR (S.1.2.1 i) q) S.1.2.2.1 k).2) b4 (show (0 : Nat) < 5 ^ (S.1.2.1 i) 4 from Nat.pow_pos (by decide)) ((S.1.2.1 i) 0); rw [h]; exact Nat.sub_self _) h06.2
                  have ew : (weP D vl (S.1.2.1 i) (ruR (S.1.2.1 i) q) S.1.2.2.1 (k + 1)) = ((weP D vl (S.1.2.1 i) (ruR (S.1.2.1 i) q) S.1.2.2.1 k).1 + (pdA D vl (S.1.2.1 i) (ruR (S.1.2.1 i) q) ((S.1.2.1 i) 0, 0, 0, 0, 0, 0) (weP D vl (S.1.2.1 i) (ruR (S.1.2.1 i) q) S.1.2.2.1 k).2 ((S.1.2.1 i) 0)).1, (pdA D vl (S.1.2.1 i) (ruR (S.1.2.1 i) q) ((S.1.2.1 i) 0, 0, 0, 0, 0, 0) (weP D vl (S.1.2.1 i) (ruR (S.1.2.1 i) q) S.1.2.2.1 k).2 ((S.1.2.1 i) 0)).2.2) := by show ((weP D vl (S.1.2.1 i) (ruR (S.1.2.1 i) q) S.1.2.2.1 k).1 + (pdA D vl (S.1.2.1 i) (ruR (S.1.2.1 i) q) ((S.1.2.1 i) 0, 0, 0, 0, 0, 0) (weP D vl (S.1.2.1 i) (ruR (S.1.2.1 i) q) S.1.2.2.1 k).2 6).1, (pdA D vl (S.1.2.1 i) (ruR (S.1.2.1 i) q) ((S.1.2.1 i) 0, 0, 0, 0, 0, 0) (weP D vl (S.1.2.1 i) (ruR (S.1.2.1 i) q) S.1.2.2.1 k).2 6).2.2) = _; rw [es]
                  have L := ih (by omega) V4 (by rw [ew]; exact hJ)
                  rw [ew] at L
                  exact x_enter L ⟨.inr rfl, .inr rfl, .inr rfl, .inr rfl, .inr rfl, .inr rfl, trivial⟩
                · have l1 : 0 < (S.1.2.1 i) 0 - j := cleF (b := 0) (by omega) (by omega) c86
                  have pl := pdA_l (D := D) (vl := vl) (L := (ruR (S.1.2.1 i) q)) (τ := ((S.1.2.1 i) 0, 0, 0, 0, 0, 0)) (d := (weP D vl (S.1.2.1 i) (ruR (S.1.2.1 i) q) S.1.2.2.1 k).2) b4 (show (0 : Nat) < 5 ^ (S.1.2.1 i) 4 from Nat.pow_pos (by decide)) j
                  dsimp only at pl
                  have ps := pdA_st (D := D) (vl := vl) (L := (ruR (S.1.2.1 i) q)) (τ := ((S.1.2.1 i) 0, 0, 0, 0, 0, 0)) (d := (weP D vl (S.1.2.1 i) (ruR (S.1.2.1 i) q) S.1.2.2.1 k).2) b4 (show (0 : Nat) < 5 ^ (S.1.2.1 i) 4 from Nat.pow_pos (by decide)) j
                  have e9 : (pdA D vl (S.1.2.1 i) (ruR (S.1.2.1 i) q) ((S.1.2.1 i) 0, 0, 0, 0, 0, 0) (weP D vl (S.1.2.1 i) (ruR (S.1.2.1 i) q) S.1.2.2.1 k).2 (j + 1)) = ((pdA D vl (S.1.2.1 i) (ruR (S.1.2.1 i) q) ((S.1.2.1 i) 0, 0, 0, 0, 0, 0) (weP D vl (S.1.2.1 i) (ruR (S.1.2.1 i) q) S.1.2.2.1 k).2 j).1 + (dayP D vl (S.1.2.1 i) (ruR (S.1.2.1 i) q) (pdA D vl (S.1.2.1 i) (ruR (S.1.2.1 i) q) ((S.1.2.1 i) 0, 0, 0, 0, 0, 0) (weP D vl (S.1.2.1 i) (ruR (S.1.2.1 i) q) S.1.2.2.1 k).2 j).2.2 (pdA D vl (S.1.2.1 i) (ruR (S.1.2.1 i) q) ((S.1.2.1 i) 0, 0, 0, 0, 0, 0) (weP D vl (S.1.2.1 i) (ruR (S.1.2.1 i) q) S.1.2.2.1 k).2 j).2.1).1, (dayP D vl (S.1.2.1 i) (ruR (S.1.2.1 i) q) (pdA D vl (S.1.2.1 i) (ruR (S.1.2.1 i) q) ((S.1.2.1 i) 0, 0, 0, 0, 0, 0) (weP D vl (S.1.2.1 i) (ruR (S.1.2.1 i) q) S.1.2.2.1 k).2 j).2.2 (pdA D vl (S.1.2.1 i) (ruR (S.1.2.1 i) q) ((S.1.2.1 i) 0, 0, 0, 0, 0, 0) (weP D vl (S.1.2.1 i) (ruR (S.1.2.1 i) q) S.1.2.2.1 k).2 j).2.1).2) := if_neg (by omega)
                  have e8 : dayP D vl (S.1.2.1 i) (ruR (S.1.2.1 i) q) (pdA D vl (S.1.2.1 i) (ruR (S.1.2.1 i) q) ((S.1.2.1 i) 0, 0, 0, 0, 0, 0) (weP D vl (S.1.2.1 i) (ruR (S.1.2.1 i) q) S.1.2.2.1 k).2 j).2.2 (pdA D vl (S.1.2.1 i) (ruR (S.1.2.1 i) q) ((S.1.2.1 i) 0, 0, 0, 0, 0, 0) (weP D vl (S.1.2.1 i) (ruR (S.1.2.1 i) q) S.1.2.2.1 k).2 j).2.1 = ((dayP D vl (S.1.2.1 i) (fun d s => ruL (S.1.2.1 i) q.1 q.2.1 q.2.2.1 q.2.2.2 d s) (pdA D vl (S.1.2.1 i) (ruR (S.1.2.1 i) q) ((S.1.2.1 i) 0, 0, 0, 0, 0, 0) (weP D vl (S.1.2.1 i) (ruR (S.1.2.1 i) q) S.1.2.2.1 k).2 j).2.2 ((pdA D vl (S.1.2.1 i) (ruR (S.1.2.1 i) q) ((S.1.2.1 i) 0, 0, 0, 0, 0, 0) (weP D vl (S.1.2.1 i) (ruR (S.1.2.1 i) q) S.1.2.2.1 k).2 j).2.1.1, (pdA D vl (S.1.2.1 i) (ruR (S.1.2.1 i) q) ((S.1.2.1 i) 0, 0, 0, 0, 0, 0) (weP D vl (S.1.2.1 i) (ruR (S.1.2.1 i) q) S.1.2.2.1 k).2 j).2.1.2.1, 0, 0, 0, 0)).1, shW (dayP D vl (S.1.2.1 i) (fun d s => ruL (S.1.2.1 i) q.1 q.2.1 q.2.2.1 q.2.2.2 d s) (pdA D vl (S.1.2.1 i) (ruR (S.1.2.1 i) q) ((S.1.2.1 i) 0, 0, 0, 0, 0, 0) (weP D vl (S.1.2.1 i) (ruR (S.1.2.1 i) q) S.1.2.2.1 k).2 j).2.2 ((pdA D vl (S.1.2.1 i) (ruR (S.1.2.1 i) q) ((S.1.2.1 i) 0, 0, 0, 0, 0, 0) (weP D vl (S.1.2.1 i) (ruR (S.1.2.1 i) q) S.1.2.2.1 k).2 j).2.1.1, (pdA D vl (S.1.2.1 i) (ruR (S.1.2.1 i) q) ((S.1.2.1 i) 0, 0, 0, 0, 0, 0) (weP D vl (S.1.2.1 i) (ruR (S.1.2.1 i) q) S.1.2.2.1 k).2 j).2.1.2.1, 0, 0, 0, 0)).2.1 (pdA D vl (S.1.2.1 i) (ruR (S.1.2.1 i) q) ((S.1.2.1 i) 0, 0, 0, 0, 0, 0) (weP D vl (S.1.2.1 i) (ruR (S.1.2.1 i) q) S.1.2.2.1 k).2 j).2.1.2.2.1 (pdA D vl (S.1.2.1 i) (ruR (S.1.2.1 i) q) ((S.1.2.1 i) 0, 0, 0, 0, 0, 0) (weP D vl (S.1.2.1 i) (ruR (S.1.2.1 i) q) S.1.2.2.1 k).2 j).2.1.2.2.2.1 (pdA D vl (S.1.2.1 i) (ruR (S.1.2.1 i) q) ((S.1.2.1 i) 0, 0, 0, 0, 0, 0) (weP D vl (S.1.2.1 i) (ruR (S.1.2.1 i) q) S.1.2.2.1 k).2 j).2.1.2.2.2.2.1 (pdA D vl (S.1.2.1 i) (ruR (S.1.2.1 i) q) ((S.1.2.1 i) 0, 0, 0, 0, 0, 0) (weP D vl (S.1.2.1 i) (ruR (S.1.2.1 i) q) S.1.2.2.1 k).2 j).2.1.2.2.2.2.2, (dayP D vl (S.1.2.1 i) (fun d s => ruL (S.1.2.1 i) q.1 q.2.1 q.2.2.1 q.2.2.2 d s) (pdA D vl (S.1.2.1 i) (ruR (S.1.2.1 i) q) ((S.1.2.1 i) 0, 0, 0, 0, 0, 0) (weP D vl (S.1.2.1 i) (ruR (S.1.2.1 i) q) S.1.2.2.1 k).2 j).2.2 ((pdA D vl (S.1.2.1 i) (ruR (S.1.2.1 i) q) ((S.1.2.1 i) 0, 0, 0, 0, 0, 0) (weP D vl (S.1.2.1 i) (ruR (S.1.2.1 i) q) S.1.2.2.1 k).2 j).2.1.1, (pdA D vl (S.1.2.1 i) (ruR (S.1.2.1 i) q) ((S.1.2.1 i) 0, 0, 0, 0, 0, 0) (weP D vl (S.1.2.1 i) (ruR (S.1.2.1 i) q) S.1.2.2.1 k).2 j).2.1.2.1, 0, 0, 0, 0)).2.2) := by have h := dayP_sh (D := D) (vl := vl) (N := (S.1.2.1 i)) (L := (ruR (S.1.2.1 i) q)) (d := (pdA D vl (S.1.2.1 i) (ruR (S.1.2.1 i) q) ((S.1.2.1 i) 0, 0, 0, 0, 0, 0) (weP D vl (S.1.2.1 i) (ruR (S.1.2.1 i) q) S.1.2.2.1 k).2 j).2.2) (τ := ((pdA D vl (S.1.2.1 i) (ruR (S.1.2.1 i) q) ((S.1.2.1 i) 0, 0, 0, 0, 0, 0) (weP D vl (S.1.2.1 i) (ruR (S.1.2.1 i) q) S.1.2.2.1 k).2 j).2.1.1, (pdA D vl (S.1.2.1 i) (ruR (S.1.2.1 i) q) ((S.1.2.1 i) 0, 0, 0, 0, 0, 0) (weP D vl (S.1.2.1 i) (ruR (S.1.2.1 i) q) S.1.2.2.1 k).2 j).2.1.2.1, 0, 0, 0, 0)) (a := (pdA D vl (S.1.2.1 i) (ruR (S.1.2.1 i) q) ((S.1.2.1 i) 0, 0, 0, 0, 0, 0) (weP D vl (S.1.2.1 i) (ruR (S.1.2.1 i) q) S.1.2.2.1 k).2 j).2.1.2.2.1) (b := (pdA D vl (S.1.2.1 i) (ruR (S.1.2.1 i) q) ((S.1.2.1 i) 0, 0, 0, 0, 0, 0) (weP D vl (S.1.2.1 i) (ruR (S.1.2.1 i) q) S.1.2.2.1 k).2 j).2.1.2.2.2.1) (p := (pdA D vl (S.1.2.1 i) (ruR (S.1.2.1 i) q) ((S.1.2.1 i) 0, 0, 0, 0, 0, 0) (weP D vl (S.1.2.1 i) (ruR (S.1.2.1 i) q) S.1.2.2.1 k).2 j).2.1.2.2.2.2.1) (r := (pdA D vl (S.1.2.1 i) (ruR (S.1.2.1 i) q) ((S.1.2.1 i) 0, 0, 0, 0, 0, 0) (weP D vl (S.1.2.1 i) (ruR (S.1.2.1 i) q) S.1.2.2.1 k).2 j).2.1.2.2.2.2.2); rw [← shW_0] at h; exact h
                  rw [e8] at e9
                  refine x_iload (pc := 89) cx (dA ddX8_weeks (i := 49) rfl) rfl ?_
                  refine x_aload_n (pc := 91) cx (dA ddX8_weeks (i := 50) rfl) rfl ?_
                  refine x_iload_n (pc := 92) cx (dA ddX8_weeks (i := 51) rfl) rfl ?_
                  refine x_iload (pc := 93) cx (dA ddX8_weeks (i := 52) rfl) rfl ?_
                  refine x_iload (pc := 95) cx (dA ddX8_weeks (i := 53) rfl) rfl ?_
                  refine x_iload_n (pc := 97) cx (dA ddX8_weeks (i := 54) rfl) rfl ?_
                  rw [← pl]
                  refine x_V4 (pc := 98) mX8_367 h0 (c_X8_day (V := V4) hM hh (fun j hj => ((hJ.1 _ (by omega) (by omega)).2.2.1 j).trans (hR j hj)) hB hN (r := r) (by omega) (hR5.st ((hJ.1 _ (by omega) (by omega)).2.2.1 r) ((hJ.1 _ (by omega) (by omega)).2.2.1 r) (fun j => (hJ.1 _ (by omega) (by omega)).2.2.1 j)) hDr hvl hv4 (d := (pdA D vl (S.1.2.1 i) (ruR (S.1.2.1 i) q) ((S.1.2.1 i) 0, 0, 0, 0, 0, 0) (weP D vl (S.1.2.1 i) (ruR (S.1.2.1 i) q) S.1.2.2.1 k).2 j).2.2) hJ.2.2.2 (z := (pdA D vl (S.1.2.1 i) (ruR (S.1.2.1 i) q) ((S.1.2.1 i) 0, 0, 0, 0, 0, 0) (weP D vl (S.1.2.1 i) (ruR (S.1.2.1 i) q) S.1.2.2.1 k).2 j).2.1.1) (s := (pdA D vl (S.1.2.1 i) (ruR (S.1.2.1 i) q) ((S.1.2.1 i) 0, 0, 0, 0, 0, 0) (weP D vl (S.1.2.1 i) (ruR (S.1.2.1 i) q) S.1.2.2.1 k).2 j).2.1.2.1) (by omega) (by omega) ps.2 (fun _ => hJ.2.1 _ (by omega) (by omega) _ ps.2)) cx (dA ddX8_weeks (i := 55) rfl) (kI ?_)
                  refine x_iadd (pc := 101) cx (dA ddX8_weeks (i := 56) rfl) ?_
                  rw [nI_add]
                  refine x_istore (pc := 102) cx (dA ddX8_weeks (i := 57) rfl) (by decide) rfl ?_
                  refine x_aload_n (pc := 104) cx (dA ddX8_weeks (i := 58) rfl) rfl ?_
                  refine gX8_343 (pc := 105) (congrArg Value.int (show (sI (yV V4 y (dayP D vl (S.1.2.1 i) (fun d s => ruL (S.1.2.1 i) q.1 q.2.1 q.2.2.1 q.2.2.2 d s) (pdA D vl (S.1.2.1 i) (ruR (S.1.2.1 i) q) ((S.1.2.1 i) 0, 0, 0, 0, 0, 0) (weP D vl (S.1.2.1 i) (ruR (S.1.2.1 i) q) S.1.2.2.1 k).2 j).2.2 ((pdA D vl (S.1.2.1 i) (ruR (S.1.2.1 i) q) ((S.1.2.1 i) 0, 0, 0, 0, 0, 0) (weP D vl (S.1.2.1 i) (ruR (S.1.2.1 i) q) S.1.2.2.1 k).2 j).2.1.1, (pdA D vl (S.1.2.1 i) (ruR (S.1.2.1 i) q) ((S.1.2.1 i) 0, 0, 0, 0, 0, 0) (weP D vl (S.1.2.1 i) (ruR (S.1.2.1 i) q) S.1.2.2.1 k).2 j).2.1.2.1, 0, 0, 0, 0)).2.2 (dayP D vl (S.1.2.1 i) (fun d s => ruL (S.1.2.1 i) q.1 q.2.1 q.2.2.1 q.2.2.2 d s) (pdA D vl (S.1.2.1 i) (ruR (S.1.2.1 i) q) ((S.1.2.1 i) 0, 0, 0, 0, 0, 0) (weP D vl (S.1.2.1 i) (ruR (S.1.2.1 i) q) S.1.2.2.1 k).2 j).2.2 ((pdA D vl (S.1.2.1 i) (ruR (S.1.2.1 i) q) ((S.1.2.1 i) 0, 0, 0, 0, 0, 0) (weP D vl (S.1.2.1 i) (ruR (S.1.2.1 i) q) S.1.2.2.1 k).2 j).2.1.1, (pdA D vl (S.1.2.1 i) (ruR (S.1.2.1 i) q) ((S.1.2.1 i) 0, 0, 0, 0, 0, 0) (weP D vl (S.1.2.1 i) (ruR (S.1.2.1 i) q) S.1.2.2.1 k).2 j).2.1.2.1, 0, 0, 0, 0)).2.1.2.2.2.1 (dayP D vl (S.1.2.1 i) (fun d s => ruL (S.1.2.1 i) q.1 q.2.1 q.2.2.1 q.2.2.2 d s) (pdA D vl (S.1.2.1 i) (ruR (S.1.2.1 i) q) ((S.1.2.1 i) 0, 0, 0, 0, 0, 0) (weP D vl (S.1.2.1 i) (ruR (S.1.2.1 i) q) S.1.2.2.1 k).2 j).2.2 ((pdA D vl (S.1.2.1 i) (ruR (S.1.2.1 i) q) ((S.1.2.1 i) 0, 0, 0, 0, 0, 0) (weP D vl (S.1.2.1 i) (ruR (S.1.2.1 i) q) S.1.2.2.1 k).2 j).2.1.1, (pdA D vl (S.1.2.1 i) (ruR (S.1.2.1 i) q) ((S.1.2.1 i) 0, 0, 0, 0, 0, 0) (weP D vl (S.1.2.1 i) (ruR (S.1.2.1 i) q) S.1.2.2.1 k).2 j).2.1.2.1, 0, 0, 0, 0)).2.1.2.2.2.2.1 (dayP D vl (S.1.2.1 i) (fun d s => ruL (S.1.2.1 i) q.1 q.2.1 q.2.2.1 q.2.2.2 d s) (pdA D vl (S.1.2.1 i) (ruR (S.1.2.1 i) q) ((S.1.2.1 i) 0, 0, 0, 0, 0, 0) (weP D vl (S.1.2.1 i) (ruR (S.1.2.1 i) q) S.1.2.2.1 k).2 j).2.2 ((pdA D vl (S.1.2.1 i) (ruR (S.1.2.1 i) q) ((S.1.2.1 i) 0, 0, 0, 0, 0, 0) (weP D vl (S.1.2.1 i) (ruR (S.1.2.1 i) q) S.1.2.2.1 k).2 j).2.1.1, (pdA D vl (S.1.2.1 i) (ruR (S.1.2.1 i) q) ((S.1.2.1 i) 0, 0, 0, 0, 0, 0) (weP D vl (S.1.2.1 i) (ruR (S.1.2.1 i) q) S.1.2.2.1 k).2 j).2.1.2.1, 0, 0, 0, 0)).2.1.2.2.2.2.2) 445 y (nI (dayP D vl (S.1.2.1 i) (fun d s => ruL (S.1.2.1 i) q.1 q.2.1 q.2.2.1 q.2.2.2 d s) (pdA D vl (S.1.2.1 i) (ruR (S.1.2.1 i) q) ((S.1.2.1 i) 0, 0, 0, 0, 0, 0) (weP D vl (S.1.2.1 i) (ruR (S.1.2.1 i) q) S.1.2.2.1 k).2 j).2.2 ((pdA D vl (S.1.2.1 i) (ruR (S.1.2.1 i) q) ((S.1.2.1 i) 0, 0, 0, 0, 0, 0) (weP D vl (S.1.2.1 i) (ruR (S.1.2.1 i) q) S.1.2.2.1 k).2 j).2.1.1, (pdA D vl (S.1.2.1 i) (ruR (S.1.2.1 i) q) ((S.1.2.1 i) 0, 0, 0, 0, 0, 0) (weP D vl (S.1.2.1 i) (ruR (S.1.2.1 i) q) S.1.2.2.1 k).2 j).2.1.2.1, 0, 0, 0, 0)).2.1.2.1)).1 445 y = nI (dayP D vl (S.1.2.1 i) (fun d s => ruL (S.1.2.1 i) q.1 q.2.1 q.2.2.1 q.2.2.2 d s) (pdA D vl (S.1.2.1 i) (ruR (S.1.2.1 i) q) ((S.1.2.1 i) 0, 0, 0, 0, 0, 0) (weP D vl (S.1.2.1 i) (ruR (S.1.2.1 i) q) S.1.2.2.1 k).2 j).2.2 ((pdA D vl (S.1.2.1 i) (ruR (S.1.2.1 i) q) ((S.1.2.1 i) 0, 0, 0, 0, 0, 0) (weP D vl (S.1.2.1 i) (ruR (S.1.2.1 i) q) S.1.2.2.1 k).2 j).2.1.1, (pdA D vl (S.1.2.1 i) (ruR (S.1.2.1 i) q) ((S.1.2.1 i) 0, 0, 0, 0, 0, 0) (weP D vl (S.1.2.1 i) (ruR (S.1.2.1 i) q) S.1.2.2.1 k).2 j).2.1.2.1, 0, 0, 0, 0)).2.1.2.1 from sI_eq)) cx (dA ddX8_weeks (i := 59) rfl) h0 ?_
                  refine x_istore (pc := 108) cx (dA ddX8_weeks (i := 60) rfl) (by decide) rfl ?_
                  refine x_iinc (pc := 110) cx (dA ddX8_weeks (i := 61) rfl) rfl (show _ = nI (S.1.2.1 i 0 - (j + 1)) by rw [pl]; exact iincM (by omega)) (by decide) rfl ?_
                  refine x_goto (pc := 113) (tgt := 84) cx (dA ddX8_weeks (i := 62) rfl) (by decide) ?_
                  have hJ2 : swW V (sI (yV V4 y (dayP D vl (S.1.2.1 i) (fun d s => ruL (S.1.2.1 i) q.1 q.2.1 q.2.2.1 q.2.2.2 d s) (pdA D vl (S.1.2.1 i) (ruR (S.1.2.1 i) q) ((S.1.2.1 i) 0, 0, 0, 0, 0, 0) (weP D vl (S.1.2.1 i) (ruR (S.1.2.1 i) q) S.1.2.2.1 k).2 j).2.2 ((pdA D vl (S.1.2.1 i) (ruR (S.1.2.1 i) q) ((S.1.2.1 i) 0, 0, 0, 0, 0, 0) (weP D vl (S.1.2.1 i) (ruR (S.1.2.1 i) q) S.1.2.2.1 k).2 j).2.1.1, (pdA D vl (S.1.2.1 i) (ruR (S.1.2.1 i) q) ((S.1.2.1 i) 0, 0, 0, 0, 0, 0) (weP D vl (S.1.2.1 i) (ruR (S.1.2.1 i) q) S.1.2.2.1 k).2 j).2.1.2.1, 0, 0, 0, 0)).2.2 (dayP D vl (S.1.2.1 i) (fun d s => ruL (S.1.2.1 i) q.1 q.2.1 q.2.2.1 q.2.2.2 d s) (pdA D vl (S.1.2.1 i) (ruR (S.1.2.1 i) q) ((S.1.2.1 i) 0, 0, 0, 0, 0, 0) (weP D vl (S.1.2.1 i) (ruR (S.1.2.1 i) q) S.1.2.2.1 k).2 j).2.2 ((pdA D vl (S.1.2.1 i) (ruR (S.1.2.1 i) q) ((S.1.2.1 i) 0, 0, 0, 0, 0, 0) (weP D vl (S.1.2.1 i) (ruR (S.1.2.1 i) q) S.1.2.2.1 k).2 j).2.1.1, (pdA D vl (S.1.2.1 i) (ruR (S.1.2.1 i) q) ((S.1.2.1 i) 0, 0, 0, 0, 0, 0) (weP D vl (S.1.2.1 i) (ruR (S.1.2.1 i) q) S.1.2.2.1 k).2 j).2.1.2.1, 0, 0, 0, 0)).2.1.2.2.2.1 (dayP D vl (S.1.2.1 i) (fun d s => ruL (S.1.2.1 i) q.1 q.2.1 q.2.2.1 q.2.2.2 d s) (pdA D vl (S.1.2.1 i) (ruR (S.1.2.1 i) q) ((S.1.2.1 i) 0, 0, 0, 0, 0, 0) (weP D vl (S.1.2.1 i) (ruR (S.1.2.1 i) q) S.1.2.2.1 k).2 j).2.2 ((pdA D vl (S.1.2.1 i) (ruR (S.1.2.1 i) q) ((S.1.2.1 i) 0, 0, 0, 0, 0, 0) (weP D vl (S.1.2.1 i) (ruR (S.1.2.1 i) q) S.1.2.2.1 k).2 j).2.1.1, (pdA D vl (S.1.2.1 i) (ruR (S.1.2.1 i) q) ((S.1.2.1 i) 0, 0, 0, 0, 0, 0) (weP D vl (S.1.2.1 i) (ruR (S.1.2.1 i) q) S.1.2.2.1 k).2 j).2.1.2.1, 0, 0, 0, 0)).2.1.2.2.2.2.1 (dayP D vl (S.1.2.1 i) (fun d s => ruL (S.1.2.1 i) q.1 q.2.1 q.2.2.1 q.2.2.2 d s) (pdA D vl (S.1.2.1 i) (ruR (S.1.2.1 i) q) ((S.1.2.1 i) 0, 0, 0, 0, 0, 0) (weP D vl (S.1.2.1 i) (ruR (S.1.2.1 i) q) S.1.2.2.1 k).2 j).2.2 ((pdA D vl (S.1.2.1 i) (ruR (S.1.2.1 i) q) ((S.1.2.1 i) 0, 0, 0, 0, 0, 0) (weP D vl (S.1.2.1 i) (ruR (S.1.2.1 i) q) S.1.2.2.1 k).2 j).2.1.1, (pdA D vl (S.1.2.1 i) (ruR (S.1.2.1 i) q) ((S.1.2.1 i) 0, 0, 0, 0, 0, 0) (weP D vl (S.1.2.1 i) (ruR (S.1.2.1 i) q) S.1.2.2.1 k).2 j).2.1.2.1, 0, 0, 0, 0)).2.1.2.2.2.2.2) 445 y (nI (dayP D vl (S.1.2.1 i) (fun d s => ruL (S.1.2.1 i) q.1 q.2.1 q.2.2.1 q.2.2.2 d s) (pdA D vl (S.1.2.1 i) (ruR (S.1.2.1 i) q) ((S.1.2.1 i) 0, 0, 0, 0, 0, 0) (weP D vl (S.1.2.1 i) (ruR (S.1.2.1 i) q) S.1.2.2.1 k).2 j).2.2 ((pdA D vl (S.1.2.1 i) (ruR (S.1.2.1 i) q) ((S.1.2.1 i) 0, 0, 0, 0, 0, 0) (weP D vl (S.1.2.1 i) (ruR (S.1.2.1 i) q) S.1.2.2.1 k).2 j).2.1.1, (pdA D vl (S.1.2.1 i) (ruR (S.1.2.1 i) q) ((S.1.2.1 i) 0, 0, 0, 0, 0, 0) (weP D vl (S.1.2.1 i) (ruR (S.1.2.1 i) q) S.1.2.2.1 k).2 j).2.1.2.1, 0, 0, 0, 0)).2.1.2.1)) y (S.1.2.1 i) (pdA D vl (S.1.2.1 i) (ruR (S.1.2.1 i) q) ((S.1.2.1 i) 0, 0, 0, 0, 0, 0) (weP D vl (S.1.2.1 i) (ruR (S.1.2.1 i) q) S.1.2.2.1 k).2 (j + 1)).2.2 := by rw [e9]; exact swW_s hJ
                  have L := ih2 (by omega) _ hJ2
                  rw [e9] at L
                  rw [← Nat.add_assoc] at L
                  exact x_enter L ⟨.inr rfl, .inr rfl, .inr rfl, .inr rfl, .inr rfl, .inr rfl, .inr rfl, .inr rfl, trivial⟩
              exact x_enter (L84 0 (Nat.zero_le _) V3 hI) ⟨.inr rfl, .inr rfl, .inr rfl, .inr rfl, .inr rfl, .inr rfl, .inr rfl, .inr rfl, trivial⟩
          exact x_enter (L65 0 (Nat.zero_le _) V2 ⟨fun a a1 a2 => hF.1 a (by omega), fun d h1 h2 s hs => ((hF.2.2 d (by omega) s hs).2).trans (by rw [mlM_ld h1]), fun f _ => (hF.1 y (by omega)).1 f, ((hF.1 y (by omega)).1 413).trans hRM.2.2.1.2.2.2.1⟩) ⟨.inr rfl, .inr rfl, .inr rfl, .inr rfl, .inr rfl, .inr rfl, trivial⟩
        · refine x_iload (pc := 51) cx (dA ddX8_weeks (i := 26) rfl) rfl ?_
          refine x_ireturn (pc := 53) cx (dA ddX8_weeks (i := 27) rfl) (by first | exact Nat.le_of_ble_eq_true rfl | omega) (by first | exact Nat.le_of_ble_eq_true rfl | omega) ?_
          rcases hx with ⟨e, -⟩ | ⟨rfl, e, rfl⟩ | ⟨rfl, ⟨q, e⟩, rfl⟩
          · exact absurd e c48
          · exact pMI.r hRM (by decide) (by unfold fWeeks; rw [if_pos ⟨ch, cr, cn⟩, (shX_at hr).trans e])
          · exact pMI.r hRM (by decide) (by unfold fWeeks; rw [if_pos ⟨ch, cr, cn⟩, (shX_at hr).trans e])
      · have c29 := b2i_eq c29
        refine x_aload_n (pc := 32) cx (dA ddX8_weeks (i := 16) rfl) rfl ?_
        refine x_bipush (pc := 33) (v := -2) cx (dA ddX8_weeks (i := 17) rfl) (by decide) ?_
        refine x_V1 (pc := 35) mX8_119 h0 (c_X8_refuse hM (i := 0) (by decide) rfl) cx (dA ddX8_weeks (i := 18) rfl) (kI ?_)
        refine x_ireturn (pc := 38) cx (dA ddX8_weeks (i := 19) rfl) (by first | exact Nat.le_of_ble_eq_true rfl | omega) (by first | exact Nat.le_of_ble_eq_true rfl | omega) ?_
        first | exact pMI.r hRM (by decide) (if_neg (fun q => c29 q.2.2))
