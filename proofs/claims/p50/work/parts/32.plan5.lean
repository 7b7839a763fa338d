theorem prm {a b : Nat} (h : a ≤ b) : nI a ≤ nI b ∨ True := Or.inr trivial
theorem nhV_m1 {o : Option Nat} (h : ∀ v, o = some v → v < 2 ^ 31) : nhV o = -1 ↔ o = none := by
  cases o with
  | none => exact ⟨fun _ => rfl, fun _ => rfl⟩
  | some v =>
    refine ⟨fun e => ?_, fun e => by cases e⟩
    have e2 : nI v = -1 := e
    have e3 := congrArg Int32.toInt e2
    rw [nI_toInt (h v rfl)] at e3
    have e4 : (-1 : Int32).toInt = -1 := rfl
    omega
/-- the room is that of some state -/
def rmA (N : Nat → Nat) (r : Nat) : Nat → Bool
  | 0 => false
  | s + 1 => rmA N r s || decide (sumP N s 0 = r)
theorem rmA_t {N : Nat → Nat} {r s : Nat} (h : sumP N s 0 = r) : ∀ {n : Nat}, s < n → rmA N r n = true
  | 0, q => absurd q (Nat.not_lt_zero _)
  | n + 1, q => by
    show (rmA N r n || decide (sumP N n 0 = r)) = true
    by_cases e : s = n
    · subst e; rw [decide_eq_true h, Bool.or_true]
    · rw [rmA_t h (show s < n by omega), Bool.true_or]
/-- the least room with something put in -/
def lrS (N : Nat → Nat) (z : Nat) : Nat → Option Nat
  | 0 => none
  | s + 1 => if ldP N z s ≠ 0 ∧ (∀ r, lrS N z s = some r → sumP N s 0 < r) then some (sumP N s 0) else lrS N z s
theorem lrS_le {N : Nat → Nat} (hB : HouseB N) {z : Nat} : ∀ {n v : Nat}, lrS N z n = some v → v ≤ 1188
  | 0, v, h => by cases h
  | s + 1, v, h => by
    unfold lrS at h
    split at h
    · cases h; exact sumP_lt hB (by decide)
    · exact lrS_le hB h
def odA (N : Nat → Nat) (z r : Nat) : Nat → Option Nat
  | 0 => none
  | s + 1 => match odA N z r s with
    | some t => some t
    | none => if r ≤ sumP N s 0 ∧ ldP N z s = 0 then some s else none
theorem odA_some {N : Nat → Nat} {z r s : Nat} (h0 : odA N z r s = none) (h : r ≤ sumP N s 0 ∧ ldP N z s = 0) : ∀ {n : Nat}, s < n → odA N z r n = some s
  | 0, q => absurd q (Nat.not_lt_zero _)
  | n + 1, q => by
    unfold odA
    by_cases e : s = n
    · subst e; rw [h0]; exact if_pos h
    · rw [odA_some h0 h (show s < n by omega)]
theorem odA_none {N : Nat → Nat} {z r s : Nat} (h0 : odA N z r s = none) (h : ¬ (r ≤ sumP N s 0 ∧ ldP N z s = 0)) : odA N z r (s + 1) = none := by
  unfold odA
  rw [h0]
  exact if_neg h
theorem odA_lt {N : Nat → Nat} {z r : Nat} : ∀ {n v : Nat}, odA N z r n = some v → v < n
  | 0, v, h => by cases h
  | s + 1, v, h => by
    unfold odA at h
    split at h
    · next t e => cases h; have := odA_lt e; omega
    · split at h
      · cases h; omega
      · cases h
def brA (N : Nat → Nat) (z : Nat) : Nat → Nat
  | 0 => 0
  | s + 1 => if ldP N z s = 0 then max (brA N z s) (sumP N s 0 + 1) else brA N z s
theorem brA_le {N : Nat → Nat} (hB : HouseB N) {z : Nat} : ∀ n, brA N z n ≤ 1189
  | 0 => Nat.zero_le _
  | s + 1 => by
    unfold brA
    have h1 := brA_le hB (z := z) s
    have h2 := sumP_lt hB (s := s) (w := 0) (by decide)
    split <;> omega
def oddP (N : Nat → Nat) (z : Nat) : Option Nat := match lrS N z (5 ^ N 4) with
  | none => none
  | some r => odA N z r (5 ^ N 4)
def barP (N : Nat → Nat) (z : Nat) : Option Nat := match lrS N z (5 ^ N 4) with
  | none => none
  | some r => match odA N z r (5 ^ N 4) with
    | none => some (brA N z (5 ^ N 4))
    | some _ => none
/-- what is to be said of a load -/
def jdB (s : Nat) (g : Nat → Int64) : Nat → Bool
  | 0 => true
  | j + 1 => jdB s g j && (decide (0 ≤ g j) && decide (g j ≤ lN (dig s j)))
def jdR (N : Nat → Nat) (g : Nat → Int64) (j : Nat) : Nat := sumN j (fun i => (g i).toNatClampNeg * N (5 + 5 * i + 0))
def jdP (N : Nat → Nat) (s : Nat) (g : Nat → Int64) : Nat := if jdB s g (N 4) = true then (if N 2 < jdR N g (N 4) then 2 else 0) else 1
theorem jdB_f {s : Nat} {g : Nat → Int64} {j : Nat} (h : ¬ (0 ≤ g j ∧ g j ≤ lN (dig s j))) : ∀ {n : Nat}, j < n → jdB s g n = false
  | 0, q => absurd q (Nat.not_lt_zero _)
  | n + 1, q => by
    unfold jdB
    by_cases e : j = n
    · subst e
      rw [← Bool.decide_and, decide_eq_false h, Bool.and_false]
    · rw [jdB_f h (show j < n by omega), Bool.false_and]
theorem l64_nat {x : Int64} {d : Nat} (h1 : 0 ≤ x) (h2 : x ≤ lN d) (hd : d < 2 ^ 31) : x.toNatClampNeg ≤ d ∧ x = lN x.toNatClampNeg := by
  have a := Int64.le_iff_toInt_le.mp h1
  have b := Int64.le_iff_toInt_le.mp h2
  rw [lN_toInt hd] at b
  have z : (0 : Int64).toInt = 0 := rfl
  have c : x.toNatClampNeg = x.toInt.toNat := rfl
  refine ⟨by omega, Int64.toInt_inj.mp ?_⟩
  rw [lN_toInt (by omega)]
  omega
/-- the chances, i days on -/
def chP (N : Nat → Nat) (L : Nat → Nat → Nat) : Nat → Nat → Nat
  | 0 => fun t => if t = 0 then 1 else 0
  | i + 1 => cmS N (sprA N (L (N 0 - i)) (chP N L i) (5 ^ N 4)) (N 4)
theorem sumN_const {n c : Nat} : sumN n (fun _ => c) = n * c := by
  induction n with
  | zero => exact (Nat.zero_mul c).symm
  | succ n ih => show sumN n _ + c = _; rw [ih, Nat.succ_mul]
theorem cmS_mass {N : Nat → Nat} (hN : HOK N) {f : Nat → Nat} : ∀ j, j ≤ N 4 → sumN (5 ^ N 4) (cmS N f j) = sumN (5 ^ N 4) f * 4 ^ j
  | 0, _ => (Nat.mul_one _).symm
  | j + 1, hj => by
    have c4 := (hN.2.2.2.2 j (by omega) 1 (by decide)).2
    have h := cmA_all (f := cmS N f j) (φ := fun _ => 1) hN.1.1 (show j < N 4 by omega) c4
    have e1 : sumN (5 ^ N 4) (fun t => cmA N j (cmS N f j) (5 ^ N 4) t * 1) = sumN (5 ^ N 4) (cmS N f (j + 1)) := sumN_congr (fun i _ => Nat.mul_one _)
    have e2 : sumN (5 ^ N 4) (fun t => cmS N f j t * upU N j (fun _ => 1) t) = sumN (5 ^ N 4) (cmS N f j) * 4 := by
      rw [← sumN_mul]
      refine sumN_congr (fun i _ => ?_)
      congr 1
      have c4 : N (5 + 5 * j + 1) ≤ 4 := c4
      unfold upU
      simp only [Nat.mul_one]
      split <;> omega
    rw [← e1, h, e2, cmS_mass hN j (by omega), Nat.pow_succ, Nat.mul_assoc]
theorem chP_mass {N : Nat → Nat} (hN : HOK N) {L : Nat → Nat → Nat} (hL : ∀ d, 1 ≤ d → d ≤ 6 → ∀ s, s < 5 ^ N 4 → L d s ≤ s) : ∀ i, i ≤ N 0 → sumN (5 ^ N 4) (chP N L i) = 4 ^ ((1 + N 4) * i)
  | 0, _ => by
    rw [Nat.mul_zero, Nat.pow_zero]
    obtain ⟨n, hn⟩ : ∃ n, 5 ^ N 4 = n + 1 := ⟨5 ^ N 4 - 1, by have : 0 < 5 ^ N 4 := Nat.pow_pos (by decide); omega⟩
    rw [hn]
    have : ∀ n, sumN (n + 1) (fun t => if t = 0 then 1 else 0) = 1 := by
      intro n
      induction n with
      | zero => rfl
      | succ n ih => show sumN (n + 1) _ + (if n + 1 = 0 then 1 else 0) = 1; rw [ih, if_neg (by omega)]
    exact this n
  | i + 1, hi => by
    have b3 := hN.2.2.2.1
    have h0 := hN.2.1
    have h := sprA_all (N := N) (ld := L (N 0 - i)) (f := chP N L i) (φ := fun _ => 1) (n := 5 ^ N 4) (by omega) (hL (N 0 - i) (by omega) (by omega))
    have e1 : sumN (5 ^ N 4) (fun t => sprA N (L (N 0 - i)) (chP N L i) (5 ^ N 4) t * 1) = sumN (5 ^ N 4) (sprA N (L (N 0 - i)) (chP N L i) (5 ^ N 4)) := sumN_congr (fun i _ => Nat.mul_one _)
    have e2 : sumN (5 ^ N 4) (fun t => chP N L i t * (if L (N 0 - i) t = 0 then 4 * 1 else N 3 * 1 + (4 - N 3) * 1)) = sumN (5 ^ N 4) (chP N L i) * 4 := by
      rw [← sumN_mul]
      refine sumN_congr (fun i _ => ?_)
      congr 1
      split <;> omega
    show sumN (5 ^ N 4) (cmS N (sprA N (L (N 0 - i)) (chP N L i) (5 ^ N 4)) (N 4)) = _
    rw [cmS_mass hN _ (Nat.le_refl _), ← e1, h, e2, chP_mass hN hL i (by omega), Nat.mul_assoc, ← Nat.pow_succ', ← Nat.pow_add]
    congr 1
    rw [Nat.mul_succ]
    omega
theorem chP_lt {N : Nat → Nat} (hN : HOK N) {L : Nat → Nat → Nat} (hL : ∀ d, 1 ≤ d → d ≤ 6 → ∀ s, s < 5 ^ N 4 → L d s ≤ s) {i s : Nat} (hi : i ≤ N 0) (hs : s < 5 ^ N 4) : chP N L i s < 2 ^ 64 := by
  have h := sumN_one (f := chP N L i) hs
  rw [chP_mass hN hL i hi] at h
  have h0 := hN.2.1
  have h4 := hN.1.1
  have h2 : 4 ^ ((1 + N 4) * i) ≤ 4 ^ 24 := Nat.pow_le_pow_right (by decide) (Nat.mul_le_mul (show 1 + N 4 ≤ 4 by omega) (show i ≤ 6 by omega))
  have h3 : (4 : Nat) ^ 24 < 2 ^ 64 := by decide
  omega
/-- how many states have a chance -/
def ctA (f : Nat → Nat) : Nat → Nat
  | 0 => 0
  | s + 1 => if f s = 0 then ctA f s else ctA f s + 1
theorem ctA_le {f : Nat → Nat} : ∀ n, ctA f n ≤ n
  | 0 => Nat.le_refl _
  | s + 1 => by
    have := ctA_le (f := f) s
    unfold ctA
    split <;> omega
/-- parcels of a sort held, boxes -/
def heP (N : Nat → Nat) (L : Nat → Nat → Nat) (k : Nat) : Nat → Nat
  | 0 => 0
  | i + 1 => heP N L k i + sumN (5 ^ N 4) (fun s => sprA N (L (N 0 - i)) (chP N L i) (5 ^ N 4) s * dig s k) * 4 ^ ((N 0 - i) * (1 + N 4) - 1)
def boP (N : Nat → Nat) (L : Nat → Nat → Nat) : Nat → Nat
  | 0 => 0
  | i + 1 => boP N L i + sprS N (L (N 0 - i)) (chP N L i) (5 ^ N 4) * 4 ^ ((N 0 - i) * (1 + N 4) - 1)
theorem c_X1_leastCost {l : Launch} {Z : zP} {G : zG} {V : zV} {p : Nat} (hP : PlanAt Z G p) {N : Nat → Nat} (hH : PlanH V p N) {K : Nat} (hC : PlanC V p N K) {z : Nat} (h6 : z ≤ 6) {s : Nat} (hs : s < 5 ^ N 4)  : CT l Z yX1_leastCost cX1_leastCost 3 (some .long) 4 0 0 [.ref p, .int (nI z), .int (nI s)] G V (pJx (lN (cst N z s)) G (PX V p N (max K (z + 1)))) := by
  refine CT.of (by decide +kernel) (Nat.le_of_ble_eq_true rfl) (fun X hX cx => ?_)
  subst hX
  show Wm Z X 3 G V 0 0 _ 0 [(0, some (.ref p)), (1, some (.int (nI z))), (2, some (.int (nI s)))] []
  have h0 := hP.1
  have hh := hP.2.2.1.1
  have hN := hH.1
  have hB := hN.1
  have n4 := hB.1
  have hV := hH.2.1
  have n125 := st125 n4
  have eD := hH.2.2.1
  have eS := hH.2.2.2.1
  have eN := hH.2.2.2.2.1
  have eK := hC.1
  refine x_aload_n (pc := 0) cx (dA ddX1_leastCost (i := 0) rfl) rfl ?_
  refine x_iload_n (pc := 1) cx (dA ddX1_leastCost (i := 1) rfl) rfl ?_
  refine x_V1 (pc := 2) mX1_102 h0 (c_X1_workOut hP hH hC h6) cx (dA ddX1_leastCost (i := 2) rfl) (kVx fun V2 h2 => ?_)
  obtain ⟨K2, hK2, hw⟩ := h2
  have hH2 := hw.1
  have hC2 := hw.2.1
  refine x_aload_n (pc := 5) cx (dA ddX1_leastCost (i := 3) rfl) rfl ?_
  refine gX1_34 (pc := 6) (rfA hP.2.2.2.2.2.2.2.2.1.1) cx (dA ddX1_leastCost (i := 4) rfl) h0 ?_
  refine x_iload_n (pc := 9) cx (dA ddX1_leastCost (i := 5) rfl) rfl ?_
  refine x_iload_n (pc := 10) cx (dA ddX1_leastCost (i := 6) rfl) rfl ?_
  refine x_S2 (pc := 11) mX1_106 c_X1_placeOf cx (dA ddX1_leastCost (i := 7) rfl) (kI ?_)
  refine x_SN2 (pc := 14) mX1_109 (c_X7_at_ hP.2.2.2.2.2.2.2.2.1.2 (by decide)) cx (dA ddX1_leastCost (i := 8) rfl) (kJ ?_)
  rw [atL_in (by omega) (by decide), hC2.2.2.1 z (by omega) s hs]
  refine x_lreturn (pc := 17) cx (dA ddX1_leastCost (i := 9) rfl) (by first | exact Nat.le_of_ble_eq_true rfl | omega) (by first | exact Nat.le_of_ble_eq_true rfl | omega) ?_
  exact ⟨rfl, rfl, K2, hK2, hw⟩
theorem c_X1_bestLoad {l : Launch} {Z : zP} {G : zG} {V : zV} {p : Nat} (hP : PlanAt Z G p) {N : Nat → Nat} (hH : PlanH V p N) {K : Nat} (hC : PlanC V p N K) {z : Nat} (h1 : 1 ≤ z) (h6 : z ≤ 6) {s : Nat} (hs : s < 5 ^ N 4)  : CT l Z yX1_bestLoad cX1_bestLoad 3 (some .int) 4 0 0 [.ref p, .int (nI z), .int (nI s)] G V (pIx (nI (ldP N z s)) G (PX V p N (max K (z + 1)))) := by
  refine CT.of (by decide +kernel) (Nat.le_of_ble_eq_true rfl) (fun X hX cx => ?_)
  subst hX
  show Wm Z X 3 G V 0 0 _ 0 [(0, some (.ref p)), (1, some (.int (nI z))), (2, some (.int (nI s)))] []
  have h0 := hP.1
  have hh := hP.2.2.1.1
  have hN := hH.1
  have hB := hN.1
  have n4 := hB.1
  have hV := hH.2.1
  have n125 := st125 n4
  have eD := hH.2.2.1
  have eS := hH.2.2.2.1
  have eN := hH.2.2.2.2.1
  have eK := hC.1
  refine x_aload_n (pc := 0) cx (dA ddX1_bestLoad (i := 0) rfl) rfl ?_
  refine x_iload_n (pc := 1) cx (dA ddX1_bestLoad (i := 1) rfl) rfl ?_
  refine x_V1 (pc := 2) mX1_102 h0 (c_X1_workOut hP hH hC h6) cx (dA ddX1_bestLoad (i := 2) rfl) (kVx fun V2 h2 => ?_)
  obtain ⟨K2, hK2, hw⟩ := h2
  have hH2 := hw.1
  have hC2 := hw.2.1
  refine x_aload_n (pc := 5) cx (dA ddX1_bestLoad (i := 3) rfl) rfl ?_
  refine x_iload_n (pc := 6) cx (dA ddX1_bestLoad (i := 4) rfl) rfl ?_
  refine x_iload_n (pc := 7) cx (dA ddX1_bestLoad (i := 5) rfl) rfl ?_
  refine x_V2 (pc := 8) mX1_112 h0 (c_X1_loadWorkedOut hP hH2 h6 hs (hC2.2.2.2 z h1 (by omega) s hs).2) cx (dA ddX1_bestLoad (i := 6) rfl) (kI ?_)
  refine x_ireturn (pc := 11) cx (dA ddX1_bestLoad (i := 7) rfl) (by first | exact Nat.le_of_ble_eq_true rfl | omega) (by first | exact Nat.le_of_ble_eq_true rfl | omega) ?_
  exact ⟨rfl, rfl, K2, hK2, hw⟩
theorem c_X1_getReadyFor_n {l : Launch} {Z : zP} {G : zG} {V : zV} {p : Nat} (hP : PlanAt Z G p) {N : Nat → Nat} (hH : PlanH V p N) : CT l Z yX1_getReadyFor cX1_getReadyFor 2 none 4 0 0 [.ref p, .null] G V (pV G V) := by
  refine CT.of (by decide +kernel) (Nat.le_of_ble_eq_true rfl) (fun X hX cx => ?_)
  subst hX
  show Wm Z X 2 G V 0 0 _ 0 [(0, some (.ref p)), (1, some (.null))] []
  have h0 := hP.1
  have hh := hP.2.2.1.1
  have hN := hH.1
  have hB := hN.1
  have n4 := hB.1
  have hV := hH.2.1
  have n125 := st125 n4
  have eD := hH.2.2.1
  have eS := hH.2.2.2.1
  have eN := hH.2.2.2.2.1
  refine x_aload_nN (pc := 0) cx (dA ddX1_getReadyFor (i := 0) rfl) rfl ?_
  refine x_ifnull_n (pc := 1) (tgt := 20) cx (dA ddX1_getReadyFor (i := 1) rfl) (by decide) ?_
  refine x_return (pc := 20) cx (dA ddX1_getReadyFor (i := 10) rfl) (by first | exact Nat.le_of_ble_eq_true rfl | omega) (by first | exact Nat.le_of_ble_eq_true rfl | omega) ?_
  exact ⟨rfl, rfl, rfl⟩
theorem c_X1_getReadyFor {l : Launch} {Z : zP} {G : zG} {V : zV} {p : Nat} (hP : PlanAt Z G p) {N : Nat → Nat} (hH : PlanH V p N) {K : Nat} (hC : PlanC V p N K) {q κ b m : Nat} {rf : Nat → Bool} (hR : RuleAt Z G V q κ b m rf) : CT l Z yX1_getReadyFor cX1_getReadyFor 2 none 4 0 0 [.ref p, .ref q] G V (pVx G (fun V' => ∃ K2, K ≤ K2 ∧ (κ = 4 → N 0 + 1 ≤ K2) ∧ PW V V' p N K2)) := by
  refine CT.of (by decide +kernel) (Nat.le_of_ble_eq_true rfl) (fun X hX cx => ?_)
  subst hX
  show Wm Z X 2 G V 0 0 _ 0 [(0, some (.ref p)), (1, some (.ref q))] []
  have h0 := hP.1
  have hh := hP.2.2.1.1
  have hN := hH.1
  have hB := hN.1
  have n4 := hB.1
  have hV := hH.2.1
  have n125 := st125 n4
  have eD := hH.2.2.1
  have eS := hH.2.2.2.1
  have eN := hH.2.2.2.2.1
  have eK := hC.1
  have κ5 := hR.2.2.1
  refine x_aload_n (pc := 0) cx (dA ddX1_getReadyFor (i := 0) rfl) rfl ?_
  refine x_ifnull_s (pc := 1) cx (dA ddX1_getReadyFor (i := 1) rfl) ?_
  refine x_aload_n (pc := 4) cx (dA ddX1_getReadyFor (i := 2) rfl) rfl ?_
  refine gX1_115 (pc := 5) (congrArg Value.int hR.2.1) cx (dA ddX1_getReadyFor (i := 3) rfl) hR.1 ?_
  refine x_iconst (pc := 8) (v := nI 4) cx (dA ddX1_getReadyFor (i := 4) rfl) (by decide) ?_
  refine x_icmp_ne (pc := 9) (tgt := 20) cx (dA ddX1_getReadyFor (i := 5) rfl) (by decide) (fun c9 => ?_) (fun c9 => ?_)
  · have k4 : κ ≠ 4 := fun e => c9 (by rw [e])
    refine x_return (pc := 20) cx (dA ddX1_getReadyFor (i := 10) rfl) (by first | exact Nat.le_of_ble_eq_true rfl | omega) (by first | exact Nat.le_of_ble_eq_true rfl | omega) ?_
    exact ⟨rfl, rfl, K, Nat.le_refl _, fun e => absurd e k4, PW.refl hH hC⟩
  · refine x_aload_n (pc := 12) cx (dA ddX1_getReadyFor (i := 6) rfl) rfl ?_
    refine x_aload_n (pc := 13) cx (dA ddX1_getReadyFor (i := 7) rfl) rfl ?_
    refine gX1_66 (pc := 14) (congrArg Value.int eD) cx (dA ddX1_getReadyFor (i := 8) rfl) h0 ?_
    refine x_V1 (pc := 17) mX1_102 h0 (c_X1_workOut hP hH hC (by have := hN.2.1; omega)) cx (dA ddX1_getReadyFor (i := 9) rfl) (kVx fun V2 h2 => ?_)
    obtain ⟨K2, hK2, hw⟩ := h2
    refine x_return (pc := 20) cx (dA ddX1_getReadyFor (i := 10) rfl) (by first | exact Nat.le_of_ble_eq_true rfl | omega) (by first | exact Nat.le_of_ble_eq_true rfl | omega) ?_
    exact ⟨rfl, rfl, K2, by omega, fun _ => by omega, hw⟩
theorem c_X1_costWith {l : Launch} {Z : zP} {G : zG} {V : zV} {p : Nat} (hP : PlanAt Z G p) {N : Nat → Nat} (hH : PlanH V p N) {K : Nat} (hC : PlanC V p N K) {z : Nat} (h1 : 1 ≤ z) (h6 : z ≤ 6) {s : Nat} (hs : s < 5 ^ N 4) {u : Nat} (hu : u ≤ s) : CT l Z yX1_costWith cX1_costWith 10 (some .long) 4 0 0 [.ref p, .int (nI z), .int (nI s), .int (nI u)] G V (pJx (lN (mixP N (boxP N z) (aft N z) s u)) G (PX V p N (max K (z + 1)))) := by
  refine CT.of (by decide +kernel) (Nat.le_of_ble_eq_true rfl) (fun X hX cx => ?_)
  subst hX
  show Wm Z X 10 G V 0 0 _ 0 [(0, some (.ref p)), (1, some (.int (nI z))), (2, some (.int (nI s))), (3, some (.int (nI u)))] []
  have h0 := hP.1
  have hh := hP.2.2.1.1
  have hN := hH.1
  have hB := hN.1
  have n4 := hB.1
  have hV := hH.2.1
  have n125 := st125 n4
  have eD := hH.2.2.1
  have eS := hH.2.2.2.1
  have eN := hH.2.2.2.2.1
  have eK := hC.1
  refine x_aload_n (pc := 0) cx (dA ddX1_costWith (i := 0) rfl) rfl ?_
  refine x_iload_n (pc := 1) cx (dA ddX1_costWith (i := 1) rfl) rfl ?_
  refine x_V1 (pc := 2) mX1_102 h0 (c_X1_workOut hP hH hC h6) cx (dA ddX1_costWith (i := 2) rfl) (kVx fun V2 h2 => ?_)
  obtain ⟨K2, hK2, hw⟩ := h2
  have hH2 := hw.1
  have hC2 := hw.2.1
  refine x_aload_n (pc := 5) cx (dA ddX1_costWith (i := 3) rfl) rfl ?_
  refine gX1_12 (pc := 6) (rfA hP.2.1) cx (dA ddX1_costWith (i := 4) rfl) h0 ?_
  refine x_iconst (pc := 9) (v := nI 3) cx (dA ddX1_costWith (i := 5) rfl) (by decide) ?_
  refine x_V1 (pc := 10) mX1_120 hh (c_X0_number hP.2.2.1 (V := V2) hH2.2.1 hB (w := 3) (by omega)) cx (dA ddX1_costWith (i := 6) rfl) (kI ?_)
  refine x_i2l (pc := 13) cx (dA ddX1_costWith (i := 7) rfl) ?_
  have b3 := hN.2.2.2.1
  rw [nI_l (by omega)]
  refine x_lstore (pc := 14) cx (dA ddX1_costWith (i := 8) rfl) (by decide) rfl ?_
  refine x_aload_n (pc := 16) cx (dA ddX1_costWith (i := 9) rfl) rfl ?_
  refine gX1_38 (pc := 17) (rfA hP.2.2.2.2.2.2.2.2.2.1.1) cx (dA ddX1_costWith (i := 10) rfl) h0 ?_
  refine x_iload_n (pc := 20) cx (dA ddX1_costWith (i := 11) rfl) rfl ?_
  refine x_iload_n (pc := 21) cx (dA ddX1_costWith (i := 12) rfl) rfl ?_
  refine x_S2 (pc := 22) mX1_106 c_X1_placeOf cx (dA ddX1_costWith (i := 13) rfl) (kI ?_)
  refine x_SN2 (pc := 25) mX1_109 (c_X7_at_ hP.2.2.2.2.2.2.2.2.2.1.2 (by decide)) cx (dA ddX1_costWith (i := 14) rfl) (kJ ?_)
  rw [atL_in (by omega) (by decide), (hC2.2.2.2 z h1 (by omega) s hs).1]
  refine x_lstore (pc := 28) cx (dA ddX1_costWith (i := 15) rfl) (by decide) rfl ?_
  refine x_aload_n (pc := 30) cx (dA ddX1_costWith (i := 16) rfl) rfl ?_
  refine gX1_38 (pc := 31) (rfA hP.2.2.2.2.2.2.2.2.2.1.1) cx (dA ddX1_costWith (i := 17) rfl) h0 ?_
  refine x_iload_n (pc := 34) cx (dA ddX1_costWith (i := 18) rfl) rfl ?_
  refine x_iload_n (pc := 35) cx (dA ddX1_costWith (i := 19) rfl) rfl ?_
  refine x_iload_n (pc := 36) cx (dA ddX1_costWith (i := 20) rfl) rfl ?_
  refine x_isub (pc := 37) cx (dA ddX1_costWith (i := 21) rfl) ?_
  rw [pk_sub hu]
  refine x_S2 (pc := 38) mX1_106 c_X1_placeOf cx (dA ddX1_costWith (i := 22) rfl) (kI ?_)
  refine x_SN2 (pc := 41) mX1_109 (c_X7_at_ hP.2.2.2.2.2.2.2.2.2.1.2 (by decide)) cx (dA ddX1_costWith (i := 23) rfl) (kJ ?_)
  rw [atL_in (by omega) (by decide), (hC2.2.2.2 z h1 (by omega) (s - u) (by omega)).1]
  refine x_iload_n (pc := 44) cx (dA ddX1_costWith (i := 24) rfl) rfl ?_
  refine x_if_ne (pc := 45) (tgt := 52) cx (dA ddX1_costWith (i := 25) rfl) (by decide) (fun c45 => ?_) (fun c45 => ?_)
  · have e9 : (if u = 0 then 0 else boxP N z) = boxP N z := if_neg (fun e => c45 (by rw [e]; rfl))
    refine x_aload_n (pc := 52) cx (dA ddX1_costWith (i := 28) rfl) rfl ?_
    refine x_iload_n (pc := 53) cx (dA ddX1_costWith (i := 29) rfl) rfl ?_
    refine x_V1 (pc := 54) mX1_123 h0 (c_X1_boxCost (V := V2) hP hH2 h1 h6) cx (dA ddX1_costWith (i := 30) rfl) (kJ ?_)
    refine x_ladd (pc := 57) cx (dA ddX1_costWith (i := 31) rfl) ?_
    refine x_lstore (pc := 58) cx (dA ddX1_costWith (i := 32) rfl) (by decide) rfl ?_
    refine x_lload (pc := 60) cx (dA ddX1_costWith (i := 33) rfl) rfl ?_
    refine x_lload (pc := 62) cx (dA ddX1_costWith (i := 34) rfl) rfl ?_
    refine x_lmul (pc := 64) cx (dA ddX1_costWith (i := 35) rfl) ?_
    refine x_ldc2 (pc := 65) cx klX1_127 (dA ddX1_costWith (i := 36) rfl) ?_
    refine x_lload (pc := 68) cx (dA ddX1_costWith (i := 37) rfl) rfl ?_
    refine x_lsub (pc := 70) cx (dA ddX1_costWith (i := 38) rfl) ?_
    refine x_lload (pc := 71) cx (dA ddX1_costWith (i := 39) rfl) rfl ?_
    refine x_lmul (pc := 73) cx (dA ddX1_costWith (i := 40) rfl) ?_
    refine x_ladd (pc := 74) cx (dA ddX1_costWith (i := 41) rfl) ?_
    rw [lN_add, lN_sub (by omega), lN_mul, lN_mul, lN_add]
    refine x_lreturn (pc := 75) cx (dA ddX1_costWith (i := 42) rfl) (by first | exact Nat.le_of_ble_eq_true rfl | omega) (by first | exact Nat.le_of_ble_eq_true rfl | omega) ?_
    refine ⟨?_, rfl, K2, hK2, hw⟩
    unfold mixP
    rw [e9]
  · have e9 : (if u = 0 then 0 else boxP N z) = 0 := if_pos (nI_inj (b := 0) (by omega) (by decide) c45)
    refine x_lconst (pc := 48) (v := lN 0) cx (dA ddX1_costWith (i := 26) rfl) rfl ?_
    refine x_goto (pc := 49) (tgt := 57) cx (dA ddX1_costWith (i := 27) rfl) (by decide) ?_
    refine x_ladd (pc := 57) cx (dA ddX1_costWith (i := 31) rfl) ?_
    refine x_lstore (pc := 58) cx (dA ddX1_costWith (i := 32) rfl) (by decide) rfl ?_
    refine x_lload (pc := 60) cx (dA ddX1_costWith (i := 33) rfl) rfl ?_
    refine x_lload (pc := 62) cx (dA ddX1_costWith (i := 34) rfl) rfl ?_
    refine x_lmul (pc := 64) cx (dA ddX1_costWith (i := 35) rfl) ?_
    refine x_ldc2 (pc := 65) cx klX1_127 (dA ddX1_costWith (i := 36) rfl) ?_
    refine x_lload (pc := 68) cx (dA ddX1_costWith (i := 37) rfl) rfl ?_
    refine x_lsub (pc := 70) cx (dA ddX1_costWith (i := 38) rfl) ?_
    refine x_lload (pc := 71) cx (dA ddX1_costWith (i := 39) rfl) rfl ?_
    refine x_lmul (pc := 73) cx (dA ddX1_costWith (i := 40) rfl) ?_
    refine x_ladd (pc := 74) cx (dA ddX1_costWith (i := 41) rfl) ?_
    rw [lN_add, lN_sub (by omega), lN_mul, lN_mul, lN_add]
    refine x_lreturn (pc := 75) cx (dA ddX1_costWith (i := 42) rfl) (by first | exact Nat.le_of_ble_eq_true rfl | omega) (by first | exact Nat.le_of_ble_eq_true rfl | omega) ?_
    refine ⟨?_, rfl, K2, hK2, hw⟩
    unfold mixP
    rw [e9]
theorem c_X1_costBy {l : Launch} {Z : zP} {G : zG} {V : zV} {p : Nat} (hP : PlanAt Z G p) {N : Nat → Nat} (hH : PlanH V p N) {K : Nat} (hC : PlanC V p N K) {q κ b m : Nat} {rf : Nat → Bool} (hR : RuleAt Z G V q κ b m rf) {z : Nat} (h6 : z ≤ 6) {s : Nat} (hs : s < 5 ^ N 4) (hK4 : κ = 4 → z < K) : CT l Z yX1_costBy cX1_costBy 8 (some .long) 4 0 0 [.ref p, .ref q, .int (nI z), .int (nI s)] G V (pJx (lN (rC N κ b m rf z s)) G (PX V p N K)) := by
  refine CT.of (by decide +kernel) (Nat.le_of_ble_eq_true rfl) (fun X hX cx => ?_)
  subst hX
  show Wm Z X 8 G V 0 0 _ 0 [(0, some (.ref p)), (1, some (.ref q)), (2, some (.int (nI z))), (3, some (.int (nI s)))] []
  have h0 := hP.1
  have hh := hP.2.2.1.1
  have hN := hH.1
  have hB := hN.1
  have n4 := hB.1
  have hV := hH.2.1
  have n125 := st125 n4
  have eD := hH.2.2.1
  have eS := hH.2.2.2.1
  have eN := hH.2.2.2.2.1
  have eK := hC.1
  have κ5 := hR.2.2.1
  refine x_aload_n (pc := 0) cx (dA ddX1_costBy (i := 0) rfl) rfl ?_
  refine gX1_115 (pc := 1) (congrArg Value.int hR.2.1) cx (dA ddX1_costBy (i := 1) rfl) hR.1 ?_
  refine x_iconst (pc := 4) (v := nI 4) cx (dA ddX1_costBy (i := 2) rfl) (by decide) ?_
  refine x_icmp_ne (pc := 5) (tgt := 21) cx (dA ddX1_costBy (i := 3) rfl) (by decide) (fun c5 => ?_) (fun c5 => ?_)
  · have k4 : ¬ κ = 4 := fun e => c5 (by rw [e])
    have e9 : rC N κ b m rf z s = rCs N κ b m rf z s := if_neg k4
    refine x_aload_n (pc := 21) cx (dA ddX1_costBy (i := 11) rfl) rfl ?_
    refine x_V0 (pc := 22) mX1_134 h0 (c_X1_startFromEnd hP hH) cx (dA ddX1_costBy (i := 12) rfl) (kV ?_)
    rw [show (fun t => sumP N t 4) = rCs N κ b m rf 0 from rfl]
    refine x_iconst (pc := 25) (v := nI 1) cx (dA ddX1_costBy (i := 13) rfl) (by decide) ?_
    refine x_istore (pc := 26) cx (dA ddX1_costBy (i := 14) rfl) (by decide) rfl ?_
    have L28 : ∀ d, d ≤ z → Wm Z X 8 G (wkJ V p N (rCs N κ b m rf d)) 0 0 (rQ Z X 0 0 (pJx (lN (rC N κ b m rf z s)) G (PX V p N K))) 28 [(0, some (.ref p)), (1, some (.ref q)), (2, some (.int (nI z))), (3, some (.int (nI s))), (4, some (.int (nI (d + 1))))] [] := by
      refine lpU z (fun d hd ih => ?_)
      refine x_iload (pc := 28) cx (dA ddX1_costBy (i := 15) rfl) rfl ?_
      refine x_iload_n (pc := 30) cx (dA ddX1_costBy (i := 16) rfl) rfl ?_
      refine x_icmp_gt (pc := 31) (tgt := 90) cx (dA ddX1_costBy (i := 17) rfl) (by decide) (fun c31 => ?_) (fun c31 => ?_)
      · have c31 := cltT (by omega) (by omega) c31
        have ed : d = z := by omega
        subst ed
        refine x_aload_n (pc := 90) cx (dA ddX1_costBy (i := 45) rfl) rfl ?_
        refine gX1_41 (pc := 91) (rfA hP.2.2.2.2.2.2.2.2.2.2.1.1) cx (dA ddX1_costBy (i := 46) rfl) h0 ?_
        refine x_iload_n (pc := 94) cx (dA ddX1_costBy (i := 47) rfl) rfl ?_
        refine x_SN2 (pc := 95) mX1_109 (c_X7_at_ hP.2.2.2.2.2.2.2.2.2.2.1.2 (by decide)) cx (dA ddX1_costBy (i := 48) rfl) (kJ ?_)
        rw [wk_get hs n125]
        refine x_lreturn (pc := 98) cx (dA ddX1_costBy (i := 49) rfl) (by first | exact Nat.le_of_ble_eq_true rfl | omega) (by first | exact Nat.le_of_ble_eq_true rfl | omega) ?_
        rw [← e9]
        exact ⟨rfl, rfl, K, Nat.le_refl _, (PW.refl hH hC).wk⟩
      · have c31 := cltF (by omega) (by omega) c31
        refine x_aload_n (pc := 34) cx (dA ddX1_costBy (i := 18) rfl) rfl ?_
        refine x_iload (pc := 35) cx (dA ddX1_costBy (i := 19) rfl) rfl ?_
        refine x_V1 (pc := 37) mX1_140 h0 (c_X1_goBackToLoad hP hH (by omega) (by omega)) cx (dA ddX1_costBy (i := 20) rfl) (kV ?_)
        refine x_aload_n (pc := 40) cx (dA ddX1_costBy (i := 21) rfl) rfl ?_
        refine x_iload (pc := 41) cx (dA ddX1_costBy (i := 22) rfl) rfl ?_
        refine x_V1 (pc := 43) mX1_123 h0 (c_X1_boxCost (V := wkJ V p N (swD N (d + 1) (rCs N κ b m rf d))) hP hH (by omega) (by omega)) cx (dA ddX1_costBy (i := 23) rfl) (kJ ?_)
        refine x_lstore (pc := 46) cx (dA ddX1_costBy (i := 24) rfl) (by decide) rfl ?_
        refine x_aload_n (pc := 48) cx (dA ddX1_costBy (i := 25) rfl) rfl ?_
        refine gX1_76 (pc := 49) (congrArg Value.int eN) cx (dA ddX1_costBy (i := 26) rfl) h0 ?_
        refine x_iconst (pc := 52) (v := nI 1) cx (dA ddX1_costBy (i := 27) rfl) (by decide) ?_
        refine x_isub (pc := 53) cx (dA ddX1_costBy (i := 28) rfl) ?_
        have n1 : 1 ≤ 5 ^ N 4 := Nat.pow_pos (by decide)
        rw [pk_sub n1]
        refine x_istore (pc := 54) cx (dA ddX1_costBy (i := 29) rfl) (by decide) rfl ?_
        have L56 : ∀ c : Nat, ∀ v : Int32, v.toInt = (c : Int) - 1 → c ≤ 5 ^ N 4 → Wm Z X 8 G (wkJ V p N (dnP c (rCs N κ b m rf (d + 1)) (swD N (d + 1) (rCs N κ b m rf d)))) 0 0 (rQ Z X 0 0 (pJx (lN (rC N κ b m rf z s)) G (PX V p N K))) 56 [(0, some (.ref p)), (1, some (.ref q)), (2, some (.int (nI z))), (3, some (.int (nI s))), (4, some (.int (nI (d + 1)))), (5, some (.long (lN (boxP N (d + 1))))), (7, some (.int v))] [] := by
          refine lpD (fun c ih2 => ?_)
          intro v hv hc
          refine x_iload (pc := 56) cx (dA ddX1_costBy (i := 30) rfl) rfl ?_
          refine x_if_lt (pc := 58) (tgt := 84) cx (dA ddX1_costBy (i := 31) rfl) (by decide) (fun c58 => ?_) (fun c58 => ?_)
          · have ec : c = 0 := by rw [i32_lt, hv, toI_0] at c58; omega
            subst ec
            rw [dnP_0]
            refine x_iinc (pc := 84) cx (dA ddX1_costBy (i := 43) rfl) rfl (iinc1 _) (by decide) rfl ?_
            refine x_goto (pc := 87) (tgt := 28) cx (dA ddX1_costBy (i := 44) rfl) (by decide) ?_
            exact x_enter (ih (by omega)) ⟨.inr rfl, .inr rfl, .inr rfl, .inr rfl, .inr rfl, trivial⟩
          · obtain ⟨t, rfl⟩ : ∃ t, c = t + 1 := ⟨c - 1, by rw [i32_lt, hv, toI_0] at c58; omega⟩
            have ev : v = nI t := by apply Int32.toInt_inj.mp; rw [hv, nI_toInt (by omega)]; omega
            subst ev
            have dt : ∀ x, x ≤ t → dnP (t + 1) (rCs N κ b m rf (d + 1)) (swD N (d + 1) (rCs N κ b m rf d)) x = (swD N (d + 1) (rCs N κ b m rf d)) x := fun x hx => dnP_at (by omega)
            refine x_aload_n (pc := 61) cx (dA ddX1_costBy (i := 32) rfl) rfl ?_
            refine x_iload (pc := 62) cx (dA ddX1_costBy (i := 33) rfl) rfl ?_
            refine x_aload_n (pc := 64) cx (dA ddX1_costBy (i := 34) rfl) rfl ?_
            refine x_aload_n (pc := 65) cx (dA ddX1_costBy (i := 35) rfl) rfl ?_
            refine x_iload (pc := 66) cx (dA ddX1_costBy (i := 36) rfl) rfl ?_
            refine x_iload (pc := 68) cx (dA ddX1_costBy (i := 37) rfl) rfl ?_
            refine x_V3 (pc := 70) mX1_190 h0 (c_X1_loadBy (V := wkJ V p N (dnP (t + 1) (rCs N κ b m rf (d + 1)) (swD N (d + 1) (rCs N κ b m rf d)))) hP hH (hR.wk hP) (d := d + 1) (by omega) hc (fun e => absurd e k4)) cx (dA ddX1_costBy (i := 38) rfl) (kI ?_)
            refine x_lload (pc := 73) cx (dA ddX1_costBy (i := 39) rfl) rfl ?_
            refine x_V3 (pc := 75) mX1_177 h0 (c_X1_mix hP hH hc (ruL_le hN (by omega) (by omega) hc)) cx (dA ddX1_costBy (i := 40) rfl) (kV ?_)
            rw [mixP_congr dt, show mixP N (boxP N (d + 1)) (swD N (d + 1) (rCs N κ b m rf d)) t (ruL N κ b m rf (d + 1) t) = (rCs N κ b m rf (d + 1)) t from rfl, dnP_s (g := (rCs N κ b m rf (d + 1)))]
            refine x_iinc (pc := 78) cx (dA ddX1_costBy (i := 41) rfl) rfl rfl (by decide) rfl ?_
            refine x_goto (pc := 81) (tgt := 56) cx (dA ddX1_costBy (i := 42) rfl) (by decide) ?_
            exact x_enter (ih2 t rfl _ (by rw [nI_dec _ (by omega)]) (by omega)) ⟨.inr rfl, .inr rfl, .inr rfl, .inr rfl, .inr rfl, .inr rfl, .inr rfl, trivial⟩
        have L := L56 (5 ^ N 4) (nI (5 ^ N 4 - 1)) (by rw [nI_toInt (by omega)]; omega) (Nat.le_refl _)
        rw [wk_dnN] at L
        exact x_enter L ⟨.inr rfl, .inr rfl, .inr rfl, .inr rfl, .inr rfl, .inr rfl, .inr rfl, trivial⟩
    exact x_enter (L28 0 (Nat.zero_le _)) ⟨.inr rfl, .inr rfl, .inr rfl, .inr rfl, .inr rfl, trivial⟩
  · have k4 : κ = 4 := nI_inj (by omega) (by omega) c5
    have e9 : rC N κ b m rf z s = cst N z s := if_pos k4
    refine x_aload_n (pc := 8) cx (dA ddX1_costBy (i := 4) rfl) rfl ?_
    refine gX1_34 (pc := 9) (rfA hP.2.2.2.2.2.2.2.2.1.1) cx (dA ddX1_costBy (i := 5) rfl) h0 ?_
    refine x_iload_n (pc := 12) cx (dA ddX1_costBy (i := 6) rfl) rfl ?_
    refine x_iload_n (pc := 13) cx (dA ddX1_costBy (i := 7) rfl) rfl ?_
    refine x_S2 (pc := 14) mX1_106 c_X1_placeOf cx (dA ddX1_costBy (i := 8) rfl) (kI ?_)
    refine x_SN2 (pc := 17) mX1_109 (c_X7_at_ hP.2.2.2.2.2.2.2.2.1.2 (by decide)) cx (dA ddX1_costBy (i := 9) rfl) (kJ ?_)
    rw [atL_in (by omega) (by decide), hC.2.2.1 z (hK4 k4) s hs]
    refine x_lreturn (pc := 20) cx (dA ddX1_costBy (i := 10) rfl) (by first | exact Nat.le_of_ble_eq_true rfl | omega) (by first | exact Nat.le_of_ble_eq_true rfl | omega) ?_
    rw [← e9]
    exact ⟨rfl, rfl, K, Nat.le_refl _, PW.refl hH hC⟩
theorem c_X1_costOfPromise {l : Launch} {Z : zP} {G : zG} {V : zV} {p : Nat} (hP : PlanAt Z G p) {N : Nat → Nat} (hH : PlanH V p N) {K : Nat} (hC : PlanC V p N K) {z : Nat} (h1 : 1 ≤ z) (hz : z ≤ N 0) : CT l Z yX1_costOfPromise cX1_costOfPromise 3 (some .long) 4 0 0 [.ref p, .int (nI z)] G V (pJx (lN (prC N z (N 0 + 1 - z) 0)) G (PX V p N (max K z))) := by
  refine CT.of (by decide +kernel) (Nat.le_of_ble_eq_true rfl) (fun X hX cx => ?_)
  subst hX
  show Wm Z X 3 G V 0 0 _ 0 [(0, some (.ref p)), (1, some (.int (nI z)))] []
  have h0 := hP.1
  have hh := hP.2.2.1.1
  have hN := hH.1
  have hB := hN.1
  have n4 := hB.1
  have hV := hH.2.1
  have n125 := st125 n4
  have eD := hH.2.2.1
  have eS := hH.2.2.2.1
  have eN := hH.2.2.2.2.1
  have eK := hC.1
  have h06 := hN.2.1.2
  refine x_aload_n (pc := 0) cx (dA ddX1_costOfPromise (i := 0) rfl) rfl ?_
  refine x_iload_n (pc := 1) cx (dA ddX1_costOfPromise (i := 1) rfl) rfl ?_
  refine x_iconst (pc := 2) (v := nI 1) cx (dA ddX1_costOfPromise (i := 2) rfl) (by decide) ?_
  refine x_isub (pc := 3) cx (dA ddX1_costOfPromise (i := 3) rfl) ?_
  rw [pk_sub h1]
  refine x_V1 (pc := 4) mX1_102 h0 (c_X1_workOut hP hH hC (z := z - 1) (by omega)) cx (dA ddX1_costOfPromise (i := 4) rfl) (kVx fun V2 h2 => ?_)
  obtain ⟨K2, hK2, hw⟩ := h2
  have hH2 := hw.1
  have hC2 := hw.2.1
  have eD := hH2.2.2.1
  have eS := hH2.2.2.2.1
  have eN := hH2.2.2.2.2.1
  refine x_aload_n (pc := 7) cx (dA ddX1_costOfPromise (i := 5) rfl) rfl ?_
  refine x_iload_n (pc := 8) cx (dA ddX1_costOfPromise (i := 6) rfl) rfl ?_
  refine x_iconst (pc := 9) (v := nI 1) cx (dA ddX1_costOfPromise (i := 7) rfl) (by decide) ?_
  refine x_isub (pc := 10) cx (dA ddX1_costOfPromise (i := 8) rfl) ?_
  rw [pk_sub h1]
  refine x_V1 (pc := 11) mX1_137 h0 (c_X1_takeCosts hP hH2 (d := z - 1) (g := cst N (z - 1)) (by omega) (fun s hs => hC2.2.2.1 (z - 1) (by omega) s hs)) cx (dA ddX1_costOfPromise (i := 9) rfl) (kV ?_)
  rw [show cst N (z - 1) = prC N z 0 from rfl]
  refine x_iload_n (pc := 14) cx (dA ddX1_costOfPromise (i := 10) rfl) rfl ?_
  refine x_istore_n (pc := 15) cx (dA ddX1_costOfPromise (i := 11) rfl) (by decide) rfl ?_
  have L16 : ∀ i, i ≤ N 0 + 1 - z → Wm Z X 3 G (wkJ V2 p N (prC N z i)) 0 0 (rQ Z X 0 0 (pJx (lN (prC N z (N 0 + 1 - z) 0)) G (PX V p N (max K z)))) 16 [(0, some (.ref p)), (1, some (.int (nI z))), (2, some (.int (nI (z + i))))] [] := by
    refine lpU (N 0 + 1 - z) (fun i hi ih => ?_)
    refine x_iload_n (pc := 16) cx (dA ddX1_costOfPromise (i := 12) rfl) rfl ?_
    refine x_aload_n (pc := 17) cx (dA ddX1_costOfPromise (i := 13) rfl) rfl ?_
    refine gX1_66 (pc := 18) (congrArg Value.int eD) cx (dA ddX1_costOfPromise (i := 14) rfl) h0 ?_
    refine x_icmp_gt (pc := 21) (tgt := 54) cx (dA ddX1_costOfPromise (i := 15) rfl) (by decide) (fun c21 => ?_) (fun c21 => ?_)
    · have c21 := cltT (by omega) (by omega) c21
      have ei : i = N 0 + 1 - z := by omega
      subst ei
      refine x_aload_n (pc := 54) cx (dA ddX1_costOfPromise (i := 32) rfl) rfl ?_
      refine gX1_41 (pc := 55) (rfA hP.2.2.2.2.2.2.2.2.2.2.1.1) cx (dA ddX1_costOfPromise (i := 33) rfl) h0 ?_
      refine x_iconst (pc := 58) (v := nI 0) cx (dA ddX1_costOfPromise (i := 34) rfl) (by decide) ?_
      refine x_SN2 (pc := 59) mX1_109 (c_X7_at_ hP.2.2.2.2.2.2.2.2.2.2.1.2 (by decide)) cx (dA ddX1_costOfPromise (i := 35) rfl) (kJ ?_)
      rw [wk_get (Nat.pow_pos (by decide)) n125]
      refine x_lreturn (pc := 62) cx (dA ddX1_costOfPromise (i := 36) rfl) (by first | exact Nat.le_of_ble_eq_true rfl | omega) (by first | exact Nat.le_of_ble_eq_true rfl | omega) ?_
      exact ⟨rfl, rfl, K2, by omega, hw.wk⟩
    · have c21 := cltF (by omega) (by omega) c21
      have b62 := day62 hN (d := z + i) (C := 1188 + 504 * (z + i - 1)) (by omega) (by omega) (by omega) (f := (prC N z i)) (prC_bd hN h1 i)
      refine x_aload_n (pc := 24) cx (dA ddX1_costOfPromise (i := 16) rfl) rfl ?_
      refine x_iload_n (pc := 25) cx (dA ddX1_costOfPromise (i := 17) rfl) rfl ?_
      refine x_V1 (pc := 26) mX1_140 h0 (c_X1_goBackToLoad (V := V2) hP hH2 (d := z + i) (by omega) (by omega)) cx (dA ddX1_costOfPromise (i := 18) rfl) (kV ?_)
      refine x_aload_n (pc := 29) cx (dA ddX1_costOfPromise (i := 19) rfl) rfl ?_
      refine x_aload_n (pc := 30) cx (dA ddX1_costOfPromise (i := 20) rfl) rfl ?_
      refine x_iload_n (pc := 31) cx (dA ddX1_costOfPromise (i := 21) rfl) rfl ?_
      refine x_V1 (pc := 32) mX1_123 h0 (c_X1_boxCost (V := wkJ V2 p N (swD N (z + i) (prC N z i))) (d := z + i) hP hH2 (by omega) (by omega)) cx (dA ddX1_costOfPromise (i := 22) rfl) (kJ ?_)
      refine x_iload_n (pc := 35) cx (dA ddX1_costOfPromise (i := 23) rfl) rfl ?_
      refine x_iload_n (pc := 36) cx (dA ddX1_costOfPromise (i := 24) rfl) rfl ?_
      refine x_icmp_ne (pc := 37) (tgt := 44) cx (dA ddX1_costOfPromise (i := 25) rfl) (by decide) (fun c37 => ?_) (fun c37 => ?_)
      · have c37 := ceqF (by omega) (by omega) c37
        have i0 : ¬ i = 0 := by omega
        have e9 : prC N z (i + 1) = (fun s => mixP N (boxP N (z + i)) (swD N (z + i) (prC N z i)) s (pickP N (boxP N (z + i)) (swD N (z + i) (prC N z i)) false s)) := by show bstP N (z + i) (decide (i = 0)) (swD N (z + i) (prC N z i)) = _; rw [decide_eq_false i0]; rfl
        refine x_iconst (pc := 44) (v := nI 0) cx (dA ddX1_costOfPromise (i := 28) rfl) (by decide) ?_
        refine x_V2 (pc := 45) mX1_194 h0 (c_X1_goBackPromised (V := V2) (must := false) hP hH2 b62.1 b62.2) cx (dA ddX1_costOfPromise (i := 29) rfl) (kV ?_)
        rw [← e9]
        refine x_iinc (pc := 48) cx (dA ddX1_costOfPromise (i := 30) rfl) rfl (iinc1 _) (by decide) rfl ?_
        refine x_goto (pc := 51) (tgt := 16) cx (dA ddX1_costOfPromise (i := 31) rfl) (by decide) ?_
        have L := ih (by omega)
        rw [show z + (i + 1) = z + i + 1 by omega] at L
        exact x_enter L ⟨.inr rfl, .inr rfl, .inr rfl, trivial⟩
      · have c37 := ceqT (by omega) (by omega) c37
        have i0 : i = 0 := by omega
        have e9 : prC N z (i + 1) = (fun s => mixP N (boxP N (z + i)) (swD N (z + i) (prC N z i)) s (pickP N (boxP N (z + i)) (swD N (z + i) (prC N z i)) true s)) := by show bstP N (z + i) (decide (i = 0)) (swD N (z + i) (prC N z i)) = _; rw [decide_eq_true i0]; rfl
        refine x_iconst (pc := 40) (v := nI 1) cx (dA ddX1_costOfPromise (i := 26) rfl) (by decide) ?_
        refine x_goto (pc := 41) (tgt := 45) cx (dA ddX1_costOfPromise (i := 27) rfl) (by decide) ?_
        refine x_V2 (pc := 45) mX1_194 h0 (c_X1_goBackPromised (V := V2) (must := true) hP hH2 b62.1 b62.2) cx (dA ddX1_costOfPromise (i := 29) rfl) (kV ?_)
        rw [← e9]
        refine x_iinc (pc := 48) cx (dA ddX1_costOfPromise (i := 30) rfl) rfl (iinc1 _) (by decide) rfl ?_
        refine x_goto (pc := 51) (tgt := 16) cx (dA ddX1_costOfPromise (i := 31) rfl) (by decide) ?_
        have L := ih (by omega)
        rw [show z + (i + 1) = z + i + 1 by omega] at L
        exact x_enter L ⟨.inr rfl, .inr rfl, .inr rfl, trivial⟩
  exact x_enter (L16 0 (Nat.zero_le _)) ⟨.inr rfl, .inr rfl, .inr rfl, trivial⟩
