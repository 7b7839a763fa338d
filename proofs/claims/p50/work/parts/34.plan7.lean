/-! MORE OBJECTS -/
def ExtG (G G' : zG) : Prop := G.1 ≤ G'.1 ∧ ∀ a, a < G.1 → G'.2.1 a = G.2.1 a ∧ (∀ f, G'.2.2.1 f a = G.2.2.1 f a) ∧ ∀ i, G'.2.2.2 a i = G.2.2.2 a i
theorem ExtG.refl (G : zG) : ExtG G G := ⟨Nat.le_refl _, fun _ _ => ⟨rfl, fun _ => rfl, fun _ => rfl⟩⟩
theorem ExtG.trans {G G' G'' : zG} (h : ExtG G G') (h2 : ExtG G' G'') : ExtG G G'' := ⟨Nat.le_trans h.1 h2.1, fun a ha => by
  obtain ⟨a1, a2, a3⟩ := h.2 a ha
  obtain ⟨b1, b2, b3⟩ := h2.2 a (Nat.lt_of_lt_of_le ha h.1)
  exact ⟨b1.trans a1, fun f => (b2 f).trans (a2 f), fun i => (b3 i).trans (a3 i)⟩⟩
theorem ExtG.nG {G G' : zG} {t n : Nat} (h : ExtG G G') : ExtG G (nG G' t n) := ⟨Nat.le_succ_of_le h.1, fun a ha => ⟨(va_up_ne _ _ (Nat.ne_of_lt (Nat.lt_of_lt_of_le ha h.1))).trans (h.2 a ha).1, (h.2 a ha).2⟩⟩
theorem ExtG.sR {G G' : zG} {f b : Nat} {v : Option Nat} (h : ExtG G G') (hb : G.1 ≤ b) : ExtG G (sR G' f b v) := ⟨h.1, fun a ha => ⟨(h.2 a ha).1, fun g => (u2_snd _ _ (show a ≠ b by omega)).trans ((h.2 a ha).2.1 g), (h.2 a ha).2.2⟩⟩
theorem ExtG.sAR {G G' : zG} {i b : Nat} {v : Option Nat} (h : ExtG G G') (hb : G.1 ≤ b) : ExtG G (sAR G' b i v) := ⟨h.1, fun a ha => ⟨(h.2 a ha).1, (h.2 a ha).2.1, fun g => (u2_fst _ _ (show a ≠ b by omega)).trans ((h.2 a ha).2.2 g)⟩⟩
theorem isK.ext {Z : zP} {G G' : zG} {a c : Nat} (h : isK Z G a c) (hE : ExtG G G') : isK Z G' a c := ⟨h.1, Nat.lt_of_lt_of_le h.2.1 hE.1, by rw [(hE.2 a h.2.1).1]; exact h.2.2⟩
theorem isA.ext {Z : zP} {G G' : zG} {a t n : Nat} (h : isA Z G a t n) (hE : ExtG G G') : isA Z G' a t n := ⟨h.1, Nat.lt_of_lt_of_le h.2.1 hE.1, by rw [(hE.2 a h.2.1).1]; exact h.2.2⟩
theorem rf_ext {Z : zP} {G G' : zG} {a c f : Nat} {o : Option Nat} (h : isK Z G a c) (hE : ExtG G G') (hr : G.2.2.1 f a = o) : G'.2.2.1 f a = o := ((hE.2 a h.2.1).2.1 f).trans hr
theorem HouseAt.ext {Z : zP} {G G' : zG} {h : Nat} (hH : HouseAt Z G h) (hE : ExtG G G') : HouseAt Z G' h := ⟨hH.1.ext hE, rf_ext hH.1 hE hH.2.1, hH.2.2.ext hE⟩
theorem RowAt.ext {Z : zP} {G G' : zG} {r m : Nat} (hR : RowAt Z G r m) (hE : ExtG G G') : RowAt Z G' r m := ⟨hR.1.ext hE, rf_ext hR.1 hE hR.2.1, hR.2.2.1.ext hE, hR.2.2.2⟩
theorem PlanAt.ext {Z : zP} {G G' : zG} {p : Nat} (hP : PlanAt Z G p) (hE : ExtG G G') : PlanAt Z G' p := by
  obtain ⟨a, b, c, d1, d2, d3, d4, d5, d6, d7, d8, d9⟩ := hP
  exact ⟨a.ext hE, rf_ext a hE b, c.ext hE, ⟨rf_ext a hE d1.1, d1.2.ext hE⟩, ⟨rf_ext a hE d2.1, d2.2.ext hE⟩, ⟨rf_ext a hE d3.1, d3.2.ext hE⟩, ⟨rf_ext a hE d4.1, d4.2.ext hE⟩, ⟨rf_ext a hE d5.1, d5.2.ext hE⟩, ⟨rf_ext a hE d6.1, d6.2.ext hE⟩, ⟨rf_ext a hE d7.1, d7.2.ext hE⟩, ⟨rf_ext a hE d8.1, d8.2.ext hE⟩, ⟨rf_ext a hE d9.1, d9.2.ext hE⟩⟩
/-- the same where S holds -/
def same4 (V V' : zV) (x : Nat) : Prop := (∀ i, V'.1 i x = V.1 i x) ∧ (∀ i, V'.2.1 i x = V.2.1 i x) ∧ (∀ j, V'.2.2.1 x j = V.2.2.1 x j) ∧ ∀ j, V'.2.2.2 x j = V.2.2.2 x j
theorem same4.refl (V : zV) (x : Nat) : same4 V V x := ⟨fun _ => rfl, fun _ => rfl, fun _ => rfl, fun _ => rfl⟩
theorem same4.trans {V V' V'' : zV} {x : Nat} (h : same4 V V' x) (h2 : same4 V' V'' x) : same4 V V'' x := ⟨fun i => (h2.1 i).trans (h.1 i), fun i => (h2.2.1 i).trans (h.2.1 i), fun i => (h2.2.2.1 i).trans (h.2.2.1 i), fun i => (h2.2.2.2 i).trans (h.2.2.2 i)⟩
theorem same4.sI {V V' : zV} {x f a : Nat} {v : Int32} (h : same4 V V' x) (ha : x ≠ a) : same4 V (sI V' f a v) x := ⟨fun i => (sI_na ha).trans (h.1 i), h.2⟩
theorem same4.sAI {V V' : zV} {x a i : Nat} {v : Int32} (h : same4 V V' x) (ha : x ≠ a) : same4 V (sAI V' a i v) x := ⟨h.1, h.2.1, fun j => (u2_fst _ _ ha).trans (h.2.2.1 j), h.2.2.2⟩
theorem same4.sAJ {V V' : zV} {x a i : Nat} {v : Int64} (h : same4 V V' x) (ha : x ≠ a) : same4 V (sAJ V' a i v) x := ⟨h.1, h.2.1, h.2.2.1, fun j => (u2_fst _ _ ha).trans (h.2.2.2 j)⟩
theorem same4.rAI {V V' : zV} {x a l n : Nat} {g : Nat → Int32} (h : same4 V V' x) (ha : x ≠ a) : same4 V (rAI V' a l n g) x := ⟨h.1, h.2.1, fun j => (rAI_ne ha j).trans (h.2.2.1 j), h.2.2.2⟩
theorem same4.rAJ {V V' : zV} {x a l n : Nat} {g : Nat → Int64} (h : same4 V V' x) (ha : x ≠ a) : same4 V (rAJ V' a l n g) x := ⟨h.1, h.2.1, h.2.2.1, fun j => (rAJ_ne ha j).trans (h.2.2.2 j)⟩
theorem HouseV.same {V V' : zV} {h : Nat} {N : Nat → Nat} (hV : HouseV V h N) (hs : same4 V V' (h + 1)) : HouseV V' h N := fun j hj => (hs.2.2.1 j).trans (hV j hj)
theorem PlanH.same {V V' : zV} {p : Nat} {N : Nat → Nat} (hH : PlanH V p N) (hs : ∀ x, p ≤ x → x < p + 12 → same4 V V' x) : PlanH V' p N := by
  obtain ⟨a1, a2, a3, a4, a5, a6, a7, a8, a9⟩ := hH
  have h0 := (hs p (by omega) (by omega)).1
  exact ⟨a1, a2.same (hs (p + 1 + 1) (by omega) (by omega)), (h0 _).trans a3, (h0 _).trans a4, (h0 _).trans a5, fun s h => ((hs (p + 3) (by omega) (by omega)).2.2.1 s).trans (a6 s h), fun s h => ((hs (p + 4) (by omega) (by omega)).2.2.1 s).trans (a7 s h), fun s h => ((hs (p + 5) (by omega) (by omega)).2.2.1 s).trans (a8 s h), fun s h => ((hs (p + 6) (by omega) (by omega)).2.2.1 s).trans (a9 s h)⟩
theorem PlanC.same {V V' : zV} {p K : Nat} {N : Nat → Nat} (hC : PlanC V p N K) (hs : ∀ x, p ≤ x → x < p + 12 → same4 V V' x) : PlanC V' p N K := by
  obtain ⟨a1, a2, a3, a4⟩ := hC
  exact ⟨((hs p (by omega) (by omega)).1 _).trans a1, a2, fun d hd s h => ((hs (p + 8) (by omega) (by omega)).2.2.2 _).trans (a3 d hd s h), fun d h1 hd s h => ⟨((hs (p + 9) (by omega) (by omega)).2.2.2 _).trans (a4 d h1 hd s h).1, ((hs (p + 7) (by omega) (by omega)).2.2.1 _).trans (a4 d h1 hd s h).2⟩⟩
/-- rules beside a plan -/
theorem PlanAt.top {Z : zP} {G : zG} {p : Nat} (hP : PlanAt Z G p) : p + 12 ≤ G.1 := by
  have := hP.2.2.2.2.2.2.2.2.2.2.2.2.2.1
  omega
def pIg (x : Int32) (R : zG → zV → Prop) (r : Option Value) (G' : zG) (V' : zV) : Prop := r = some (.int x) ∧ R G' V'
def pVg (R : zG → zV → Prop) (r : Option Value) (G' : zG) (V' : zV) : Prop := r = none ∧ R G' V'
section AG
variable {Z : zP} {X : xP} {nL : Nat} {k n : Nat} {Q : State → Prop} {pc : Nat} {lw : List (Nat × Option Value)} {R : zG → zV → Prop} {rest : List Value}
theorem kIg {x : Int32} (h : ∀ G' V', R G' V' → Wm Z X nL G' V' k n Q pc lw (.int x :: rest)) : ∀ (r : Option Value) (G' : zG) (V' : zV), pIg x R r G' V' → Wm Z X nL G' V' k n Q pc lw (r.toList ++ rest) := by
  rintro r G' V' ⟨rfl, h2⟩
  exact h G' V' h2
theorem kVg (h : ∀ G' V', R G' V' → Wm Z X nL G' V' k n Q pc lw rest) : ∀ (r : Option Value) (G' : zG) (V' : zV), pVg R r G' V' → Wm Z X nL G' V' k n Q pc lw (r.toList ++ rest) := by
  rintro r G' V' ⟨rfl, h2⟩
  exact h G' V' h2
end AG
theorem rCs_bd {N : Nat → Nat} (hN : HOK N) {κ b m : Nat} {rf : Nat → Bool} : ∀ d s, s < 5 ^ N 4 → rCs N κ b m rf d s ≤ sclP N d * (1188 + 504 * d)
  | 0, s, _ => leav_le hN
  | d + 1, s, hs => by
    have h := (day_bd hN (d := d + 1) (C := 1188 + 504 * d) (by omega) (f := rCs N κ b m rf d) (rCs_bd hN d)).2.2 s (ruL N κ b m rf (d + 1) s) hs
    rw [show 1188 + 504 * (d + 1) = 1188 + 504 * d + 504 by omega]
    exact h
theorem rC_lt {N : Nat → Nat} (hN : HOK N) {κ b m : Nat} {rf : Nat → Bool} {d s : Nat} (hd : d ≤ 6) (hs : s < 5 ^ N 4) : rC N κ b m rf d s < 2 ^ 62 := by
  have s1 := scl_lt hN.1.1 hd
  unfold rC
  split
  · exact bd62 (cst_bd hN d s hs) s1 (by omega)
  · exact bd62 (rCs_bd hN d s hs) s1 (by omega)
/-- the best of numbers from lo on, i of them tried: which, and its cost; ok says which are tried -/
def bsA (v : Nat → Nat) (ok : Nat → Bool) (lo : Nat) : Nat → Option Nat × Nat
  | 0 => (none, 0)
  | i + 1 => if (bsA v ok lo i).1 = none ∨ (ok (lo + i) = true ∧ v (lo + i) < (bsA v ok lo i).2) then (some (lo + i), v (lo + i)) else bsA v ok lo i
theorem bsA_lt {v : Nat → Nat} {ok : Nat → Bool} {lo : Nat} : ∀ {i x : Nat}, (bsA v ok lo i).1 = some x → x < lo + i
  | 0, x, h => by cases h
  | i + 1, x, h => by
    unfold bsA at h
    split at h
    · cases h; omega
    · have := bsA_lt h; omega
theorem bsA_v {v : Nat → Nat} {ok : Nat → Bool} {lo B : Nat} (hv : ∀ a, v a < B) : ∀ i, (bsA v ok lo i).2 < B
  | 0 => Nat.lt_of_le_of_lt (Nat.zero_le _) (hv 0)
  | i + 1 => by
    unfold bsA
    split
    · exact hv _
    · exact bsA_v hv i
theorem bsA_0 {v : Nat → Nat} {ok : Nat → Bool} {lo : Nat} : ∀ {i : Nat}, (bsA v ok lo i).1 ≠ none → 1 ≤ i
  | 0, h => absurd rfl h
  | i + 1, _ => Nat.succ_le_succ (Nat.zero_le _)
def noF : Nat → Bool := fun _ => false
def fuV (N : Nat → Nat) (a : Nat) : Nat := rC N 1 a 0 noF (N 0) 0
def dyV (N : Nat → Nat) (a : Nat) : Nat := rC N 2 a 0 noF (N 0) 0
def plnP (N : Nat → Nat) : Option Nat := (bsA (fuV N) (fun a => rmA N (a - 1) (5 ^ N 4)) 0 100).1
def evyP (N : Nat → Nat) : Option Nat := (bsA (dyV N) (fun _ => true) 1 6).1
theorem fuV_lt {N : Nat → Nat} (hN : HOK N) (a : Nat) : fuV N a < 2 ^ 62 := rC_lt hN hN.2.1.2 (Nat.pow_pos (by decide))
theorem dyV_lt {N : Nat → Nat} (hN : HOK N) (a : Nat) : dyV N a < 2 ^ 62 := rC_lt hN hN.2.1.2 (Nat.pow_pos (by decide))
/-- a plan's work with new objects beside it -/
def PG (G : zG) (V : zV) (p : Nat) (N : Nat → Nat) (K : Nat) (G' : zG) (V' : zV) : Prop := ExtG G G' ∧ PlanH V' p N ∧ PlanC V' p N K ∧ V'.1 64 p = V.1 64 p ∧ ∀ x, x < G.1 → (x < p ∨ p + 12 ≤ x) → same4 V V' x
theorem PG.refl {G : zG} {V : zV} {p K : Nat} {N : Nat → Nat} (hH : PlanH V p N) (hC : PlanC V p N K) : PG G V p N K G V := ⟨ExtG.refl G, hH, hC, rfl, fun x _ _ => same4.refl V x⟩
def nrV (V : zV) (a κ : Nat) (x : Int32) : zV := sI (sI (sI V 150 a (nI κ)) 151 a x) 152 a x
theorem nrV_same {V : zV} {a κ x : Nat} {v : Int32} (h : x ≠ a) : same4 V (nrV V a κ v) x := ((same4.refl V x).sI h |>.sI h).sI h
theorem PG.new {Z : zP} {G G1 : zG} {V V1 : zV} {p κ K K2 : Nat} {x : Int32} {N : Nat → Nat} (hP : PlanAt Z G p) (h : PG G V p N K G1 V1) {V' : zV} (hw : PW (nrV V1 G1.1 κ x) V' p N K2) : PG G V p N K2 (sR (nG G1 3 0) 153 G1.1 none) V' := by
  have t := hP.top
  have e1 := h.1.1
  refine ⟨(h.1.nG).sR e1, hw.1, hw.2.1, hw.2.2.1.trans ?_, fun y hy hp => ((h.2.2.2.2 y hy hp).trans (nrV_same (by omega))).trans (hw.2.2.2 y hp)⟩
  exact ((nrV_same (show p ≠ G1.1 by omega)).1 64).trans h.2.2.2.1
theorem nr_at {Z : zP} {G1 : zG} {V1 : zV} {κ b : Nat} (hz : Z.1 ≤ G1.1) (h : (κ = 1 ∧ b ≤ 99) ∨ (κ = 2 ∧ 1 ≤ b ∧ b ≤ 6)) : RuleAt Z (sR (nG G1 3 0) 153 G1.1 none) (nrV V1 G1.1 κ (nI b)) G1.1 κ b 0 noF := by
  have a1 : (nrV V1 G1.1 κ (nI b)).1 150 G1.1 = nI κ := (sI_ne (by decide)).trans ((sI_ne (by decide)).trans sI_eq)
  have a2 : (nrV V1 G1.1 κ (nI b)).1 151 G1.1 = nI b := (sI_ne (by decide)).trans sI_eq
  have a3 : (nrV V1 G1.1 κ (nI b)).1 152 G1.1 = nI b := sI_eq
  refine ⟨⟨hz, Nat.lt_succ_self _, by show (va_up G1.2.1 G1.1 (3, 0) G1.1).1 = 3; rw [va_up_self]⟩, a1, by omega, fun _ => ⟨a2, by omega⟩, fun _ => ⟨a3, by omega⟩, fun e => by omega, fun e => by omega⟩
theorem Wm.top {Z : zP} {X : xP} {nL : Nat} {G : zG} {V : zV} {k n : Nat} {Q : State → Prop} {pc : Nat} {lw : List (Nat × Option Value)} {st : List Value} (h : Z.1 ≤ G.1 → zFr G V → Wm Z X nL G V k n Q pc lw st) : Wm Z X nL G V k n Q pc lw st := fun H locs ls hM hS hl => h hM.2.1 hM.2.2.2.1 H locs ls hM hS hl
theorem Wm.widenK {Z : zP} {X : xP} {nL : Nat} {G : zG} {V : zV} {k k' n n' : Nat} {Q : State → Prop} {pc : Nat} {lw : List (Nat × Option Value)} {st : List Value} (h : Wm Z X nL G V k' n' Q pc lw st) (hk : k ≤ k') (hn : n ≤ n') : Wm Z X nL G V k n Q pc lw st := fun H locs ls hM hS hl => W.widen hk hn (h H locs ls hM hS hl)
theorem PG_full {G G' : zG} {V V' : zV} {p K : Nat} {N : Nat → Nat} (ht : p + 12 ≤ G.1) (h : PG G V p N K G' V') : PG G (sI V 64 p (nhV (plnP N))) p N K G' (sI V' 64 p (nhV (plnP N))) := by
  obtain ⟨a, b, c, d, e⟩ := h
  refine ⟨a, b.sI (by decide), ⟨(sI_ne (by decide)).trans c.1, c.2⟩, by rw [sI_eq, sI_eq], fun x h1 h2 => ?_⟩
  have e1 := e x h1 h2
  exact ⟨fun i => (sI_na (by omega)).trans ((e1.1 i).trans (sI_na (by omega)).symm), e1.2⟩
theorem c_X3_init_z {l : Launch} {Z : zP} {G : zG} {V : zV} {q : Nat} (h0 : isK Z G q 3) {κ : Nat} {x : Int32} (h6 : κ < 6) (hk : κ ≠ 3) : CT l Z yX3_init cX3_init 4 none 1 0 0 [.ref q, .int (nI κ), .int x, .null] G V (pV (sR G 153 q none) (nrV V q κ x)) := by
  refine CT.of (by decide +kernel) (Nat.le_of_ble_eq_true rfl) (fun X hX cx => ?_)
  subst hX
  show Wm Z X 4 G V 0 0 _ 0 [(0, some (.ref q)), (1, some (.int (nI κ))), (2, some (.int x)), (3, some (.null))] []
  refine x_aload_n (pc := 0) cx (dA ddX3_init (i := 0) rfl) rfl ?_
  refine x_objInit (pc := 1) koX3_3 ko_i ko_c cx (dA ddX3_init (i := 1) rfl) (by decide) (Nat.le_of_ble_eq_true rfl) ?_
  refine x_aload_n (pc := 4) cx (dA ddX3_init (i := 2) rfl) rfl ?_
  refine x_iload_n (pc := 5) cx (dA ddX3_init (i := 3) rfl) rfl ?_
  refine pX3_9 (pc := 6)  cx (dA ddX3_init (i := 4) rfl) h0 ?_
  refine x_aload_n (pc := 9) cx (dA ddX3_init (i := 5) rfl) rfl ?_
  refine x_iload_n (pc := 10) cx (dA ddX3_init (i := 6) rfl) rfl ?_
  refine x_iconst (pc := 11) (v := nI 3) cx (dA ddX3_init (i := 7) rfl) (by decide) ?_
  refine x_icmp_ne (pc := 12) (tgt := 22) cx (dA ddX3_init (i := 8) rfl) (by decide) (fun c12 => ?_) (fun c12 => absurd c12 (fun e => hk (nI_inj (by omega) (by omega) e)))
  refine x_iload_n (pc := 22) cx (dA ddX3_init (i := 13) rfl) rfl ?_
  refine pX3_15 (pc := 23)  cx (dA ddX3_init (i := 14) rfl) h0 ?_
  refine x_aload_n (pc := 26) cx (dA ddX3_init (i := 15) rfl) rfl ?_
  refine x_iload_n (pc := 27) cx (dA ddX3_init (i := 16) rfl) rfl ?_
  refine x_iconst (pc := 28) (v := nI 3) cx (dA ddX3_init (i := 17) rfl) (by decide) ?_
  refine x_icmp_ne (pc := 29) (tgt := 39) cx (dA ddX3_init (i := 18) rfl) (by decide) (fun c29 => ?_) (fun c29 => absurd c29 (fun e => hk (nI_inj (by omega) (by omega) e)))
  refine x_iload_n (pc := 39) cx (dA ddX3_init (i := 23) rfl) rfl ?_
  refine pX3_18 (pc := 40)  cx (dA ddX3_init (i := 24) rfl) h0 ?_
  refine x_aload_n (pc := 43) cx (dA ddX3_init (i := 25) rfl) rfl ?_
  refine x_aload_nN (pc := 44) cx (dA ddX3_init (i := 26) rfl) rfl ?_
  refine x_ifnonnull_n (pc := 45) cx (dA ddX3_init (i := 27) rfl) ?_
  refine x_null (pc := 48) cx (dA ddX3_init (i := 28) rfl) ?_
  refine x_goto (pc := 49) (tgt := 56) cx (dA ddX3_init (i := 29) rfl) (by decide) ?_
  refine pX3_27 (pc := 56) (x := none) cx (dA ddX3_init (i := 32) rfl) h0 ?_
  refine x_return (pc := 59) cx (dA ddX3_init (i := 33) rfl) (by first | exact Nat.le_of_ble_eq_true rfl | omega) (by first | exact Nat.le_of_ble_eq_true rfl | omega) ?_
  exact ⟨rfl, rfl, rfl⟩
