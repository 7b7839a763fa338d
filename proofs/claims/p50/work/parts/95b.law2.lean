/-! THE LAW: behind its calls -/
section LK
variable {Z : zP} {X : xP} {G : zG} {V : zV} {k n : Nat} {Q : State → Prop} {pc : Nat} {lw : List (Nat × Option Value)} {rest : List Value} {nL x : Nat} {col : Nat → Nat} {S : SX}
theorem kCt {A : Int32 × SX} (hA : lwT A.2) (h : ∀ (v : Int32) G' V' col' S', RC Z G' V' x col' S' → lwT S' → Wm Z X nL G' V' k n Q pc lw (.int v :: rest)) : ∀ (r : Option Value) (G' : zG) (V' : zV), pCI Z G V x col A r G' V' → Wm Z X nL G' V' k n Q pc lw (r.toList ++ rest) := kCa fun G' V' col' hR => h _ G' V' col' _ hR hA
theorem kCf {A : Int32 × SX} {m : Nat} (hA : lwF m A.2) (h : ∀ (v : Int32) G' V' col' S', RC Z G' V' x col' S' → lwF m S' → Wm Z X nL G' V' k n Q pc lw (.int v :: rest)) : ∀ (r : Option Value) (G' : zG) (V' : zV), pCI Z G V x col A r G' V' → Wm Z X nL G' V' k n Q pc lw (r.toList ++ rest) := kCa fun G' V' col' hR => h _ G' V' col' _ hR hA
theorem kEv {R : SX → Prop} (h : ∀ (v : Int32) G' V' col' S', RC Z G' V' x col' S' → R S' → Wm Z X nL G' V' k n Q pc lw (.int v :: rest)) : ∀ (r : Option Value) (G' : zG) (V' : zV), pS Z x (pEv R) r G' V' → Wm Z X nL G' V' k n Q pc lw (r.toList ++ rest) := by
  rintro r G' V' ⟨col', S', hR, ⟨v, rfl⟩, hP⟩
  exact h v G' V' col' S' hR hP
end LK
theorem qI_le {a b : Nat} (h : a ≤ b) (hb : b < 2 ^ 31) : nI a ≤ nI b := by
  rw [i32_le, nI_toInt hb, nI_toInt (by omega)]
  omega
section ST
variable {S : SX} {i : Nat} {N : Nat → Nat}
theorem e_status0 : fStatus S (nI 0) = (nI S.1.1, S) := by
  unfold fStatus
  rw [if_pos (by rw [nI_toInt (by omega)]; rfl)]
theorem e_status1 : fStatus S (nI 1) = (nI S.2.2.1.2, S) := by
  unfold fStatus
  rw [if_neg (by rw [nI_toInt (by omega)]; decide), if_pos (by rw [nI_toInt (by omega)]; rfl)]
theorem e_statusR {j : Nat} (hj : j < 5) : fStatus S (nI (12 + j)) = (S.2.2.2.2 j, S) := by
  have e := nI_toInt (n := 12 + j) (by omega)
  unfold fStatus
  rw [if_neg (by omega), if_neg (by omega), if_neg (by omega), if_neg (by omega), if_pos (by omega), tn_nI (by omega), Nat.add_sub_cancel_left]
/-- all that was refused -/
def rfS (S : SX) : Nat → Int32
  | 0 => nI 0
  | j + 1 => rfS S j + S.2.2.2.2 j
theorem rfS_ref {S : SX} : ∀ j, rfS (refX S 0) (j + 1) = rfS S (j + 1) + nI 1
  | 0 => by
    show nI 0 + (S.2.2.2.2 0 + nI 1) = nI 0 + S.2.2.2.2 0 + nI 1
    rw [Int32.add_assoc]
  | j + 1 => by
    show rfS (refX S 0) (j + 1) + (if j + 1 = 0 then S.2.2.2.2 (j + 1) + nI 1 else S.2.2.2.2 (j + 1)) = rfS S (j + 1) + S.2.2.2.2 (j + 1) + nI 1
    rw [rfS_ref j, if_neg (Nat.succ_ne_zero j), Int32.add_assoc, Int32.add_assoc, Int32.add_comm (nI 1)]
/-- the boy's rule, if there is one -/
def BoyP (S : SX) (N : Nat → Nat) (v : Int32) : Prop := ∀ s q, s < 8 → S.2.2.2.1 s = some (.inr q) → ∃ t p, t < 8 ∧ S.2.2.2.1 t = some (.inr p) ∧ v = nI t ∧ rCs N p.1 p.2.1 p.2.2.1 p.2.2.2 (N 0) 0 ≤ rCs N q.1 q.2.1 q.2.2.1 q.2.2.2 (N 0) 0
theorem e_boyX (h : HS S i N) (hI : lwI S) : ∃ (v : Int32) (S1 : SX), fBoy S (nI i) = (v, S1) ∧ HS S1 i N ∧ lwI S1 ∧ S1.1.1 = S.1.1 ∧ BoyP S1 N v := by
  obtain ⟨i1, i2⟩ := boA_min (S := S) (N := N) 8
  match eb : (boA S N 8).1 with
  | none => exact ⟨-5, refX S 3, by unfold fBoy; rw [if_pos h.c, h.x, eb], h, hI, rfl, fun s q hs e => absurd eb (i2 s q hs e).1⟩
  | some t =>
    obtain ⟨t8, p, hp, hv⟩ := i1 t eb
    exact ⟨nI t, S, by unfold fBoy; rw [if_pos h.c, h.x, eb], h, hI, rfl, fun s q hs e => ⟨t, p, t8, hp, rfl, hv ▸ (i2 s q hs e).2⟩⟩
theorem bad_houseOf : fHouseOf S (-1) (nI 0) = (-2, refX S 0) := by
  unfold fHouseOf
  rw [if_neg (fun z => absurd z.1.1 (by decide))]
  rfl
theorem bad_fill (h6 : S.1.1 ≤ 6) : fFill S (nI 6) (nI 0) = (-2, refX S 0) := by
  unfold fFill
  rw [if_neg (fun z => by have := z.1.2; rw [nI_toInt (by omega)] at this; omega)]
  rfl
end ST
