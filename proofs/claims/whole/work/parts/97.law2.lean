/-! THE LAW: its script; behind a call of either side -/
section LR
variable {Z : zP} {X : xP} {G G' : zG} {V V' : zV} {k n : Nat} {Q : State → Prop} {pc : Nat} {lw : List (Nat × Option Value)} {st rest : List Value} {own nm : String} {cc : ByteArray} {ret : Option FieldType} {D mc ms nL b L : Nat} {xs : Nat → Int32}
/-- the script, as the machine has it -/
def scOK (Z : zP) (X : xP) (b L : Nat) (xs : Nat → Int32) : Prop := va_X b L xs X.2.2.2.2.1 X.2.2.2.2.1.heap ∧ b < X.2.2.2.2.1.heap.size ∧ b < Z.1 ∧ L ≤ 3072
theorem x_sld {i : Nat} (cx : Cx Z X own nm cc nL ret D mc ms) (hX : scOK Z X b L xs) (hi : i < L) (d : decode cc pc = .ok (.iaload, 1)) (kk : Wm Z X nL G V k n Q (pc + 1) lw (.int (xs i) :: st)) : Wm Z X nL G V k n Q pc lw (.int (nI i) :: .ref b :: st) := by
  intro H locs ls hM hS hl
  have hL := hX.2.2.2
  have hc : (nI i).toNatClampNeg = i := nI_clamp (by omega)
  refine va_sld cx.1 cx.2.1 hX.1 hX.2.1 (A := fun q => Z.1 ≤ q) (Nat.not_le.mpr hX.2.2.1) hS (nI_ix hi (by omega)) d ?_
  rw [hc]
  exact kk H locs ls hM hS hl
theorem x_slen (cx : Cx Z X own nm cc nL ret D mc ms) (hX : scOK Z X b L xs) (d : decode cc pc = .ok (.arraylength, 1)) (kk : Wm Z X nL G V k n Q (pc + 1) lw (.int (nI L) :: st)) : Wm Z X nL G V k n Q pc lw (.ref b :: st) :=
  fun H locs ls hM hS hl => va_slen cx.1 cx.2.1 hX.1 hX.2.1 (A := fun q => Z.1 ≤ q) (Nat.not_le.mpr hX.2.2.1) hS d (kk H locs ls hM hS hl)
theorem x_arg {j q : Nat} {z : Int} (cx : Cx Z X own nm cc nL ret D mc ms) (hX : scOK Z X b L xs) (d0 : decode cc pc = .ok (.aload_n 0, 1)) (d1 : decode cc (pc + 1) = .ok (.iload_n 3, 1)) (d2 : decode cc (pc + 2) = .ok (.iconst z, 1)) (d3 : decode cc (pc + 3) = .ok (.iadd, 1)) (d4 : decode cc (pc + 4) = .ok (.iaload, 1)) (hz : Int32.ofInt z = nI q) (h0 : lk lw 0 = some (.ref b)) (h3 : lk lw 3 = some (.int (nI (6 * j)))) (hq : 6 * j + q < L) (kk : Wm Z X nL G V k n Q (pc + 5) lw (.int (xs (6 * j + q)) :: st)) : Wm Z X nL G V k n Q pc lw st := by
  refine x_aload_n cx d0 h0 ?_
  refine x_iload_n cx d1 h3 ?_
  refine x_iconst cx d2 hz ?_
  refine x_iadd cx d3 ?_
  rw [nI_add]
  exact x_sld cx hX hq d4 kk
theorem kCI {x y : Nat} {col : Nat → Nat} {zk : Option Nat} {S : SX} {A : Int32 × SX} (hM : RM Z G V y zk S) (hB : MB col y zk) (h : ∀ G' V' col', RC Z G' V' x col' A.2 → RM Z G' V' y zk S → MB col' y zk → Wm Z X nL G' V' k n Q pc lw (.int A.1 :: rest)) : ∀ (r : Option Value) (G' : zG) (V' : zV), pCI Z G V x col A r G' V' → Wm Z X nL G' V' k n Q pc lw (r.toList ++ rest) := by
  rintro r G' V' ⟨rfl, ht, ⟨col', hc, hR⟩, ho⟩
  obtain ⟨a, c⟩ := LI.cx hM hB ht hc ho
  exact h G' V' col' hR a c
theorem kCJ {x y : Nat} {col : Nat → Nat} {zk : Option Nat} {S : SX} {A : Int64 × SX} (hM : RM Z G V y zk S) (hB : MB col y zk) (h : ∀ G' V' col', RC Z G' V' x col' A.2 → RM Z G' V' y zk S → MB col' y zk → Wm Z X nL G' V' k n Q pc lw (.long A.1 :: rest)) : ∀ (r : Option Value) (G' : zG) (V' : zV), pCJ Z G V x col A r G' V' → Wm Z X nL G' V' k n Q pc lw (r.toList ++ rest) := by
  rintro r G' V' ⟨rfl, ht, ⟨col', hc, hR⟩, ho⟩
  obtain ⟨a, c⟩ := LI.cx hM hB ht hc ho
  exact h G' V' col' hR a c
theorem kMI {x y : Nat} {col : Nat → Nat} {zk : Option Nat} {S' : SX} {A : Int32 × SX} (hC : RC Z G V x col S') (hB : MB col y zk) (h : ∀ V', RC Z G V' x col S' → RM Z G V' y zk A.2 → Wm Z X nL G V' k n Q pc lw (.int A.1 :: rest)) : ∀ (r : Option Value) (G' : zG) (V' : zV), pMI Z G V y zk A r G' V' → Wm Z X nL G' V' k n Q pc lw (r.toList ++ rest) := by
  rintro r G' V' ⟨rfl, rfl, hR, ho⟩
  exact h V' (LI.my hC hB ho) hR
theorem kMJ {x y : Nat} {col : Nat → Nat} {zk : Option Nat} {S' : SX} {A : Int64 × SX} (hC : RC Z G V x col S') (hB : MB col y zk) (h : ∀ V', RC Z G V' x col S' → RM Z G V' y zk A.2 → Wm Z X nL G V' k n Q pc lw (.long A.1 :: rest)) : ∀ (r : Option Value) (G' : zG) (V' : zV), pMJ Z G V y zk A r G' V' → Wm Z X nL G' V' k n Q pc lw (r.toList ++ rest) := by
  rintro r G' V' ⟨rfl, rfl, hR, ho⟩
  exact h V' (LI.my hC hB ho) hR
theorem kMX {x y : Nat} {col : Nat → Nat} {zk : Option Nat} {S' : SX} {A : Int32 × SX} (hC : RC Z G V x col S') (hB : MB col y zk) (h : ∀ G' V' zk', RC Z G' V' x col S' → RM Z G' V' y zk' A.2 → MB col y zk' → Wm Z X nL G' V' k n Q pc lw (.int A.1 :: rest)) : ∀ (r : Option Value) (G' : zG) (V' : zV), pMX Z G V y zk A r G' V' → Wm Z X nL G' V' k n Q pc lw (r.toList ++ rest) := by
  rintro r G' V' ⟨rfl, zk', hR, ht, hk, ho⟩
  obtain ⟨a, c⟩ := LI.mx hC hB ht hk ho
  exact h G' V' zk' a hR c
end LR
