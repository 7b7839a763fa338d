theorem mx0 {A B : Nat} (ha : A < 2 ^ 62) (hb : B < 2 ^ 62) : (if lN A - lN B < lN 0 then lN 0 else lN A - lN B) = lN (A - B) := by
  have ls := lsub_toInt ha hb
  have e0 : (lN 0).toInt = 0 := rfl
  by_cases h : lN A - lN B < lN 0
  · rw [if_pos h]
    rw [Int64.lt_iff_toInt_lt, ls, e0] at h
    rw [show A - B = 0 by omega]
  · rw [if_neg h]
    rw [Int64.lt_iff_toInt_lt, ls, e0] at h
    exact lN_sub (by omega)
theorem RO.dra {Z : zP} {G : zG} {V V2 : zV} {x : Nat} {col : Nat → Nat} {S : SX} {l n : Nat} {g : Nat → Int32} (h : RO Z G V x col S V2) : RO Z G V x col S (rAI V2 (x + 65 + 1) l n g) := ⟨h.1.tg (S' := S) (T := fun a => a = x + 65 + 1) (gW.refl G x) (fun _ _ => rfl) h.1.2.2.2.1 (fun a _ _ hT => ⟨sameG.refl G a, (same4.refl V2 a).rAI hT⟩) (fun a ha e => by rcases h.1.out3 e with q | q <;> omega) (Or.inl ⟨fun a _ _ => by omega, rfl⟩) (Or.inl ⟨fun a _ _ => by omega, by omega, rfl⟩) (Or.inl ⟨by omega, by omega, rfl⟩) (Or.inl ⟨by omega, by omega, fun a ha e => by rcases h.1.out2 ha with q | q <;> omega, rfl⟩) (Or.inl ⟨by omega, rfl⟩) (fun i hi => Or.inl fun a _ _ => by omega) (Or.inl fun a _ _ => by omega) (Or.inl fun a _ _ => by omega), fun a ha => (h.2 a ha).rAI (by have o := h.1.out0 ha; omega)⟩
