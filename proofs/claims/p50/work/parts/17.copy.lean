theorem zs_native : (Cond.native arraycopyName) ∈ tables_1 := tt3 (j := 111) rfl
section XS
variable {Z : zP} {X : xP} {nL : Nat} {G : zG} {V : zV} {k n : Nat} {Q : State → Prop} {pc : Nat} {lw : List (Nat × Option Value)} {st : List Value} {own nm : String} {cc : ByteArray} {ret : Option FieldType} {D mc ms : Nat}
/-- System.arraycopy between rows of longs -/
theorem x_copyJ {idx a b m0 m1 i j m : Nat} (w1 : Cond.methodLink own idx arraycopyName ∈ WA) (w2 : Cond.native arraycopyName ∈ WA) (w3 : Cond.static arraycopyName ∈ WA) (w4 : Cond.initialized "java/lang/System" ∈ WA)
    (cx : Cx Z X own nm cc nL ret D mc ms) (d : decode cc pc = .ok (.invokestatic idx, 3)) (ha : isA Z G a 2 m0) (hb : isA Z G b 2 m1) (hi : i + m ≤ m0) (hj : j + m ≤ m1) (h0 : m0 < 65536) (h1 : m1 < 65536) (hD : 1 ≤ D) (hr : (st.map fun v => v.category).sum ≤ 8)
    (kk : Wm Z X nL G (rAJ V b j m (fun q => V.2.2.2 a (i + q))) k n Q (pc + 3) lw st) : Wm Z X nL G V k n Q pc lw (.int (nI m) :: .int (nI j) :: .ref b :: .int (nI i) :: .ref a :: st) := by
  intro H locs ls hM hS hl T hT Xs
  have c1 := cx.2.2.2.2.2.2.2.2.2.1
  have c2 := cx.2.2.2.2.2.2.2.2.2.2.1
  have hts := cx.2.2.2.2.1
  have hc0 := hM.arr ha
  have hc1 := hM.arr hb
  have ni : (nI i).toNatClampNeg = i := nI_clamp (by omega)
  have nj : (nI j).toNatClampNeg = j := nI_clamp (by omega)
  have nm' : (nI m).toNatClampNeg = m := nI_clamp (by omega)
  obtain ⟨-, k0, hk0, cm0, hkk0⟩ := (cx.tys (t := 2) (by decide)).1 m0 (fun q => aV G V 2 a q)
  obtain ⟨-, k1, hk1, cm1, hkk1⟩ := (cx.tys (t := 2) (by decide)).1 m1 (fun q => aV G V 2 b q)
  have hw : nativeFrameWords "java/lang/System" "arraycopy" 5 + 11 ≤ 28 := by decide +kernel
  obtain ⟨vm', X', step⟩ := Xs.arraycopy cx.1 cx.2.2.2.1 (hts _ w1) (hts _ w2) (hts _ w3) (hts _ w4) (src := a) (dst := b) (srcPos := nI i) (destPos := nI j) (n := nI m) (by rw [hT]; exact hc0) (by rw [hT]; exact hc1)
    (fun _ h => by cases h) (fun _ h => by cases h) (fun h => by cases h) (fun h => by cases h) hk0 hk1 hkk0 hkk1 (by simp [refKind, zTy]) (nI_pos (by omega)) (nI_pos (by omega)) (nI_pos (by omega))
    (by rw [nI_toInt (by omega), nI_toInt (by omega)]; show ¬ _ > ((arrV _ _ _).slots.size : Int); rw [arrV_size]; omega)
    (by rw [nI_toInt (by omega), nI_toInt (by omega)]; show ¬ _ > ((arrV _ _ _).slots.size : Int); rw [arrV_size]; omega)
    (fun vm₁ _ q hq => by
      rw [nm'] at hq
      have e : (arrV (Z.2.2.1 2) m0 (fun q => aV G V 2 a q)).slots.getD ((nI i).toNatClampNeg + q) .null = .long (V.2.2.2 a (i + q)) := by
        rw [ni, Array.getD_eq_getD_getElem?, arrV_read _ _ (by omega)]
        rfl
      rw [e]
      exact ⟨rfl, trivial⟩)
    (g := F0 X.2.2.2.2.2.1 pc ls (.int (nI m) :: .int (nI j) :: .ref b :: .int (nI i) :: .ref a :: st)) rfl (by show ls.size = _; rw [cx.2.2.1]; exact hl.1) (rest := st) rfl (by rw [cx.2.1]; exact d) (by omega) (by show 2 * 0 + _ + _ ≤ _; omega)
  have e1 : copied (arrV (Z.2.2.1 2) m0 (fun q => aV G V 2 a q)) (arrV (Z.2.2.1 2) m1 (fun q => aV G V 2 b q)) (nI i) (nI j) (nI m) = arrV (Z.2.2.1 2) m1 (fun q => .long (va_cpy (V.2.2.2 a) (V.2.2.2 b) i j m q)) := by
    have := va_copied (fun z : Int64 => Value.long z) (Z.2.2.1 2) (Z.2.2.1 2) (n0 := m0) (n1 := m1) (dp := j) (V.2.2.2 a) (V.2.2.2 b) hi
    unfold copied
    rw [ni, nj, nm']
    exact this
  rw [e1] at X' step
  have hlb : b < H.size := (Array.getElem?_eq_some_iff.mp hc1).1
  obtain ⟨H1, hH1⟩ : ∃ H1, H1 = H.setIfInBounds b (arrV (Z.2.2.1 2) m1 (fun q => .long (va_cpy (V.2.2.2 a) (V.2.2.2 b) i j m q))) := ⟨_, rfl⟩
  have hheap : ((T.setVm vm').setCell b (arrV (Z.2.2.1 2) m1 (fun q => .long (va_cpy (V.2.2.2 a) (V.2.2.2 b) i j m q)))).heap = H1 := by rw [hH1, ← hT]; rfl
  have oq : ∀ q : Nat, q ≠ b → H1[q]? = H[q]? := fun q hq => by rw [hH1]; simp [Array.getElem?_setIfInBounds, Ne.symm hq]
  have hz : H1.size = H.size := by rw [hH1]; simp
  have hnew : H1[b]? = some (arrV (Z.2.2.1 2) m1 (fun q => .long (va_cpy (V.2.2.2 a) (V.2.2.2 b) i j m q))) := by rw [hH1]; simp [Array.getElem?_setIfInBounds, hlb]
  have hM1 : MemOK Z G (rAJ V b j m (fun q => V.2.2.2 a (i + q))) H1 := by
    refine mem_put hM hb.1 rfl rfl hz oq ?_ (fun q hq => ⟨fun c i => rfl, fun t i' => ?_⟩) (fun q f hq => ?_)
    · unfold cOK
      rw [hb.2.2]
      refine ⟨fun h => absurd h (by omega), fun _ => ?_⟩
      rw [hnew]
      refine congrArg some (congrArg (arrV _ _) (funext fun q => ?_))
      show Value.long _ = Value.long (rw2 V.2.2.2 b j m (fun q => V.2.2.2 a (i + q)) b q)
      congr 1
      unfold va_cpy rw2
      by_cases hq : j ≤ q ∧ q < j + m
      · rw [if_pos hq, if_pos ⟨rfl, hq.1, hq.2⟩]
      · rw [if_neg hq, if_neg (fun h => hq ⟨h.2.1, h.2.2⟩)]
    · unfold aV rAJ
      dsimp only
      rw [rw2_ne hq]
    · obtain ⟨f1, f2, f3, f4, f5, f6⟩ := hM.2.2.2.1 q f hq
      refine ⟨f1, f2, f3, f4, ?_, f6⟩
      show rw2 V.2.2.2 b j m (fun q => V.2.2.2 a (i + q)) q f = 0
      have := hb.2.1
      rw [rw2_ne (by omega)]
      exact f5
  obtain ⟨t, a1, b1⟩ := kk H1 _ ls hM1 ⟨by rw [hz]; exact hS.1, fun q g1 g2 => by
      have hbZ := hb.1
      rw [oq q (fun e => g2 (by rw [e]; exact hbZ))]
      exact hS.2.1 q g1 g2, fun q hq => by
      rcases List.mem_append.mp hq with h | h
      · exact hS.2.2 q h
      · obtain ⟨z, -, hz⟩ := List.mem_map.mp h
        rw [← hz]
        exact hb.1⟩ hl _ hheap X'
  exact ⟨t, step t a1, b1⟩
end XS
