section XR
variable {Z : zP} {X : xP} {nL : Nat} {G : zG} {V : zV} {k n : Nat} {Q : State → Prop} {pc : Nat} {lw : List (Nat × Option Value)} {st : List Value} {own nm : String} {cc : ByteArray} {ret : Option FieldType} {D mc ms : Nat}
abbrev okS (lw : List (Nat × Option Value)) : Nat → Bool
  | 0 => true
  | i + 1 => match lk lw i with
    | some v => !(v.category == 2)
    | none => true
theorem lk_cons {q : Nat × Option Value} {t : List (Nat × Option Value)} {i : Nat} {v : Value} (h : lk (q :: t) i = some v) : (q.1 = i ∧ q.2 = some v) ∨ (q.1 ≠ i ∧ lk t i = some v) := by
  unfold lk at h
  cases hb : Nat.beq q.1 i with
  | true => rw [hb] at h; exact Or.inl ⟨Nat.eq_of_beq_eq_true hb, h⟩
  | false => rw [hb] at h; exact Or.inr ⟨Nat.ne_of_beq_eq_false hb, h⟩
theorem okS_ne {i j : Nat} {w : Value} (ho : okS lw i = true) (hj : lk lw j = some w) : ¬ (j + 1 = i ∧ w.category = 2) := by
  rintro ⟨rfl, hc⟩
  have ho : (match lk lw j with | some v => !(v.category == 2) | none => true) = true := ho
  rw [hj] at ho
  simp [hc] at ho
theorem lw_store1 {ls : Array Slot} {i : Nat} {v : Value} (h : lwOK lw nL ls) (hi : i < nL) (hc : v.category = 1) (ho : okS lw i = true) : ∃ ls', storeLocals ls i v = some ls' ∧ lwOK ((i, some v) :: lw) nL ls' := by
  obtain ⟨ls', e, hs, hw, hl⟩ := lv_store1 (l := []) ⟨h.1, h.2.1, fun q hq => by cases hq⟩ hi hc
  refine ⟨ls', e, hs, hw, fun j w hj => ?_⟩
  rcases lk_cons hj with ⟨h1, h2⟩ | ⟨h1, h2⟩
  · dsimp only at h1 h2
    subst h1
    cases h2
    exact hl (i, v) List.mem_cons_self
  · dsimp only at h1
    obtain ⟨ls2, e2, -, -, hl2⟩ := lv_store1 (l := [(j, w)]) ⟨h.1, h.2.1, fun q hq => by rw [List.mem_singleton.mp hq]; exact h.2.2 j w h2⟩ hi hc
    have he : ls' = ls2 := Option.some.inj (e.symm.trans e2)
    subst he
    refine hl2 (j, w) (List.mem_cons_of_mem _ (List.mem_filter.mpr ⟨List.mem_singleton.mpr rfl, ?_⟩))
    have := okS_ne ho h2
    simp [Ne.symm h1]
    omega
theorem lw_store2 {ls : Array Slot} {i : Nat} {v : Value} (h : lwOK lw nL ls) (hi : i + 1 < nL) (hc : v.category = 2) (ho : okS lw i = true) : ∃ ls', storeLocals ls i v = some ls' ∧ lwOK ((i, some v) :: (i + 1, none) :: lw) nL ls' := by
  obtain ⟨ls', e, hs, hw, hl⟩ := lv_store2 (l := []) ⟨h.1, h.2.1, fun q hq => by cases hq⟩ hi hc
  refine ⟨ls', e, hs, hw, fun j w hj => ?_⟩
  rcases lk_cons hj with ⟨h1, h2⟩ | ⟨h1, h2⟩
  · dsimp only at h1 h2
    subst h1
    cases h2
    exact hl (i, v) List.mem_cons_self
  · rcases lk_cons h2 with ⟨h3, h4⟩ | ⟨h3, h4⟩
    · cases h4
    · dsimp only at h1 h3
      obtain ⟨ls2, e2, -, -, hl2⟩ := lv_store2 (l := [(j, w)]) ⟨h.1, h.2.1, fun q hq => by rw [List.mem_singleton.mp hq]; exact h.2.2 j w h4⟩ hi hc
      have he : ls' = ls2 := Option.some.inj (e.symm.trans e2)
      subst he
      refine hl2 (j, w) (List.mem_cons_of_mem _ (List.mem_filter.mpr ⟨List.mem_singleton.mpr rfl, ?_⟩))
      have := okS_ne ho h4
      simp [Ne.symm h1, Ne.symm h3]
      omega
/-- fewer locals -/
def lwLe : List (Nat × Option Value) → List (Nat × Option Value) → Prop
  | [], _ => True
  | q :: t, lw => (q.2 = none ∨ lk lw q.1 = q.2) ∧ lwLe t lw
theorem lwLe_lk {l1 : List (Nat × Option Value)} : ∀ {l2 : List (Nat × Option Value)}, lwLe l1 l2 → ∀ (i : Nat) (v : Value), lk l1 i = some v → lk l2 i = some v := by
  induction l1 with
  | nil => intro l2 _ i v h; cases h
  | cons q t ih =>
    intro l2 h i v hv
    rcases lk_cons hv with ⟨h1, h2⟩ | ⟨h1, h2⟩
    · rcases h.1 with h3 | h3
      · rw [h2] at h3; cases h3
      · rw [← h1, h3, h2]
    · exact ih h.2 i v h2
theorem x_sub {lw' : List (Nat × Option Value)} (h : lwLe lw' lw) (kk : Wm Z X nL G V k n Q pc lw' st) : Wm Z X nL G V k n Q pc lw st :=
  fun H locs ls hM hS hl => kk H locs ls hM hS ⟨hl.1, hl.2.1, fun i v hv => hl.2.2 i v (lwLe_lk h i v hv)⟩
theorem x_enter {lw' : List (Nat × Option Value)} (kk : Wm Z X nL G V k n Q pc lw' st) (h : lwLe lw' lw) : Wm Z X nL G V k n Q pc lw st := x_sub h kk
theorem x_widen {k' n' : Nat} (h1 : k ≤ k') (h2 : n ≤ n') (kk : Wm Z X nL G V k' n' Q pc lw st) : Wm Z X nL G V k n Q pc lw st :=
  fun H locs ls hM hS hl => W.widen h1 h2 (kk H locs ls hM hS hl)
theorem x_pc {pc' : Nat} (h : pc = pc') (kk : Wm Z X nL G V k n Q pc' lw st) : Wm Z X nL G V k n Q pc lw st := h ▸ kk
theorem x_iconst {z : Int} {v : Int32} (cx : Cx Z X own nm cc nL ret D mc ms) (d : decode cc pc = .ok (.iconst z, 1)) (hv : Int32.ofInt z = v) (kk : Wm Z X nL G V k n Q (pc + 1) (lw) (.int v :: st)) : Wm Z X nL G V k n Q pc lw (st) :=
  fun H locs ls hM hS hl => lv_iconst cx.1 cx.2.1 d hv (kk H locs ls hM hS hl)
theorem x_bipush {z : Int} {v : Int32} (cx : Cx Z X own nm cc nL ret D mc ms) (d : decode cc pc = .ok (.bipush z, 2)) (hv : (Int8.ofInt z).toInt32 = v) (kk : Wm Z X nL G V k n Q (pc + 2) (lw) (.int v :: st)) : Wm Z X nL G V k n Q pc lw (st) :=
  fun H locs ls hM hS hl => lv_bipush cx.1 cx.2.1 d hv (kk H locs ls hM hS hl)
theorem x_sipush {z : Int} {v : Int32} (cx : Cx Z X own nm cc nL ret D mc ms) (d : decode cc pc = .ok (.sipush z, 3)) (hv : (Int16.ofInt z).toInt32 = v) (kk : Wm Z X nL G V k n Q (pc + 3) (lw) (.int v :: st)) : Wm Z X nL G V k n Q pc lw (st) :=
  fun H locs ls hM hS hl => lv_sipush cx.1 cx.2.1 d hv (kk H locs ls hM hS hl)
theorem x_lconst {z : Fin 2} {v : Int64} (cx : Cx Z X own nm cc nL ret D mc ms) (d : decode cc pc = .ok (.lconst z, 1)) (hv : Int64.ofNat (z : Nat) = v) (kk : Wm Z X nL G V k n Q (pc + 1) (lw) (.long v :: st)) : Wm Z X nL G V k n Q pc lw (st) :=
  fun H locs ls hM hS hl => lv_lconst cx.1 cx.2.1 d hv (kk H locs ls hM hS hl)
theorem x_null (cx : Cx Z X own nm cc nL ret D mc ms) (d : decode cc pc = .ok (.aconst_null, 1)) (kk : Wm Z X nL G V k n Q (pc + 1) (lw) (.null :: st)) : Wm Z X nL G V k n Q pc lw (st) :=
  fun H locs ls hM hS hl => lv_null cx.1 cx.2.1 d (kk H locs ls hM hS hl)
theorem x_ldc {idx : Nat} {v : Int32} (cx : Cx Z X own nm cc nL ret D mc ms) (hw : Cond.constant own idx v ∈ WA) (d : decode cc pc = .ok (.ldc idx, 2)) (kk : Wm Z X nL G V k n Q (pc + 2) (lw) (.int v :: st)) : Wm Z X nL G V k n Q pc lw (st) :=
  fun H locs ls hM hS hl => lv_ldc cx.1 cx.2.1 cx.2.2.2.1 (cx.2.2.2.2.1 _ hw) d (kk H locs ls hM hS hl)
theorem x_ldc_w {idx : Nat} {v : Int32} (cx : Cx Z X own nm cc nL ret D mc ms) (hw : Cond.constant own idx v ∈ WA) (d : decode cc pc = .ok (.ldc_w idx, 3)) (kk : Wm Z X nL G V k n Q (pc + 3) (lw) (.int v :: st)) : Wm Z X nL G V k n Q pc lw (st) :=
  fun H locs ls hM hS hl => lv_ldcw cx.1 cx.2.1 cx.2.2.2.1 (cx.2.2.2.2.1 _ hw) d (kk H locs ls hM hS hl)
theorem x_ldc2 {idx : Nat} {v : Int64} (cx : Cx Z X own nm cc nL ret D mc ms) (hw : Cond.constantLong own idx v ∈ WA) (d : decode cc pc = .ok (.ldc2_w idx, 3)) (kk : Wm Z X nL G V k n Q (pc + 3) (lw) (.long v :: st)) : Wm Z X nL G V k n Q pc lw (st) :=
  fun H locs ls hM hS hl => lv_ldc2 cx.1 cx.2.1 cx.2.2.2.1 (cx.2.2.2.2.1 _ hw) d (kk H locs ls hM hS hl)
theorem x_iload_n {i : Fin 4} {x : Int32} (cx : Cx Z X own nm cc nL ret D mc ms) (d : decode cc pc = .ok (.iload_n i, 1)) (h : lk lw (i : Nat) = some (.int x)) (kk : Wm Z X nL G V k n Q (pc + 1) (lw) (.int x :: st)) : Wm Z X nL G V k n Q pc lw (st) :=
  fun H locs ls hM hS hl => lv_iload_n cx.1 cx.2.1 d rfl (hl.2.2 _ _ h) (kk H locs ls hM hS hl)
theorem x_iload {i : Nat} {x : Int32} (cx : Cx Z X own nm cc nL ret D mc ms) (d : decode cc pc = .ok (.iload i, 2)) (h : lk lw i = some (.int x)) (kk : Wm Z X nL G V k n Q (pc + 2) (lw) (.int x :: st)) : Wm Z X nL G V k n Q pc lw (st) :=
  fun H locs ls hM hS hl => lv_iload cx.1 cx.2.1 d (hl.2.2 _ _ h) (kk H locs ls hM hS hl)
theorem x_lload_n {i : Fin 4} {x : Int64} (cx : Cx Z X own nm cc nL ret D mc ms) (d : decode cc pc = .ok (.lload_n i, 1)) (h : lk lw (i : Nat) = some (.long x)) (kk : Wm Z X nL G V k n Q (pc + 1) (lw) (.long x :: st)) : Wm Z X nL G V k n Q pc lw (st) :=
  fun H locs ls hM hS hl => lv_lload_n cx.1 cx.2.1 d rfl (hl.2.2 _ _ h) (kk H locs ls hM hS hl)
theorem x_lload {i : Nat} {x : Int64} (cx : Cx Z X own nm cc nL ret D mc ms) (d : decode cc pc = .ok (.lload i, 2)) (h : lk lw i = some (.long x)) (kk : Wm Z X nL G V k n Q (pc + 2) (lw) (.long x :: st)) : Wm Z X nL G V k n Q pc lw (st) :=
  fun H locs ls hM hS hl => lv_lload cx.1 cx.2.1 d (hl.2.2 _ _ h) (kk H locs ls hM hS hl)
theorem x_aload_n {i : Fin 4} {x : Nat} (cx : Cx Z X own nm cc nL ret D mc ms) (d : decode cc pc = .ok (.aload_n i, 1)) (h : lk lw (i : Nat) = some (.ref x)) (kk : Wm Z X nL G V k n Q (pc + 1) (lw) (.ref x :: st)) : Wm Z X nL G V k n Q pc lw (st) :=
  fun H locs ls hM hS hl => lv_aload_n cx.1 cx.2.1 d rfl (hl.2.2 _ _ h) (kk H locs ls hM hS hl)
theorem x_aload {i : Nat} {x : Nat} (cx : Cx Z X own nm cc nL ret D mc ms) (d : decode cc pc = .ok (.aload i, 2)) (h : lk lw i = some (.ref x)) (kk : Wm Z X nL G V k n Q (pc + 2) (lw) (.ref x :: st)) : Wm Z X nL G V k n Q pc lw (st) :=
  fun H locs ls hM hS hl => lv_aload cx.1 cx.2.1 d (hl.2.2 _ _ h) (kk H locs ls hM hS hl)
theorem x_aload_nN {i : Fin 4} (cx : Cx Z X own nm cc nL ret D mc ms) (d : decode cc pc = .ok (.aload_n i, 1)) (h : lk lw (i : Nat) = some .null) (kk : Wm Z X nL G V k n Q (pc + 1) (lw) (.null :: st)) : Wm Z X nL G V k n Q pc lw (st) :=
  fun H locs ls hM hS hl => lv_aload_nN cx.1 cx.2.1 d rfl (hl.2.2 _ _ h) (kk H locs ls hM hS hl)
theorem x_aloadN {i : Nat} (cx : Cx Z X own nm cc nL ret D mc ms) (d : decode cc pc = .ok (.aload i, 2)) (h : lk lw i = some .null) (kk : Wm Z X nL G V k n Q (pc + 2) (lw) (.null :: st)) : Wm Z X nL G V k n Q pc lw (st) :=
  fun H locs ls hM hS hl => lv_aloadN cx.1 cx.2.1 d (hl.2.2 _ _ h) (kk H locs ls hM hS hl)
theorem x_aload_nR {i : Fin 4} {o : Option Nat} (cx : Cx Z X own nm cc nL ret D mc ms) (d : decode cc pc = .ok (.aload_n i, 1)) (h : lk lw (i : Nat) = some (va_rf o)) (kk : Wm Z X nL G V k n Q (pc + 1) (lw) (va_rf o :: st)) : Wm Z X nL G V k n Q pc lw st := by
  cases o with
  | none => exact x_aload_nN cx d h kk
  | some a => exact x_aload_n cx d h kk
theorem x_aloadR {i : Nat} {o : Option Nat} (cx : Cx Z X own nm cc nL ret D mc ms) (d : decode cc pc = .ok (.aload i, 2)) (h : lk lw i = some (va_rf o)) (kk : Wm Z X nL G V k n Q (pc + 2) (lw) (va_rf o :: st)) : Wm Z X nL G V k n Q pc lw st := by
  cases o with
  | none => exact x_aloadN cx d h kk
  | some a => exact x_aload cx d h kk
theorem x_istore_n {i : Fin 4} {x : Int32} (cx : Cx Z X own nm cc nL ret D mc ms) (d : decode cc pc = .ok (.istore_n i, 1)) (hi : (i : Nat) < nL) (ho : okS lw (i : Nat) = true) (kk : Wm Z X nL G V k n Q (pc + 1) (((i : Nat), some (.int x)) :: lw) (st)) : Wm Z X nL G V k n Q pc lw (.int x :: st) := by
  intro H locs ls hM hS hl
  obtain ⟨ls', e', h'⟩ := lw_store1 (v := .int x) hl hi rfl ho
  intro T hT Xs
  obtain ⟨t, a, b⟩ := kk H locs ls' hM hS h' T hT Xs
  refine ⟨t, ?_, b⟩
  have hx := cx.1
  have hb := cx.2.1
  jvm_step Xs.here [Xs.here.top, ↓top_set Xs.here.top, hx, hb, d, e']
  first | exact a | exact ⟨rfl, a⟩
theorem x_istore {i : Nat} {x : Int32} (cx : Cx Z X own nm cc nL ret D mc ms) (d : decode cc pc = .ok (.istore i, 2)) (hi : i < nL) (ho : okS lw i = true) (kk : Wm Z X nL G V k n Q (pc + 2) ((i, some (.int x)) :: lw) (st)) : Wm Z X nL G V k n Q pc lw (.int x :: st) := by
  intro H locs ls hM hS hl
  obtain ⟨ls', e', h'⟩ := lw_store1 (v := .int x) hl hi rfl ho
  intro T hT Xs
  obtain ⟨t, a, b⟩ := kk H locs ls' hM hS h' T hT Xs
  refine ⟨t, ?_, b⟩
  have hx := cx.1
  have hb := cx.2.1
  jvm_step Xs.here [Xs.here.top, ↓top_set Xs.here.top, hx, hb, d, e']
  first | exact a | exact ⟨rfl, a⟩
theorem x_lstore_n {i : Fin 4} {x : Int64} (cx : Cx Z X own nm cc nL ret D mc ms) (d : decode cc pc = .ok (.lstore_n i, 1)) (hi : (i : Nat) + 1 < nL) (ho : okS lw (i : Nat) = true) (kk : Wm Z X nL G V k n Q (pc + 1) (((i : Nat), some (.long x)) :: ((i : Nat) + 1, none) :: lw) (st)) : Wm Z X nL G V k n Q pc lw (.long x :: st) := by
  intro H locs ls hM hS hl
  obtain ⟨ls', e', h'⟩ := lw_store2 (v := .long x) hl hi rfl ho
  intro T hT Xs
  obtain ⟨t, a, b⟩ := kk H locs ls' hM hS h' T hT Xs
  refine ⟨t, ?_, b⟩
  have hx := cx.1
  have hb := cx.2.1
  jvm_step Xs.here [Xs.here.top, ↓top_set Xs.here.top, hx, hb, d, e']
  first | exact a | exact ⟨rfl, a⟩
theorem x_lstore {i : Nat} {x : Int64} (cx : Cx Z X own nm cc nL ret D mc ms) (d : decode cc pc = .ok (.lstore i, 2)) (hi : i + 1 < nL) (ho : okS lw i = true) (kk : Wm Z X nL G V k n Q (pc + 2) ((i, some (.long x)) :: (i + 1, none) :: lw) (st)) : Wm Z X nL G V k n Q pc lw (.long x :: st) := by
  intro H locs ls hM hS hl
  obtain ⟨ls', e', h'⟩ := lw_store2 (v := .long x) hl hi rfl ho
  intro T hT Xs
  obtain ⟨t, a, b⟩ := kk H locs ls' hM hS h' T hT Xs
  refine ⟨t, ?_, b⟩
  have hx := cx.1
  have hb := cx.2.1
  jvm_step Xs.here [Xs.here.top, ↓top_set Xs.here.top, hx, hb, d, e']
  first | exact a | exact ⟨rfl, a⟩
theorem x_astore_n {i : Fin 4} {x : Nat} (cx : Cx Z X own nm cc nL ret D mc ms) (d : decode cc pc = .ok (.astore_n i, 1)) (hi : (i : Nat) < nL) (ho : okS lw (i : Nat) = true) (kk : Wm Z X nL G V k n Q (pc + 1) (((i : Nat), some (.ref x)) :: lw) (st)) : Wm Z X nL G V k n Q pc lw (.ref x :: st) := by
  intro H locs ls hM hS hl
  obtain ⟨ls', e', h'⟩ := lw_store1 (v := .ref x) hl hi rfl ho
  intro T hT Xs
  obtain ⟨t, a, b⟩ := kk H locs ls' hM hS h' T hT Xs
  refine ⟨t, ?_, b⟩
  have hx := cx.1
  have hb := cx.2.1
  jvm_step Xs.here [Xs.here.top, ↓top_set Xs.here.top, hx, hb, d, e']
  first | exact a | exact ⟨rfl, a⟩
theorem x_astore {i : Nat} {x : Nat} (cx : Cx Z X own nm cc nL ret D mc ms) (d : decode cc pc = .ok (.astore i, 2)) (hi : i < nL) (ho : okS lw i = true) (kk : Wm Z X nL G V k n Q (pc + 2) ((i, some (.ref x)) :: lw) (st)) : Wm Z X nL G V k n Q pc lw (.ref x :: st) := by
  intro H locs ls hM hS hl
  obtain ⟨ls', e', h'⟩ := lw_store1 (v := .ref x) hl hi rfl ho
  intro T hT Xs
  obtain ⟨t, a, b⟩ := kk H locs ls' hM hS h' T hT Xs
  refine ⟨t, ?_, b⟩
  have hx := cx.1
  have hb := cx.2.1
  jvm_step Xs.here [Xs.here.top, ↓top_set Xs.here.top, hx, hb, d, e']
  first | exact a | exact ⟨rfl, a⟩
theorem x_astore_nN {i : Fin 4} (cx : Cx Z X own nm cc nL ret D mc ms) (d : decode cc pc = .ok (.astore_n i, 1)) (hi : (i : Nat) < nL) (ho : okS lw (i : Nat) = true) (kk : Wm Z X nL G V k n Q (pc + 1) (((i : Nat), some (.null)) :: lw) (st)) : Wm Z X nL G V k n Q pc lw (.null :: st) := by
  intro H locs ls hM hS hl
  obtain ⟨ls', e', h'⟩ := lw_store1 (v := .null) hl hi rfl ho
  intro T hT Xs
  obtain ⟨t, a, b⟩ := kk H locs ls' hM hS h' T hT Xs
  refine ⟨t, ?_, b⟩
  have hx := cx.1
  have hb := cx.2.1
  jvm_step Xs.here [Xs.here.top, ↓top_set Xs.here.top, hx, hb, d, e']
  first | exact a | exact ⟨rfl, a⟩
theorem x_astoreN {i : Nat} (cx : Cx Z X own nm cc nL ret D mc ms) (d : decode cc pc = .ok (.astore i, 2)) (hi : i < nL) (ho : okS lw i = true) (kk : Wm Z X nL G V k n Q (pc + 2) ((i, some (.null)) :: lw) (st)) : Wm Z X nL G V k n Q pc lw (.null :: st) := by
  intro H locs ls hM hS hl
  obtain ⟨ls', e', h'⟩ := lw_store1 (v := .null) hl hi rfl ho
  intro T hT Xs
  obtain ⟨t, a, b⟩ := kk H locs ls' hM hS h' T hT Xs
  refine ⟨t, ?_, b⟩
  have hx := cx.1
  have hb := cx.2.1
  jvm_step Xs.here [Xs.here.top, ↓top_set Xs.here.top, hx, hb, d, e']
  first | exact a | exact ⟨rfl, a⟩
theorem x_astore_nR {i : Fin 4} {o : Option Nat} (cx : Cx Z X own nm cc nL ret D mc ms) (d : decode cc pc = .ok (.astore_n i, 1)) (hi : (i : Nat) < nL) (ho : okS lw (i : Nat) = true) (kk : Wm Z X nL G V k n Q (pc + 1) (((i : Nat), some (va_rf o)) :: lw) (st)) : Wm Z X nL G V k n Q pc lw (va_rf o :: st) := by
  cases o with
  | none => exact x_astore_nN cx d hi ho kk
  | some a => exact x_astore_n cx d hi ho kk
theorem x_astoreR {i : Nat} {o : Option Nat} (cx : Cx Z X own nm cc nL ret D mc ms) (d : decode cc pc = .ok (.astore i, 2)) (hi : i < nL) (ho : okS lw i = true) (kk : Wm Z X nL G V k n Q (pc + 2) ((i, some (va_rf o)) :: lw) (st)) : Wm Z X nL G V k n Q pc lw (va_rf o :: st) := by
  cases o with
  | none => exact x_astoreN cx d hi ho kk
  | some a => exact x_astore cx d hi ho kk
theorem x_iinc {i : Nat} {z : Int} {x v : Int32} (cx : Cx Z X own nm cc nL ret D mc ms) (d : decode cc pc = .ok (.iinc i z, 3)) (h : lk lw i = some (.int x)) (hv : x + Int32.ofInt z = v) (hi : i < nL) (ho : okS lw i = true) (kk : Wm Z X nL G V k n Q (pc + 3) ((i, some (.int v)) :: lw) (st)) : Wm Z X nL G V k n Q pc lw st := by
  intro H locs ls hM hS hl
  obtain ⟨ls', e', h'⟩ := lw_store1 (v := .int v) hl hi rfl ho
  have hg := hl.2.2 _ _ h
  subst hv
  intro T hT Xs
  obtain ⟨t, a, b⟩ := kk H locs ls' hM hS h' T hT Xs
  refine ⟨t, ?_, b⟩
  have hx := cx.1
  have hb := cx.2.1
  jvm_step Xs.here [Xs.here.top, ↓top_set Xs.here.top, hx, hb, d, hg, e']
  exact a
theorem x_iadd {x y : Int32} (cx : Cx Z X own nm cc nL ret D mc ms) (d : decode cc pc = .ok (.iadd, 1)) (kk : Wm Z X nL G V k n Q (pc + 1) (lw) (.int (x + y) :: st)) : Wm Z X nL G V k n Q pc lw (.int y :: .int x :: st) :=
  fun H locs ls hM hS hl => lv_iadd cx.1 cx.2.1 d (kk H locs ls hM hS hl)
theorem x_isub {x y : Int32} (cx : Cx Z X own nm cc nL ret D mc ms) (d : decode cc pc = .ok (.isub, 1)) (kk : Wm Z X nL G V k n Q (pc + 1) (lw) (.int (x - y) :: st)) : Wm Z X nL G V k n Q pc lw (.int y :: .int x :: st) :=
  fun H locs ls hM hS hl => lv_isub cx.1 cx.2.1 d (kk H locs ls hM hS hl)
theorem x_imul {x y : Int32} (cx : Cx Z X own nm cc nL ret D mc ms) (d : decode cc pc = .ok (.imul, 1)) (kk : Wm Z X nL G V k n Q (pc + 1) (lw) (.int (x * y) :: st)) : Wm Z X nL G V k n Q pc lw (.int y :: .int x :: st) :=
  fun H locs ls hM hS hl => lv_imul cx.1 cx.2.1 d (kk H locs ls hM hS hl)
theorem x_iand {x y : Int32} (cx : Cx Z X own nm cc nL ret D mc ms) (d : decode cc pc = .ok (.iand, 1)) (kk : Wm Z X nL G V k n Q (pc + 1) (lw) (.int (x &&& y) :: st)) : Wm Z X nL G V k n Q pc lw (.int y :: .int x :: st) :=
  fun H locs ls hM hS hl => lv_iand cx.1 cx.2.1 d (kk H locs ls hM hS hl)
theorem x_ior {x y : Int32} (cx : Cx Z X own nm cc nL ret D mc ms) (d : decode cc pc = .ok (.ior, 1)) (kk : Wm Z X nL G V k n Q (pc + 1) (lw) (.int (x ||| y) :: st)) : Wm Z X nL G V k n Q pc lw (.int y :: .int x :: st) :=
  fun H locs ls hM hS hl => lv_ior cx.1 cx.2.1 d (kk H locs ls hM hS hl)
theorem x_idiv {x y : Int32} (cx : Cx Z X own nm cc nL ret D mc ms) (hne : ¬ y = 0) (d : decode cc pc = .ok (.idiv, 1)) (kk : Wm Z X nL G V k n Q (pc + 1) (lw) (.int (x / y) :: st)) : Wm Z X nL G V k n Q pc lw (.int y :: .int x :: st) :=
  fun H locs ls hM hS hl => lv_idiv cx.1 cx.2.1 d hne (kk H locs ls hM hS hl)
theorem x_irem {x y : Int32} (cx : Cx Z X own nm cc nL ret D mc ms) (hne : ¬ y = 0) (d : decode cc pc = .ok (.irem, 1)) (kk : Wm Z X nL G V k n Q (pc + 1) (lw) (.int (x - x / y * y) :: st)) : Wm Z X nL G V k n Q pc lw (.int y :: .int x :: st) :=
  fun H locs ls hM hS hl => lv_irem cx.1 cx.2.1 d hne (kk H locs ls hM hS hl)
theorem x_ladd {x y : Int64} (cx : Cx Z X own nm cc nL ret D mc ms) (d : decode cc pc = .ok (.ladd, 1)) (kk : Wm Z X nL G V k n Q (pc + 1) (lw) (.long (x + y) :: st)) : Wm Z X nL G V k n Q pc lw (.long y :: .long x :: st) :=
  fun H locs ls hM hS hl => lv_ladd cx.1 cx.2.1 d (kk H locs ls hM hS hl)
theorem x_lsub {x y : Int64} (cx : Cx Z X own nm cc nL ret D mc ms) (d : decode cc pc = .ok (.lsub, 1)) (kk : Wm Z X nL G V k n Q (pc + 1) (lw) (.long (x - y) :: st)) : Wm Z X nL G V k n Q pc lw (.long y :: .long x :: st) :=
  fun H locs ls hM hS hl => lv_lsub cx.1 cx.2.1 d (kk H locs ls hM hS hl)
theorem x_lmul {x y : Int64} (cx : Cx Z X own nm cc nL ret D mc ms) (d : decode cc pc = .ok (.lmul, 1)) (kk : Wm Z X nL G V k n Q (pc + 1) (lw) (.long (x * y) :: st)) : Wm Z X nL G V k n Q pc lw (.long y :: .long x :: st) :=
  fun H locs ls hM hS hl => lv_lmul cx.1 cx.2.1 d (kk H locs ls hM hS hl)
theorem x_land {x y : Int64} (cx : Cx Z X own nm cc nL ret D mc ms) (d : decode cc pc = .ok (.land, 1)) (kk : Wm Z X nL G V k n Q (pc + 1) (lw) (.long (x &&& y) :: st)) : Wm Z X nL G V k n Q pc lw (.long y :: .long x :: st) :=
  fun H locs ls hM hS hl => lv_land cx.1 cx.2.1 d (kk H locs ls hM hS hl)
theorem x_lor {x y : Int64} (cx : Cx Z X own nm cc nL ret D mc ms) (d : decode cc pc = .ok (.lor, 1)) (kk : Wm Z X nL G V k n Q (pc + 1) (lw) (.long (x ||| y) :: st)) : Wm Z X nL G V k n Q pc lw (.long y :: .long x :: st) :=
  fun H locs ls hM hS hl => lv_lor cx.1 cx.2.1 d (kk H locs ls hM hS hl)
theorem x_ldiv {x y : Int64} (cx : Cx Z X own nm cc nL ret D mc ms) (hne : ¬ y = 0) (d : decode cc pc = .ok (.ldiv, 1)) (kk : Wm Z X nL G V k n Q (pc + 1) (lw) (.long (x / y) :: st)) : Wm Z X nL G V k n Q pc lw (.long y :: .long x :: st) :=
  fun H locs ls hM hS hl => lv_ldiv cx.1 cx.2.1 d hne (kk H locs ls hM hS hl)
theorem x_ishl {x y : Int32} (cx : Cx Z X own nm cc nL ret D mc ms) (d : decode cc pc = .ok (.ishl, 1)) (kk : Wm Z X nL G V k n Q (pc + 1) (lw) (.int (x <<< (y &&& 31)) :: st)) : Wm Z X nL G V k n Q pc lw (.int y :: .int x :: st) :=
  fun H locs ls hM hS hl => lv_ishl cx.1 cx.2.1 d (kk H locs ls hM hS hl)
theorem x_ishr {x y : Int32} (cx : Cx Z X own nm cc nL ret D mc ms) (d : decode cc pc = .ok (.ishr, 1)) (kk : Wm Z X nL G V k n Q (pc + 1) (lw) (.int (x >>> (y &&& 31)) :: st)) : Wm Z X nL G V k n Q pc lw (.int y :: .int x :: st) :=
  fun H locs ls hM hS hl => lv_ishr cx.1 cx.2.1 d (kk H locs ls hM hS hl)
theorem x_iushr {x y : Int32} (cx : Cx Z X own nm cc nL ret D mc ms) (d : decode cc pc = .ok (.iushr, 1)) (kk : Wm Z X nL G V k n Q (pc + 1) (lw) (.int ((x.toUInt32 >>> (y.toUInt32 &&& Int32.toUInt32 31)).toInt32) :: st)) : Wm Z X nL G V k n Q pc lw (.int y :: .int x :: st) :=
  fun H locs ls hM hS hl => lv_iushr cx.1 cx.2.1 d rfl (kk H locs ls hM hS hl)
theorem x_lshl {x : Int64} {y : Int32} (cx : Cx Z X own nm cc nL ret D mc ms) (d : decode cc pc = .ok (.lshl, 1)) (kk : Wm Z X nL G V k n Q (pc + 1) (lw) (.long (x <<< (y.toInt64 &&& 63)) :: st)) : Wm Z X nL G V k n Q pc lw (.int y :: .long x :: st) :=
  fun H locs ls hM hS hl => lv_lshl cx.1 cx.2.1 d rfl (kk H locs ls hM hS hl)
theorem x_ineg {x : Int32} (cx : Cx Z X own nm cc nL ret D mc ms) (d : decode cc pc = .ok (.ineg, 1)) (kk : Wm Z X nL G V k n Q (pc + 1) (lw) (.int (-x) :: st)) : Wm Z X nL G V k n Q pc lw (.int x :: st) :=
  fun H locs ls hM hS hl => lv_ineg cx.1 cx.2.1 d (kk H locs ls hM hS hl)
theorem x_i2l {x : Int32} (cx : Cx Z X own nm cc nL ret D mc ms) (d : decode cc pc = .ok (.i2l, 1)) (kk : Wm Z X nL G V k n Q (pc + 1) (lw) (.long x.toInt64 :: st)) : Wm Z X nL G V k n Q pc lw (.int x :: st) :=
  fun H locs ls hM hS hl => lv_i2l cx.1 cx.2.1 d rfl (kk H locs ls hM hS hl)
theorem x_l2i {x : Int64} (cx : Cx Z X own nm cc nL ret D mc ms) (d : decode cc pc = .ok (.l2i, 1)) (kk : Wm Z X nL G V k n Q (pc + 1) (lw) (.int x.toInt32 :: st)) : Wm Z X nL G V k n Q pc lw (.long x :: st) :=
  fun H locs ls hM hS hl => lv_l2i cx.1 cx.2.1 d rfl (kk H locs ls hM hS hl)
theorem x_i2b {x : Int32} (cx : Cx Z X own nm cc nL ret D mc ms) (d : decode cc pc = .ok (.i2b, 1)) (kk : Wm Z X nL G V k n Q (pc + 1) (lw) (.int x.toInt8.toInt32 :: st)) : Wm Z X nL G V k n Q pc lw (.int x :: st) :=
  fun H locs ls hM hS hl => lv_i2b cx.1 cx.2.1 d rfl (kk H locs ls hM hS hl)
theorem x_i2s {x : Int32} (cx : Cx Z X own nm cc nL ret D mc ms) (d : decode cc pc = .ok (.i2s, 1)) (kk : Wm Z X nL G V k n Q (pc + 1) (lw) (.int x.toInt16.toInt32 :: st)) : Wm Z X nL G V k n Q pc lw (.int x :: st) :=
  fun H locs ls hM hS hl => lv_i2s cx.1 cx.2.1 d rfl (kk H locs ls hM hS hl)
theorem x_dup {v : Value} (cx : Cx Z X own nm cc nL ret D mc ms) (hv : v.category = 1) (d : decode cc pc = .ok (.dup, 1)) (kk : Wm Z X nL G V k n Q (pc + 1) (lw) (v :: v :: st)) : Wm Z X nL G V k n Q pc lw (v :: st) :=
  fun H locs ls hM hS hl => lv_dup cx.1 cx.2.1 d hv (kk H locs ls hM hS hl)
theorem x_pop {v : Value} (cx : Cx Z X own nm cc nL ret D mc ms) (hv : v.category = 1) (d : decode cc pc = .ok (.pop, 1)) (kk : Wm Z X nL G V k n Q (pc + 1) (lw) (st)) : Wm Z X nL G V k n Q pc lw (v :: st) :=
  fun H locs ls hM hS hl => lv_pop cx.1 cx.2.1 d hv (kk H locs ls hM hS hl)
theorem x_dup_x1 {v w : Value} (cx : Cx Z X own nm cc nL ret D mc ms) (hv : v.category = 1) (hw : w.category = 1) (d : decode cc pc = .ok (.dup_x1, 1)) (kk : Wm Z X nL G V k n Q (pc + 1) (lw) (v :: w :: v :: st)) : Wm Z X nL G V k n Q pc lw (v :: w :: st) :=
  fun H locs ls hM hS hl => lv_dup_x1 cx.1 cx.2.1 d hv hw (kk H locs ls hM hS hl)
theorem x_dup2 {v w : Value} (cx : Cx Z X own nm cc nL ret D mc ms) (hv : v.category = 1) (hw : w.category = 1) (d : decode cc pc = .ok (.dup2, 1)) (kk : Wm Z X nL G V k n Q (pc + 1) (lw) (v :: w :: v :: w :: st)) : Wm Z X nL G V k n Q pc lw (v :: w :: st) :=
  fun H locs ls hM hS hl => lv_dup2_11 cx.1 cx.2.1 d hv hw (kk H locs ls hM hS hl)
theorem x_dup2L {x : Int64} (cx : Cx Z X own nm cc nL ret D mc ms) (d : decode cc pc = .ok (.dup2, 1)) (kk : Wm Z X nL G V k n Q (pc + 1) (lw) (.long x :: .long x :: st)) : Wm Z X nL G V k n Q pc lw (.long x :: st) :=
  fun H locs ls hM hS hl => lv_dup2_2 cx.1 cx.2.1 d rfl (kk H locs ls hM hS hl)
theorem x_pop2L {x : Int64} (cx : Cx Z X own nm cc nL ret D mc ms) (d : decode cc pc = .ok (.pop2, 1)) (kk : Wm Z X nL G V k n Q (pc + 1) (lw) (st)) : Wm Z X nL G V k n Q pc lw (.long x :: st) :=
  fun H locs ls hM hS hl => lv_pop2_2 cx.1 cx.2.1 d rfl (kk H locs ls hM hS hl)
theorem x_lcmp {x y : Int64} (cx : Cx Z X own nm cc nL ret D mc ms) (d : decode cc pc = .ok (.lcmp, 1)) (kk : Wm Z X nL G V k n Q (pc + 1) (lw) (.int (lg_cmp x y) :: st)) : Wm Z X nL G V k n Q pc lw (.long y :: .long x :: st) :=
  fun H locs ls hM hS hl => W.lcmp cx.1 cx.2.1 d (kk H locs ls hM hS hl)
theorem x_if_eq {off : Int} {tgt : Nat} {x : Int32} (cx : Cx Z X own nm cc nL ret D mc ms) (d : decode cc pc = .ok (.ifCond .eq off, 3)) (ht : (pc : Int) + off = (tgt : Int)) (kt : x = 0 → Wm Z X nL G V k n Q (tgt) (lw) (st)) (kf : ¬ x = 0 → Wm Z X nL G V k n Q (pc + 3) (lw) (st)) : Wm Z X nL G V k n Q pc lw (.int x :: st) :=
  fun H locs ls hM hS hl => lv_if_eq cx.1 cx.2.1 d ht (fun h => kt h H locs ls hM hS hl) (fun h => kf h H locs ls hM hS hl)
theorem x_if_ne {off : Int} {tgt : Nat} {x : Int32} (cx : Cx Z X own nm cc nL ret D mc ms) (d : decode cc pc = .ok (.ifCond .ne off, 3)) (ht : (pc : Int) + off = (tgt : Int)) (kt : ¬ x = 0 → Wm Z X nL G V k n Q (tgt) (lw) (st)) (kf : x = 0 → Wm Z X nL G V k n Q (pc + 3) (lw) (st)) : Wm Z X nL G V k n Q pc lw (.int x :: st) :=
  fun H locs ls hM hS hl => lv_if_ne cx.1 cx.2.1 d ht (fun h => kt h H locs ls hM hS hl) (fun h => kf h H locs ls hM hS hl)
theorem x_if_lt {off : Int} {tgt : Nat} {x : Int32} (cx : Cx Z X own nm cc nL ret D mc ms) (d : decode cc pc = .ok (.ifCond .lt off, 3)) (ht : (pc : Int) + off = (tgt : Int)) (kt : x < 0 → Wm Z X nL G V k n Q (tgt) (lw) (st)) (kf : ¬ x < 0 → Wm Z X nL G V k n Q (pc + 3) (lw) (st)) : Wm Z X nL G V k n Q pc lw (.int x :: st) :=
  fun H locs ls hM hS hl => lv_if_lt cx.1 cx.2.1 d ht (fun h => kt h H locs ls hM hS hl) (fun h => kf h H locs ls hM hS hl)
theorem x_if_ge {off : Int} {tgt : Nat} {x : Int32} (cx : Cx Z X own nm cc nL ret D mc ms) (d : decode cc pc = .ok (.ifCond .ge off, 3)) (ht : (pc : Int) + off = (tgt : Int)) (kt : 0 ≤ x → Wm Z X nL G V k n Q (tgt) (lw) (st)) (kf : ¬ 0 ≤ x → Wm Z X nL G V k n Q (pc + 3) (lw) (st)) : Wm Z X nL G V k n Q pc lw (.int x :: st) :=
  fun H locs ls hM hS hl => lv_if_ge cx.1 cx.2.1 d ht (fun h => kt h H locs ls hM hS hl) (fun h => kf h H locs ls hM hS hl)
theorem x_if_gt {off : Int} {tgt : Nat} {x : Int32} (cx : Cx Z X own nm cc nL ret D mc ms) (d : decode cc pc = .ok (.ifCond .gt off, 3)) (ht : (pc : Int) + off = (tgt : Int)) (kt : 0 < x → Wm Z X nL G V k n Q (tgt) (lw) (st)) (kf : ¬ 0 < x → Wm Z X nL G V k n Q (pc + 3) (lw) (st)) : Wm Z X nL G V k n Q pc lw (.int x :: st) :=
  fun H locs ls hM hS hl => lv_if_gt cx.1 cx.2.1 d ht (fun h => kt h H locs ls hM hS hl) (fun h => kf h H locs ls hM hS hl)
theorem x_if_le {off : Int} {tgt : Nat} {x : Int32} (cx : Cx Z X own nm cc nL ret D mc ms) (d : decode cc pc = .ok (.ifCond .le off, 3)) (ht : (pc : Int) + off = (tgt : Int)) (kt : x ≤ 0 → Wm Z X nL G V k n Q (tgt) (lw) (st)) (kf : ¬ x ≤ 0 → Wm Z X nL G V k n Q (pc + 3) (lw) (st)) : Wm Z X nL G V k n Q pc lw (.int x :: st) :=
  fun H locs ls hM hS hl => lv_if_le cx.1 cx.2.1 d ht (fun h => kt h H locs ls hM hS hl) (fun h => kf h H locs ls hM hS hl)
theorem x_icmp_eq {off : Int} {tgt : Nat} {x y : Int32} (cx : Cx Z X own nm cc nL ret D mc ms) (d : decode cc pc = .ok (.if_icmp .eq off, 3)) (ht : (pc : Int) + off = (tgt : Int)) (kt : x = y → Wm Z X nL G V k n Q (tgt) (lw) (st)) (kf : ¬ x = y → Wm Z X nL G V k n Q (pc + 3) (lw) (st)) : Wm Z X nL G V k n Q pc lw (.int y :: .int x :: st) :=
  fun H locs ls hM hS hl => lv_icmp_eq cx.1 cx.2.1 d ht (fun h => kt h H locs ls hM hS hl) (fun h => kf h H locs ls hM hS hl)
theorem x_icmp_ne {off : Int} {tgt : Nat} {x y : Int32} (cx : Cx Z X own nm cc nL ret D mc ms) (d : decode cc pc = .ok (.if_icmp .ne off, 3)) (ht : (pc : Int) + off = (tgt : Int)) (kt : ¬ x = y → Wm Z X nL G V k n Q (tgt) (lw) (st)) (kf : x = y → Wm Z X nL G V k n Q (pc + 3) (lw) (st)) : Wm Z X nL G V k n Q pc lw (.int y :: .int x :: st) :=
  fun H locs ls hM hS hl => lv_icmp_ne cx.1 cx.2.1 d ht (fun h => kt h H locs ls hM hS hl) (fun h => kf h H locs ls hM hS hl)
theorem x_icmp_lt {off : Int} {tgt : Nat} {x y : Int32} (cx : Cx Z X own nm cc nL ret D mc ms) (d : decode cc pc = .ok (.if_icmp .lt off, 3)) (ht : (pc : Int) + off = (tgt : Int)) (kt : x < y → Wm Z X nL G V k n Q (tgt) (lw) (st)) (kf : ¬ x < y → Wm Z X nL G V k n Q (pc + 3) (lw) (st)) : Wm Z X nL G V k n Q pc lw (.int y :: .int x :: st) :=
  fun H locs ls hM hS hl => lv_icmp_lt cx.1 cx.2.1 d ht (fun h => kt h H locs ls hM hS hl) (fun h => kf h H locs ls hM hS hl)
theorem x_icmp_ge {off : Int} {tgt : Nat} {x y : Int32} (cx : Cx Z X own nm cc nL ret D mc ms) (d : decode cc pc = .ok (.if_icmp .ge off, 3)) (ht : (pc : Int) + off = (tgt : Int)) (kt : y ≤ x → Wm Z X nL G V k n Q (tgt) (lw) (st)) (kf : ¬ y ≤ x → Wm Z X nL G V k n Q (pc + 3) (lw) (st)) : Wm Z X nL G V k n Q pc lw (.int y :: .int x :: st) :=
  fun H locs ls hM hS hl => lv_icmp_ge cx.1 cx.2.1 d ht (fun h => kt h H locs ls hM hS hl) (fun h => kf h H locs ls hM hS hl)
theorem x_icmp_gt {off : Int} {tgt : Nat} {x y : Int32} (cx : Cx Z X own nm cc nL ret D mc ms) (d : decode cc pc = .ok (.if_icmp .gt off, 3)) (ht : (pc : Int) + off = (tgt : Int)) (kt : y < x → Wm Z X nL G V k n Q (tgt) (lw) (st)) (kf : ¬ y < x → Wm Z X nL G V k n Q (pc + 3) (lw) (st)) : Wm Z X nL G V k n Q pc lw (.int y :: .int x :: st) :=
  fun H locs ls hM hS hl => lv_icmp_gt cx.1 cx.2.1 d ht (fun h => kt h H locs ls hM hS hl) (fun h => kf h H locs ls hM hS hl)
theorem x_icmp_le {off : Int} {tgt : Nat} {x y : Int32} (cx : Cx Z X own nm cc nL ret D mc ms) (d : decode cc pc = .ok (.if_icmp .le off, 3)) (ht : (pc : Int) + off = (tgt : Int)) (kt : x ≤ y → Wm Z X nL G V k n Q (tgt) (lw) (st)) (kf : ¬ x ≤ y → Wm Z X nL G V k n Q (pc + 3) (lw) (st)) : Wm Z X nL G V k n Q pc lw (.int y :: .int x :: st) :=
  fun H locs ls hM hS hl => lv_icmp_le cx.1 cx.2.1 d ht (fun h => kt h H locs ls hM hS hl) (fun h => kf h H locs ls hM hS hl)
theorem x_lc_eq {off : Int} {tgt : Nat} {x y : Int64} (cx : Cx Z X own nm cc nL ret D mc ms) (d : decode cc pc = .ok (.lcmp, 1)) (d2 : decode cc (pc + 1) = .ok (.ifCond .eq off, 3)) (ht : ((pc + 1 : Nat) : Int) + off = (tgt : Int)) (kt : x = y → Wm Z X nL G V k n Q (tgt) (lw) (st)) (kf : ¬ x = y → Wm Z X nL G V k n Q (pc + 1 + 3) (lw) (st)) : Wm Z X nL G V k n Q pc lw (.long y :: .long x :: st) :=
  x_lcmp cx d (x_if_eq cx d2 ht (fun h => kt ((lg_cmp_eq x y).mp h)) (fun h => kf (fun q => h ((lg_cmp_eq x y).mpr q))))
theorem x_lc_ne {off : Int} {tgt : Nat} {x y : Int64} (cx : Cx Z X own nm cc nL ret D mc ms) (d : decode cc pc = .ok (.lcmp, 1)) (d2 : decode cc (pc + 1) = .ok (.ifCond .ne off, 3)) (ht : ((pc + 1 : Nat) : Int) + off = (tgt : Int)) (kt : ¬ x = y → Wm Z X nL G V k n Q (tgt) (lw) (st)) (kf : x = y → Wm Z X nL G V k n Q (pc + 1 + 3) (lw) (st)) : Wm Z X nL G V k n Q pc lw (.long y :: .long x :: st) :=
  x_lcmp cx d (x_if_ne cx d2 ht (fun h => kt (fun q => h ((lg_cmp_eq x y).mpr q))) (fun h => kf ((lg_cmp_eq x y).mp h)))
theorem x_lc_lt {off : Int} {tgt : Nat} {x y : Int64} (cx : Cx Z X own nm cc nL ret D mc ms) (d : decode cc pc = .ok (.lcmp, 1)) (d2 : decode cc (pc + 1) = .ok (.ifCond .lt off, 3)) (ht : ((pc + 1 : Nat) : Int) + off = (tgt : Int)) (kt : x < y → Wm Z X nL G V k n Q (tgt) (lw) (st)) (kf : ¬ x < y → Wm Z X nL G V k n Q (pc + 1 + 3) (lw) (st)) : Wm Z X nL G V k n Q pc lw (.long y :: .long x :: st) :=
  x_lcmp cx d (x_if_lt cx d2 ht (fun h => kt ((lg_cmp_lt x y).mp h)) (fun h => kf (fun q => h ((lg_cmp_lt x y).mpr q))))
theorem x_lc_ge {off : Int} {tgt : Nat} {x y : Int64} (cx : Cx Z X own nm cc nL ret D mc ms) (d : decode cc pc = .ok (.lcmp, 1)) (d2 : decode cc (pc + 1) = .ok (.ifCond .ge off, 3)) (ht : ((pc + 1 : Nat) : Int) + off = (tgt : Int)) (kt : y ≤ x → Wm Z X nL G V k n Q (tgt) (lw) (st)) (kf : ¬ y ≤ x → Wm Z X nL G V k n Q (pc + 1 + 3) (lw) (st)) : Wm Z X nL G V k n Q pc lw (.long y :: .long x :: st) :=
  x_lcmp cx d (x_if_ge cx d2 ht (fun h => kt ((lg_cmp_ge x y).mp h)) (fun h => kf (fun q => h ((lg_cmp_ge x y).mpr q))))
theorem x_lc_gt {off : Int} {tgt : Nat} {x y : Int64} (cx : Cx Z X own nm cc nL ret D mc ms) (d : decode cc pc = .ok (.lcmp, 1)) (d2 : decode cc (pc + 1) = .ok (.ifCond .gt off, 3)) (ht : ((pc + 1 : Nat) : Int) + off = (tgt : Int)) (kt : y < x → Wm Z X nL G V k n Q (tgt) (lw) (st)) (kf : ¬ y < x → Wm Z X nL G V k n Q (pc + 1 + 3) (lw) (st)) : Wm Z X nL G V k n Q pc lw (.long y :: .long x :: st) :=
  x_lcmp cx d (x_if_gt cx d2 ht (fun h => kt ((lg_cmp_gt x y).mp h)) (fun h => kf (fun q => h ((lg_cmp_gt x y).mpr q))))
theorem x_lc_le {off : Int} {tgt : Nat} {x y : Int64} (cx : Cx Z X own nm cc nL ret D mc ms) (d : decode cc pc = .ok (.lcmp, 1)) (d2 : decode cc (pc + 1) = .ok (.ifCond .le off, 3)) (ht : ((pc + 1 : Nat) : Int) + off = (tgt : Int)) (kt : x ≤ y → Wm Z X nL G V k n Q (tgt) (lw) (st)) (kf : ¬ x ≤ y → Wm Z X nL G V k n Q (pc + 1 + 3) (lw) (st)) : Wm Z X nL G V k n Q pc lw (.long y :: .long x :: st) :=
  x_lcmp cx d (x_if_le cx d2 ht (fun h => kt ((lg_cmp_le x y).mp h)) (fun h => kf (fun q => h ((lg_cmp_le x y).mpr q))))
theorem x_goto {off : Int} {tgt : Nat} (cx : Cx Z X own nm cc nL ret D mc ms) (d : decode cc pc = .ok (.goto off, 3)) (ht : (pc : Int) + off = (tgt : Int)) (kk : Wm Z X nL G V k n Q (tgt) (lw) (st)) : Wm Z X nL G V k n Q pc lw (st) :=
  fun H locs ls hM hS hl => lv_goto cx.1 cx.2.1 d ht (kk H locs ls hM hS hl)
theorem x_ifnull_s {off : Int} {a : Nat} (cx : Cx Z X own nm cc nL ret D mc ms) (d : decode cc pc = .ok (.ifnull off, 3)) (kk : Wm Z X nL G V k n Q (pc + 3) (lw) (st)) : Wm Z X nL G V k n Q pc lw (.ref a :: st) :=
  fun H locs ls hM hS hl => lv_ifnull cx.1 cx.2.1 d (kk H locs ls hM hS hl)
theorem x_ifnull_n {off : Int} {tgt : Nat} (cx : Cx Z X own nm cc nL ret D mc ms) (d : decode cc pc = .ok (.ifnull off, 3)) (ht : (pc : Int) + off = (tgt : Int)) (kk : Wm Z X nL G V k n Q (tgt) (lw) (st)) : Wm Z X nL G V k n Q pc lw (.null :: st) :=
  fun H locs ls hM hS hl => lv_ifnullN cx.1 cx.2.1 d ht (kk H locs ls hM hS hl)
theorem x_ifnonnull_s {off : Int} {tgt : Nat} {a : Nat} (cx : Cx Z X own nm cc nL ret D mc ms) (d : decode cc pc = .ok (.ifnonnull off, 3)) (ht : (pc : Int) + off = (tgt : Int)) (kk : Wm Z X nL G V k n Q (tgt) (lw) (st)) : Wm Z X nL G V k n Q pc lw (.ref a :: st) :=
  fun H locs ls hM hS hl => lv_ifnonnull cx.1 cx.2.1 d ht (kk H locs ls hM hS hl)
theorem x_ifnonnull_n {off : Int} (cx : Cx Z X own nm cc nL ret D mc ms) (d : decode cc pc = .ok (.ifnonnull off, 3)) (kk : Wm Z X nL G V k n Q (pc + 3) (lw) (st)) : Wm Z X nL G V k n Q pc lw (.null :: st) :=
  fun H locs ls hM hS hl => lv_ifnonnullN cx.1 cx.2.1 d (kk H locs ls hM hS hl)
theorem x_ifnull {off : Int} {tgt : Nat} {p : Option Nat} (cx : Cx Z X own nm cc nL ret D mc ms) (d : decode cc pc = .ok (.ifnull off, 3)) (ht : (pc : Int) + off = (tgt : Int)) (kt : p = none → Wm Z X nL G V k n Q (tgt) (lw) (st)) (kf : ∀ a : Nat, p = some a → Wm Z X nL G V k n Q (pc + 3) (lw) (st)) : Wm Z X nL G V k n Q pc lw (va_rf p :: st) := by
  cases p with
  | none => exact x_ifnull_n cx d ht (kt rfl)
  | some a => exact x_ifnull_s cx d (kf a rfl)
theorem x_ifnonnull {off : Int} {tgt : Nat} {p : Option Nat} (cx : Cx Z X own nm cc nL ret D mc ms) (d : decode cc pc = .ok (.ifnonnull off, 3)) (ht : (pc : Int) + off = (tgt : Int)) (kt : ∀ a : Nat, p = some a → Wm Z X nL G V k n Q (tgt) (lw) (st)) (kf : p = none → Wm Z X nL G V k n Q (pc + 3) (lw) (st)) : Wm Z X nL G V k n Q pc lw (va_rf p :: st) := by
  cases p with
  | none => exact x_ifnonnull_n cx d (kf rfl)
  | some a => exact x_ifnonnull_s cx d ht (kt a rfl)
theorem x_tabOut {dflt lo hi : Int} {offs : Array Int} {len : Nat} {x : Int32} {tgt : Nat} (cx : Cx Z X own nm cc nL ret D mc ms) (d : decode cc pc = .ok (.tableswitch dflt lo hi offs, len)) (h : x.toInt < lo ∨ hi < x.toInt) (ht : (pc : Int) + dflt = (tgt : Int)) (kk : Wm Z X nL G V k n Q (tgt) (lw) (st)) : Wm Z X nL G V k n Q pc lw (.int x :: st) :=
  fun H locs ls hM hS hl => lv_tableOut cx.1 cx.2.1 d h ht (kk H locs ls hM hS hl)
theorem x_tabIn {dflt lo hi off v : Int} {offs : Array Int} {len : Nat} {x : Int32} {tgt : Nat} (cx : Cx Z X own nm cc nL ret D mc ms) (d : decode cc pc = .ok (.tableswitch dflt lo hi offs, len)) (hx : x.toInt = v) (h1 : ¬ v < lo) (h2 : ¬ hi < v) (ho : offs[(v - lo).toNat]? = some off) (ht : (pc : Int) + off = (tgt : Int)) (kk : Wm Z X nL G V k n Q (tgt) (lw) (st)) : Wm Z X nL G V k n Q pc lw (.int x :: st) :=
  fun H locs ls hM hS hl => lv_tableIn cx.1 cx.2.1 d (by rw [hx]; exact h1) (by rw [hx]; exact h2) (by rw [hx]; exact ho) ht (kk H locs ls hM hS hl)
end XR
