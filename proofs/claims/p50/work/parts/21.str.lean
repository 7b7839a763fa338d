section XT
variable {Z : zP} {X : xP} {nL : Nat} {G : zG} {V : zV} {k n : Nat} {Q : State → Prop} {pc : Nat} {lw : List (Nat × Option Value)} {st : List Value} {own nm : String} {cc : ByteArray} {ret : Option FieldType} {D mc ms : Nat}
theorem MemOK.old {H : Heap} (hM : MemOK Z G V H) : ∀ a : Nat, a < Z.2.2.2.1.size → ¬ (Z.1 ≤ a) → H[a]? = Z.2.2.2.1[a]? := fun a _ h => hM.2.2.2.2 a (Nat.lt_of_not_le h)
theorem Cx.amb (cx : Cx Z X own nm cc nL ret D mc ms) : AmbS Z X.2.2.2.2.1 := cx.2.2.2.2.2.1.2.2.2.2
/-- a text -/
theorem x_ldcS {idx i : Nat} {tx : String} (hq : (own, idx, tx, i) ∈ sTab) (cx : Cx Z X own nm cc nL ret D mc ms) (d : decode cc pc = .ok (.ldc idx, 2)) (kk : Wm Z X nL G V k n Q (pc + 2) lw (.ref (Z.2.2.2.2.1 i) :: st)) : Wm Z X nL G V k n Q pc lw st :=
  fun H locs ls hM hS hl => va_ldcS cx.1 cx.2.1 cx.2.2.2.1 (cx.amb.1 _ hq) d (kk H locs ls hM hS hl)
theorem x_getsC {idx : Nat} (hw : Cond.fieldLink own idx "java/lang/String" "COMPACT_STRINGS" "Z" ∈ WA) (cx : Cx Z X own nm cc nL ret D mc ms) (d : decode cc pc = .ok (.getstatic idx, 3)) (kk : Wm Z X nL G V k n Q (pc + 3) lw (.int (nI 1) :: st)) : Wm Z X nL G V k n Q pc lw st := by
  intro H locs ls hM hS hl
  obtain ⟨cf, kf, fi, f, a, cell, h1, h2, h3, h4, h5, h6, h7, h8⟩ := cx.amb.2.2.1.kept hM.old
  exact W.gets cx.1 cx.2.1 cx.2.2.2.1 (cx.2.2.2.2.1 _ hw) h1 h2 h3 h4 h5 (fun e => by rw [e] at h6; cases h6) h7 rfl d (kk H locs ls hM hS hl)
theorem x_getsF {idx : Nat} (hw : Cond.fieldLink own idx "jdk/internal/util/Preconditions" "SIOOBE_FORMATTER" "Ljava/util/function/BiFunction;" ∈ WA) (cx : Cx Z X own nm cc nL ret D mc ms) (d : decode cc pc = .ok (.getstatic idx, 3)) (kk : ∀ o : Option Nat, Wm Z X nL G V k n Q (pc + 3) lw (va_rf o :: st)) : Wm Z X nL G V k n Q pc lw st := by
  intro H locs ls hM hS hl
  rcases cx.amb.2.2.2.1.kept hM.old with h | ⟨t, h⟩
  · obtain ⟨cf, kf, fi, f, a, cell, h1, h2, h3, h4, h5, h6, h7, h8⟩ := h
    exact W.gets cx.1 cx.2.1 cx.2.2.2.1 (cx.2.2.2.2.1 _ hw) h1 h2 h3 h4 h5 (fun e => by rw [e] at h6; cases h6) h7 rfl d (kk none H locs ls hM hS hl)
  · obtain ⟨cf, kf, fi, f, a, cell, h1, h2, h3, h4, h5, h6, h7, h8⟩ := h
    exact W.gets cx.1 cx.2.1 cx.2.2.2.1 (cx.2.2.2.2.1 _ hw) h1 h2 h3 h4 h5 (fun e => by rw [e] at h6; cases h6) h7 rfl d (kk (some t) H locs ls hM hS hl)
theorem x_getCoder {idx i : Nat} (hi : i < 12) (hw : Cond.fieldLink own idx "java/lang/String" "coder" "B" ∈ WA) (cx : Cx Z X own nm cc nL ret D mc ms) (d : decode cc pc = .ok (.getfield idx, 3)) (kk : Wm Z X nL G V k n Q (pc + 3) lw (.int (nI 0) :: st)) : Wm Z X nL G V k n Q pc lw (.ref (Z.2.2.2.2.1 i) :: st) := by
  intro H locs ls hM hS hl
  obtain ⟨cf, kf, fi, f, cell, h1, h2, h3, h4, h5, h6⟩ := (cx.amb.2.1 i hi).2.1.kept hM.old
  exact W.getf cx.1 cx.2.1 cx.2.2.2.1 (cx.2.2.2.2.1 _ hw) h1 h2 h3 h4 h5 rfl rfl d (kk H locs ls hM hS hl)
theorem x_getValue {idx i : Nat} (hi : i < 12) (hw : Cond.fieldLink own idx "java/lang/String" "value" "[B" ∈ WA) (cx : Cx Z X own nm cc nL ret D mc ms) (d : decode cc pc = .ok (.getfield idx, 3)) (kk : Wm Z X nL G V k n Q (pc + 3) lw (.ref (Z.2.2.2.2.2 i) :: st)) : Wm Z X nL G V k n Q pc lw (.ref (Z.2.2.2.2.1 i) :: st) := by
  intro H locs ls hM hS hl
  obtain ⟨cf, kf, fi, f, cell, h1, h2, h3, h4, h5, h6⟩ := (cx.amb.2.1 i hi).2.2.1.kept hM.old
  exact W.getf cx.1 cx.2.1 cx.2.2.2.1 (cx.2.2.2.2.1 _ hw) h1 h2 h3 h4 h5 rfl rfl d (kk H locs ls hM hS hl)
theorem x_alenS {i : Nat} (hi : i < 12) (cx : Cx Z X own nm cc nL ret D mc ms) (d : decode cc pc = .ok (.arraylength, 1)) (kk : Wm Z X nL G V k n Q (pc + 1) lw (.int (nI (sW i).length) :: st)) : Wm Z X nL G V k n Q pc lw (.ref (Z.2.2.2.2.2 i) :: st) := by
  intro H locs ls hM hS hl
  obtain ⟨cell, h1, h2, h3, h4, h5, h6, h7⟩ := (cx.amb.2.1 i hi).2.2.2.kept hM.old
  exact W.alen (n := nI (sW i).length) cx.1 cx.2.1 h1 h2 h5 rfl rfl d (kk H locs ls hM hS hl)
theorem x_baloadS {i j : Nat} (hi : i < 12) (hj : j < (sW i).length) (hl31 : j < 2 ^ 31) (cx : Cx Z X own nm cc nL ret D mc ms) (d : decode cc pc = .ok (.baload, 1)) (kk : Wm Z X nL G V k n Q (pc + 1) lw (.int (nI ((sW i).getD j 0)) :: st)) : Wm Z X nL G V k n Q pc lw (.int (nI j) :: .ref (Z.2.2.2.2.2 i) :: st) := by
  intro H locs ls hM hS hl
  obtain ⟨cell, h1, h2, h3, h4, h5, h6, h7⟩ := (cx.amb.2.1 i hi).2.2.2.kept hM.old
  have hc := nI_clamp (n := j) hl31
  refine W.bald (v := .int (nI ((sW i).getD j 0))) cx.1 cx.2.1 h1 h2 h3 (fun q => ?_) (by rw [hc]; exact h6 j hj) rfl rfl d (kk H locs ls hM hS hl)
  rw [hc] at q
  rcases q with q | q
  · exact nI_pos hl31 q
  · omega
theorem x_i2c {x : Int32} (cx : Cx Z X own nm cc nL ret D mc ms) (d : decode cc pc = .ok (.i2c, 1)) (kk : Wm Z X nL G V k n Q (pc + 1) lw (.int (x.toUInt32 % 65536).toInt32 :: st)) : Wm Z X nL G V k n Q pc lw (.int x :: st) :=
  fun H locs ls hM hS hl => lv_i2c cx.1 cx.2.1 d rfl (kk H locs ls hM hS hl)
/-- a call of a text's method -/
theorem x_callT {idx dy ny c1 s1 i : Nat} {y : MethodName} {cy : ByteArray} {ry : Option FieldType} {av rest : List Value} {Post : Option Value → zG → zV → Prop} (hi : i < 12) (hy : y.cls = "java/lang/String") (w : cW own idx y cy ny ry av.length) (w2 : Cond.instanceMethod y ∈ WA) (w3 : Cond.selects y.cls y y ∈ WA) (hC : CT X.2.1 Z y cy ny ry dy c1 s1 (.ref (Z.2.2.2.2.1 i) :: av) G V Post) (cx : Cx Z X own nm cc nL ret D mc ms) (d : decode cc pc = .ok (.invokevirtual idx, 3)) (hd : dy + 1 ≤ D) (hk : k + c1 ≤ mc) (hn : n + s1 ≤ ms) (hr : (rest.map fun v => v.category).sum ≤ 8)
    (kk : ∀ (r : Option Value) (G' : zG) (V' : zV), Post r G' V' → Wm Z X nL G' V' (k + c1) (n + s1) Q (pc + 3) lw (r.toList ++ rest)) : Wm Z X nL G V k n Q pc lw (av.reverse ++ .ref (Z.2.2.2.2.1 i) :: rest) :=
  x_run (fun H locs ls hM hl => va_runV cx.fix hC ⟨cx.callB w hd, cx.2.2.2.2.1 _ w2, cx.2.2.2.2.1 _ w3⟩ ⟨CT.blind, by obtain ⟨cell, h1, h2, h3, -⟩ := (cx.amb.2.1 i hi).1.kept hM.old; exact ⟨cell, h1, h2, by rw [hy]; exact h3⟩, cx.pre hM⟩ rfl rfl hl.1 rfl (lv_room hr) d (cx.fit hk hn)) kk
end XT
