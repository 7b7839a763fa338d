/-! THE START: what holds of the machine before the law's first instruction -/
abbrev pr1 : Jvm.Cond := Jvm.Cond.and given_1 narrow_1
def ixT : Nat → Nat := fun i => [44, 54, 56, 58, 60, 91, 93, 95, 97].getD i 0
def ixM : Nat → Nat := fun i => [188, 194, 196, 198, 200, 202, 204, 206, 207].getD i 0
def lnT : List Nat := [4, 3, 4, 4, 4, 5, 4, 6, 4]
def byT : List (List Int32) := (List.range 9).map (fun i => (sW i).map nI)
theorem fl_ex : ∀ i, i < 9 → Cond.exactly (.string RX4 (ixT i)) "java/lang/String" ∈ flatC pr1 := by decide +kernel
theorem fl_co : ∀ i, i < 9 → Cond.eq (.field (.string RX4 (ixT i)) "java/lang/String" "coder" "B") (.int 0) ∈ flatC pr1 := by decide +kernel
theorem fl_ar : ∀ i, i < 9 → Cond.arrayOf (.field (.string RX4 (ixT i)) "java/lang/String" "value" "[B") .byte ∈ flatC pr1 := by decide +kernel
theorem fl_le : ∀ i, i < 9 → Cond.eq (.length (.field (.string RX4 (ixT i)) "java/lang/String" "value" "[B")) (.int (Int32.ofNat (lnT.getD i 0))) ∈ flatC pr1 := by decide +kernel
theorem fl_el : ∀ i, i < 9 → ∀ j, j < lnT.getD i 0 → Cond.eq (.elem (.field (.string RX4 (ixT i)) "java/lang/String" "value" "[B") (.int (Int32.ofNat j))) (.int ((byT.getD i []).getD j 0)) ∈ flatC pr1 := by decide +kernel
theorem fl_ne : ∀ i, i < 9 → ∀ j, j < 9 → i ≠ j → Cond.not (.eq (.string RX4 (ixT i)) (.string RX4 (ixT j))) ∈ flatC pr1 ∨ Cond.not (.eq (.string RX4 (ixT j)) (.string RX4 (ixT i))) ∈ flatC pr1 := by decide +kernel
theorem fl_eq : ∀ i, i < 9 → Cond.eq (.string RX4 (ixT i)) (.string RX8 (ixM i)) ∈ flatC pr1 := by decide +kernel
theorem fl_cs : Cond.eq (.static "java/lang/String" "COMPACT_STRINGS" "Z") (.int 1) ∈ flatC pr1 := by decide +kernel
theorem fl_sf : Cond.isRef (.static "jdk/internal/util/Preconditions" "SIOOBE_FORMATTER" "Ljava/util/function/BiFunction;") ∈ flatC pr1 := by decide +kernel
theorem ts_in {w : Cond} (h : w ∈ tables_1) : w ∈ lw_tbl := List.mem_append_right _ h
theorem eqR {args : Array Value} {s : State} {t u : Term} {a : Nat} (h : (Cond.eq t u).before args s = true) (ht : t.eval args s none [] s = some (.ref a)) : u.eval args s none [] s = some (.ref a) := by
  cases hv : u.eval args s none [] s with
  | none => simp [Cond.before, Cond.holds, Cond.value, ht, hv] at h
  | some w =>
    simp only [Cond.before, Cond.holds, Cond.value, ht, hv] at h
    cases w <;> simp_all
theorem by_eq : ∀ i, i < 9 → (lnT.getD i 0 = (sW i).length ∧ ∀ j, j < 8 → (byT.getD i []).getD j 0 = nI ((sW i).getD j 0)) := by decide +kernel
theorem va_T.cg {ty : FieldType} {t N M : Nat} {f g : Nat → Value} {A : Nat → Prop} {U : State} {H : Heap} (h : va_T ty t N f A U H) (e : N = M) (hg : ∀ j, j < N → f j = g j) : va_T ty t M g A U H := by
  subst e
  obtain ⟨cell, a, b, c, d, e, f', k⟩ := h
  exact ⟨cell, a, b, c, d, e, fun j hj => (f' j hj).trans (congrArg some (hg j hj)), k⟩
theorem wn_tab {w : Cond} (h : nestW w = true) : w.onTables = true := by
  cases w <;> first | rfl | simp [nestW] at h
section START
variable {p : Program} {s : State} {m : MethodId} {meth : Method} {c : Code} {b L : Nat} {xs : Nat → Int32}
theorem st_words (C0 : lw_At p s m meth c b L xs) : ∀ w ∈ lw_tbl, w.before #[Value.ref b] s = true := C0.2.2.2.2.2.1
theorem st_flat (C0 : lw_At p s m meth c b L xs) {w : Cond} (h : w ∈ flatC pr1) : w.before #[Value.ref b] s = true := flat_of_before _ C0.2.2.2.2.2.2.2.2.2 w h
theorem st_ini (C0 : lw_At p s m meth c b L xs) {C : String} {k : Nat} (h : tables_1_1[k]? = some (Cond.initialized C)) : (Cond.initialized C).before #[Value.ref b] s = true := st_words C0 _ (ts_in (tt1 h))
theorem st_known (C0 : lw_At p s m meth c b L xs) : ∃ D : va_G, ∀ (k : Nat) (q : vw_C), vwCl[k]? = some q → u_Kn s q.1 q.2.1 q.2.2 (D.1 k) (D.2 k) := by
  have hts : ∀ w ∈ WA, w.before #[Value.ref b] s = true := fun w h => st_words C0 w (WA_tbl h)
  have h : ∀ k : Nat, ∃ z : ClassId × (Nat → Nat), ∀ q : vw_C, vwCl[k]? = some q → u_Kn s q.1 q.2.1 q.2.2 z.1 z.2 := by
    intro k
    match k with
    | 0 => obtain ⟨a, f, e⟩ := u_known (T := TX0) (N := 1) hts inX0 (hts _ yn_X0); exact ⟨(a, f), fun q hq => by cases hq; exact e⟩
    | 1 => obtain ⟨a, f, e⟩ := u_known (T := TX1) (N := 15) hts inX1 (hts _ yn_X1); exact ⟨(a, f), fun q hq => by cases hq; exact e⟩
    | 2 => obtain ⟨a, f, e⟩ := u_known (T := TX2) (N := 2) hts inX2 (hts _ yn_X2); exact ⟨(a, f), fun q hq => by cases hq; exact e⟩
    | 3 => obtain ⟨a, f, e⟩ := u_known (T := TX3) (N := 4) hts inX3 (hts _ yn_X3); exact ⟨(a, f), fun q hq => by cases hq; exact e⟩
    | 4 => obtain ⟨a, f, e⟩ := u_known (T := TX4) (N := 5) hts inX4 (hts _ yn_X4); exact ⟨(a, f), fun q hq => by cases hq; exact e⟩
    | 5 => obtain ⟨a, f, e⟩ := u_known (T := TX5) (N := 8) hts inX5 (hts _ yn_X5); exact ⟨(a, f), fun q hq => by cases hq; exact e⟩
    | 6 => obtain ⟨a, f, e⟩ := u_known (T := TX6) (N := 4) hts inX6 (hts _ yn_X6); exact ⟨(a, f), fun q hq => by cases hq; exact e⟩
    | 7 => obtain ⟨a, f, e⟩ := u_known (T := TX7) (N := 12) hts inX7 (hts _ yn_X7); exact ⟨(a, f), fun q hq => by cases hq; exact e⟩
    | 8 => obtain ⟨a, f, e⟩ := u_known (T := TX8) (N := 46) hts inX8 (hts _ yn_X8); exact ⟨(a, f), fun q hq => by cases hq; exact e⟩
    | k + 9 => exact ⟨(0, fun _ => 0), fun q hq => by simp [vwCl] at hq⟩
  obtain ⟨z, hz⟩ := Classical.axiomOfChoice h
  exact ⟨(fun k => (z k).1, fun k => (z k).2), hz⟩
theorem st_arrC {ty : FieldType} (hne : ∀ C, ty ≠ .object C) (h : (Cond.arrayClass ty).before #[Value.ref b] s = true) : ∃ cA, ArrOfT s cA ty ∧ va_RA s cA ty := by
  obtain ⟨cA, kA, comp, h1, h2, h3⟩ := Cond.arrayClass_spec (args := #[Value.ref b]) (first := s) (o := none) (idx := []) h
  refine ⟨cA, fun n z => ⟨fun k h => (by cases h), kA, h2, comp, h3⟩, ?_⟩
  cases ty <;> first | exact h1 | exact absurd rfl (hne _)
theorem st_arrO {C : String} (h : (Cond.arrayOver (.object C)).before #[Value.ref b] s = true) : ∃ cA, ArrOfT s cA (.object C) ∧ va_RA s cA (.object C) := by
  obtain ⟨comp, cA, kA, h1, -, h2, h3, h4⟩ := Cond.arrayOver_spec (args := #[Value.ref b]) (first := s) (o := none) (idx := []) h
  exact ⟨cA, fun n z => ⟨fun k h => (by cases h), kA, h2, comp, h3⟩, kA, comp, h2, h3, h1, h4⟩
theorem st_arrA {t : FieldType} (h : (Cond.arrayOver (.array t)).before #[Value.ref b] s = true) : ∃ cA, ArrOfT s cA (.array t) ∧ va_RA s cA (.array t) := by
  obtain ⟨comp, cA, kA, h1, -, h2, h3, h4⟩ := arrayOverA_spec (args := #[Value.ref b]) (first := s) (o := none) (idx := []) h
  exact ⟨cA, fun n z => ⟨fun k h => (by cases h), kA, h2, comp, h3⟩, h4⟩
theorem st_tys (C0 : lw_At p s m meth c b L xs) : ∃ f : Nat → ClassId, ∀ t, t < 9 → ArrOfT s (f t) (zTy t) ∧ va_RA s (f t) (zTy t) := by
  have hw := st_words C0
  have h : ∀ t : Nat, ∃ cA : ClassId, t < 9 → ArrOfT s cA (zTy t) ∧ va_RA s cA (zTy t) := by
    intro t
    match t with
    | 0 => obtain ⟨a, e⟩ := st_arrC (s := s) (b := b) (ty := .byte) (fun C h => by cases h) (hw _ (WA_tbl ka_byte)); exact ⟨a, fun _ => e⟩
    | 1 => obtain ⟨a, e⟩ := st_arrC (s := s) (b := b) (ty := .int) (fun C h => by cases h) (hw _ (WA_tbl ka_int)); exact ⟨a, fun _ => e⟩
    | 2 => obtain ⟨a, e⟩ := st_arrC (s := s) (b := b) (ty := .long) (fun C h => by cases h) (hw _ (WA_tbl ka_long)); exact ⟨a, fun _ => e⟩
    | 3 => obtain ⟨a, e⟩ := st_arrO (s := s) (b := b) (hw _ (ts_in (tt1 (j := 31) rfl))); exact ⟨a, fun _ => e⟩
    | 4 => obtain ⟨a, e⟩ := st_arrO (s := s) (b := b) (hw _ (ts_in (tt1 (j := 122) rfl))); exact ⟨a, fun _ => e⟩
    | 5 => obtain ⟨a, e⟩ := st_arrO (s := s) (b := b) (hw _ (ts_in (tt1 (j := 118) rfl))); exact ⟨a, fun _ => e⟩
    | 6 => obtain ⟨a, e⟩ := st_arrO (s := s) (b := b) (hw _ (ts_in (tt1 (j := 120) rfl))); exact ⟨a, fun _ => e⟩
    | 7 => obtain ⟨a, e⟩ := st_arrA (s := s) (b := b) (hw _ (ts_in (tt5 (j := 79) rfl))); exact ⟨a, fun _ => e⟩
    | 8 => obtain ⟨a, e⟩ := st_arrA (s := s) (b := b) (hw _ (ts_in (tt5 (j := 77) rfl))); exact ⟨a, fun _ => e⟩
    | t + 9 => exact ⟨0, fun h => absurd h (by omega)⟩
  obtain ⟨f, hf⟩ := Classical.axiomOfChoice h
  exact ⟨f, hf⟩
theorem st_amb (C0 : lw_At p s m meth c b L xs) : ∃ Z : zP, Z.1 = s.heap.size ∧ Z.2.2.2.1 = s.heap ∧ Amb Z s := by
  have hw := st_words C0
  obtain ⟨D, hD⟩ := st_known C0
  obtain ⟨f, hf⟩ := st_tys C0
  have hA : ∀ a : Nat, a < s.heap.size → ¬ s.heap.size ≤ a := fun a h => Nat.not_le.mpr h
  obtain ⟨adK, adV, ⟨hS, -⟩, hE⟩ := vk_Sof (args := #[Value.ref b]) (s := s) (N := 9) (tm := fun i => .string RX4 (ixT i)) (len := lnT) (byt := byT) (A := fun q => s.heap.size ≤ q) (fun i hi => by rw [(by_eq i hi).1]; exact (show ∀ i, i < 9 → (sW i).length < 2 ^ 31 by decide +kernel) i hi) (fun i hi => st_flat C0 (fl_ex i hi)) (fun i hi => st_flat C0 (fl_co i hi)) (fun i hi => st_flat C0 (fl_ar i hi)) (fun i hi => st_flat C0 (fl_le i hi)) (fun i hi j hj => st_flat C0 (fl_el i hi j hj)) (fun i j hi hj hn => (fl_ne i hi j hj hn).imp (st_flat C0) (st_flat C0)) hA
  have rT : ∀ i, i < 9 → ∀ tx, (Cond.stringRef RX4 (ixT i) tx).before #[Value.ref b] s = true → vk_R RX4 (ixT i) tx (adK i) s := fun i hi tx h => vk_R.of h (hE i hi)
  have rM : ∀ i, i < 9 → ∀ tx, (Cond.stringRef RX8 (ixM i) tx).before #[Value.ref b] s = true → vk_R RX8 (ixM i) tx (adK i) s := fun i hi tx h => vk_R.of h (eqR (st_flat C0 (fl_eq i hi)) (hE i hi))
  refine ⟨(s.heap.size, D, f, s.heap, adK, adV), rfl, rfl, ⟨hD, fun k q hq => ?_⟩, fun w h => va_Nw.of (wn_tab (List.mem_filter.mp h).2) (hw w (ts_in (List.mem_filter.mp h).1)), fun C hC => ?_, fun t ht a => ?_, ?_, fun i hi => ⟨(hS i hi).1, (hS i hi).2.1, (hS i hi).2.2.1, (hS i hi).2.2.2.cg (by_eq i hi).1 (fun j hj => ?_)⟩, ?_, ?_⟩
  · have hk : k < 9 := by
      by_cases h : k < 9
      · exact h
      · unfold zTys at hq
        rw [List.getElem?_eq_none (by simp; omega)] at hq
        cases hq
    rw [zTys_at _ hk] at hq
    cases hq
    exact hf k hk
  · have hC : C = "SendTheBox$House" ∨ C = "SendTheBox$Plan" ∨ C = "SendTheBox$Row" ∨ C = "SendTheBox$Rule" := by simpa [WO] using hC
    rcases hC with rfl | rfl | rfl | rfl
    · exact va_AO.of (hw _ (ts_in (tt1 (j := 31) rfl)))
    · exact va_AO.of (hw _ (ts_in (tt1 (j := 122) rfl)))
    · exact va_AO.of (hw _ (ts_in (tt1 (j := 118) rfl)))
    · exact va_AO.of (hw _ (ts_in (tt1 (j := 120) rfl)))
  · have ht : t = .int ∨ t = .long := by simpa [WO2] using ht
    rcases ht with rfl | rfl
    · exact arrayOver_alikeB (Vm.Alike.refl s.vm) (hw _ (ts_in (tt5 (j := 79) rfl)))
    · exact arrayOver_alikeB (Vm.Alike.refl s.vm) (hw _ (ts_in (tt5 (j := 77) rfl)))
  · intro q hq
    simp only [sTab, List.mem_cons, List.not_mem_nil, or_false] at hq
    rcases hq with rfl | rfl | rfl | rfl | rfl | rfl | rfl | rfl | rfl | rfl | rfl | rfl | rfl | rfl | rfl | rfl | rfl | rfl
    · exact rT 0 (by decide) _ (hw _ (ts_in (tt2 (j := 178) rfl)))
    · exact rT 1 (by decide) _ (hw _ (ts_in (tt3 (j := 3) rfl)))
    · exact rT 2 (by decide) _ (hw _ (ts_in (tt3 (j := 4) rfl)))
    · exact rT 3 (by decide) _ (hw _ (ts_in (tt3 (j := 5) rfl)))
    · exact rT 4 (by decide) _ (hw _ (ts_in (tt3 (j := 6) rfl)))
    · exact rT 5 (by decide) _ (hw _ (ts_in (tt3 (j := 22) rfl)))
    · exact rT 6 (by decide) _ (hw _ (ts_in (tt3 (j := 23) rfl)))
    · exact rT 7 (by decide) _ (hw _ (ts_in (tt3 (j := 24) rfl)))
    · exact rT 8 (by decide) _ (hw _ (ts_in (tt3 (j := 25) rfl)))
    · exact rM 0 (by decide) _ (hw _ (ts_in (tt6 (j := 59) rfl)))
    · exact rM 1 (by decide) _ (hw _ (ts_in (tt6 (j := 74) rfl)))
    · exact rM 2 (by decide) _ (hw _ (ts_in (tt6 (j := 75) rfl)))
    · exact rM 3 (by decide) _ (hw _ (ts_in (tt6 (j := 76) rfl)))
    · exact rM 4 (by decide) _ (hw _ (ts_in (tt6 (j := 77) rfl)))
    · exact rM 5 (by decide) _ (hw _ (ts_in (tt6 (j := 78) rfl)))
    · exact rM 6 (by decide) _ (hw _ (ts_in (tt6 (j := 79) rfl)))
    · exact rM 7 (by decide) _ (hw _ (ts_in (tt6 (j := 80) rfl)))
    · exact rM 8 (by decide) _ (hw _ (ts_in (tt6 (j := 81) rfl)))
  · exact congrArg Value.int ((by_eq i hi).2 j (Nat.lt_of_lt_of_le hj ((show ∀ i, i < 9 → lnT.getD i 0 ≤ 8 by decide +kernel) i hi)))
  · exact va_Zof (hw _ (ts_in (tt2 (j := 192) rfl))) (st_ini C0 (k := 11) rfl) (va_eqt (st_flat C0 fl_cs)) hA
  · exact va_Zqof (hw _ (ts_in (tt2 (j := 208) rfl))) (st_ini C0 (k := 13) rfl) (st_flat C0 fl_sf) hA
end START
