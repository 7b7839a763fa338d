/-! THE START: what holds of the machine before the law's first instruction -/
abbrev pr1 : Jvm.Cond := Jvm.Cond.and given_1 narrow_1
def ixT : Nat → Nat := fun i => [44, 54, 56, 58, 60, 91, 93, 95, 97, 40, 44, 46].getD i 0
def clT : Nat → String := fun i => if i < 9 then RX4 else RL
def ixM : Nat → Nat := fun i => [30, 0, 42, 0, 0, 48, 50, 52, 54].getD i 0
def lnT : List Nat := [4, 3, 4, 4, 4, 5, 4, 6, 4, 4, 5, 10]
def byT : List (List Int32) := (List.range 12).map (fun i => (sW i).map nI)
theorem fl_ex : ∀ i, i < 12 → Cond.exactly (.string (clT i) (ixT i)) "java/lang/String" ∈ flatC pr1 := by decide +kernel
theorem fl_co : ∀ i, i < 12 → Cond.eq (.field (.string (clT i) (ixT i)) "java/lang/String" "coder" "B") (.int 0) ∈ flatC pr1 := by decide +kernel
theorem fl_ar : ∀ i, i < 12 → Cond.arrayOf (.field (.string (clT i) (ixT i)) "java/lang/String" "value" "[B") .byte ∈ flatC pr1 := by decide +kernel
theorem fl_le : ∀ i, i < 12 → Cond.eq (.length (.field (.string (clT i) (ixT i)) "java/lang/String" "value" "[B")) (.int (Int32.ofNat (lnT.getD i 0))) ∈ flatC pr1 := by decide +kernel
theorem fl_el : ∀ i, i < 12 → ∀ j, j < lnT.getD i 0 → Cond.eq (.elem (.field (.string (clT i) (ixT i)) "java/lang/String" "value" "[B") (.int (Int32.ofNat j))) (.int ((byT.getD i []).getD j 0)) ∈ flatC pr1 := by decide +kernel
def neT : Nat → Nat → Nat := fun i j => ([[0, 192, 210, 229, 249, 271, 293, 318, 342, 168, 170, 171], [192, 0, 211, 230, 250, 272, 294, 319, 343, 184, 186, 187], [210, 211, 0, 231, 251, 273, 295, 320, 344, 202, 204, 205], [229, 230, 231, 0, 252, 274, 296, 321, 345, 221, 223, 224], [249, 250, 251, 252, 0, 275, 297, 322, 346, 241, 243, 244], [271, 272, 273, 274, 275, 0, 298, 323, 347, 263, 265, 266], [293, 294, 295, 296, 297, 298, 0, 324, 348, 285, 287, 288], [318, 319, 320, 321, 322, 323, 324, 0, 349, 310, 312, 313], [342, 343, 344, 345, 346, 347, 348, 349, 0, 334, 336, 337], [168, 184, 202, 221, 241, 263, 285, 310, 334, 0, 78, 95], [170, 186, 204, 223, 243, 265, 287, 312, 336, 78, 0, 97], [171, 187, 205, 224, 244, 266, 288, 313, 337, 95, 97, 0]].getD i []).getD j 0
theorem fl_neI : ∀ i, i < 12 → ∀ j, j < 12 → i ≠ j → (flatC pr1)[neT i j]? = some (Cond.not (.eq (.string (clT i) (ixT i)) (.string (clT j) (ixT j)))) ∨ (flatC pr1)[neT i j]? = some (Cond.not (.eq (.string (clT j) (ixT j)) (.string (clT i) (ixT i)))) := by decide +kernel
theorem fl_ne : ∀ i, i < 12 → ∀ j, j < 12 → i ≠ j → Cond.not (.eq (.string (clT i) (ixT i)) (.string (clT j) (ixT j))) ∈ flatC pr1 ∨ Cond.not (.eq (.string (clT j) (ixT j)) (.string (clT i) (ixT i))) ∈ flatC pr1 := fun i hi j hj h => (fl_neI i hi j hj h).imp List.mem_of_getElem? List.mem_of_getElem?
theorem fl_eq : ∀ i, i < 9 → i = 1 ∨ i = 3 ∨ i = 4 ∨ Cond.eq (.string RL (ixM i)) (.string (clT i) (ixT i)) ∈ flatC pr1 := by decide +kernel
theorem fl_cs : Cond.eq (.static "java/lang/String" "COMPACT_STRINGS" "Z") (.int 1) ∈ flatC pr1 := by decide +kernel
theorem fl_sf : Cond.isRef (.static "jdk/internal/util/Preconditions" "SIOOBE_FORMATTER" "Ljava/util/function/BiFunction;") ∈ flatC pr1 := by decide +kernel
theorem ts_in {w : Cond} (h : w ∈ tables_1) : w ∈ lw_tbl := List.mem_append_right _ h
theorem eqR {args : Array Value} {s : State} {t u : Term} {a : Nat} (h : (Cond.eq t u).before args s = true) (ht : t.eval args s none [] s = some (.ref a)) : u.eval args s none [] s = some (.ref a) := by
  cases hv : u.eval args s none [] s with
  | none => simp [Cond.before, Cond.holds, Cond.value, ht, hv] at h
  | some w =>
    simp only [Cond.before, Cond.holds, Cond.value, ht, hv] at h
    cases w <;> simp_all
theorem eqL {args : Array Value} {s : State} {t u : Term} {a : Nat} (h : (Cond.eq t u).before args s = true) (hu : u.eval args s none [] s = some (.ref a)) : t.eval args s none [] s = some (.ref a) := by
  cases hv : t.eval args s none [] s with
  | none => simp [Cond.before, Cond.holds, Cond.value, hu, hv] at h
  | some w =>
    simp only [Cond.before, Cond.holds, Cond.value, hu, hv] at h
    cases w <;> simp_all
theorem by_eq : ∀ i, i < 12 → (lnT.getD i 0 = (sW i).length ∧ ∀ j, j < 10 → (byT.getD i []).getD j 0 = nI ((sW i).getD j 0)) := by decide +kernel
theorem va_T.cg {ty : FieldType} {t N M : Nat} {f g : Nat → Value} {A : Nat → Prop} {U : State} {H : Heap} (h : va_T ty t N f A U H) (e : N = M) (hg : ∀ j, j < N → f j = g j) : va_T ty t M g A U H := by
  subst e
  obtain ⟨cell, a, b, c, d, e, f', k⟩ := h
  exact ⟨cell, a, b, c, d, e, fun j hj => (f' j hj).trans (congrArg some (hg j hj)), k⟩
theorem wn_tab {w : Cond} (h : nestW w = true) : w.onTables = true := by
  cases w <;> first | rfl | simp [nestW] at h
section START
variable {p : Program} {s : State} {m : MethodId} {meth : Method} {c : Code} {b L : Nat} {xs : Nat → Int32}
theorem st_words (C0 : lw_At p s m meth c b L xs) : ∀ w ∈ lw_tbl, w.before #[Value.ref b] s = true := C0.2.2.2.2.2.1
theorem st_flat (C0 : lw_At p s m meth c b L xs) {w : Cond} (h : w ∈ flatC pr1) : w.before #[Value.ref b] s = true := flat_of_before _ C0.2.2.2.2.2.2.2.2.2 w h
theorem st_ini (C0 : lw_At p s m meth c b L xs) {C : String} {k : Nat} (h : tables_1_1[k]? = some (Cond.initialized C)) : (Cond.initialized C).before #[Value.ref b] s = true := st_words C0 _ (ts_in (tt1 h))
theorem st_known (C0 : lw_At p s m meth c b L xs) : ∃ D : va_G, ∀ (k : Nat) (q : vw_C), vwCl[k]? = some q → u_Kn s q.1 q.2.1 q.2.2 (D.1 k) (D.2 k) := by
  have hts : ∀ w ∈ WA, w.before #[Value.ref b] s = true := fun w h => st_words C0 w (WA_tbl h)
  have h : ∀ k : Nat, ∃ z : ClassId × (Nat → Nat), ∀ q : vw_C, vwCl[k]? = some q → u_Kn s q.1 q.2.1 q.2.2 z.1 z.2 := by
    intro k
    match k with
    | 0 => obtain ⟨a, f, e⟩ := u_known (T := TX0) (N := 1) hts inX0 (hts _ yn_X0); exact ⟨(a, f), fun q hq => by cases hq; exact e⟩
    | 1 => obtain ⟨a, f, e⟩ := u_known (T := TX1) (N := 15) hts inX1 (hts _ yn_X1); exact ⟨(a, f), fun q hq => by cases hq; exact e⟩
    | 2 => obtain ⟨a, f, e⟩ := u_known (T := TX2) (N := 2) hts inX2 (hts _ yn_X2); exact ⟨(a, f), fun q hq => by cases hq; exact e⟩
    | 3 => obtain ⟨a, f, e⟩ := u_known (T := TX3) (N := 4) hts inX3 (hts _ yn_X3); exact ⟨(a, f), fun q hq => by cases hq; exact e⟩
    | 4 => obtain ⟨a, f, e⟩ := u_known (T := TX4) (N := 5) hts inX4 (hts _ yn_X4); exact ⟨(a, f), fun q hq => by cases hq; exact e⟩
    | 5 => obtain ⟨a, f, e⟩ := u_known (T := TX5) (N := 8) hts inX5 (hts _ yn_X5); exact ⟨(a, f), fun q hq => by cases hq; exact e⟩
    | 6 => obtain ⟨a, f, e⟩ := u_known (T := TX6) (N := 4) hts inX6 (hts _ yn_X6); exact ⟨(a, f), fun q hq => by cases hq; exact e⟩
    | 7 => obtain ⟨a, f, e⟩ := u_known (T := TX7) (N := 12) hts inX7 (hts _ yn_X7); exact ⟨(a, f), fun q hq => by cases hq; exact e⟩
    | k + 8 => exact ⟨(0, fun _ => 0), fun q hq => by simp [vwCl] at hq⟩
  obtain ⟨z, hz⟩ := Classical.axiomOfChoice h
  exact ⟨(fun k => (z k).1, fun k => (z k).2), hz⟩
theorem st_arrC {ty : FieldType} (hne : ∀ C, ty ≠ .object C) (h : (Cond.arrayClass ty).before #[Value.ref b] s = true) : ∃ cA, ArrOfT s cA ty ∧ va_RA s cA ty := by
  obtain ⟨cA, kA, comp, h1, h2, h3⟩ := Cond.arrayClass_spec (args := #[Value.ref b]) (first := s) (o := none) (idx := []) h
  refine ⟨cA, fun n z => ⟨fun k h => (by cases h), kA, h2, comp, h3⟩, ?_⟩
  cases ty <;> first | exact h1 | exact absurd rfl (hne _)
theorem st_arrO {C : String} (h : (Cond.arrayOver (.object C)).before #[Value.ref b] s = true) : ∃ cA, ArrOfT s cA (.object C) ∧ va_RA s cA (.object C) := by
  obtain ⟨comp, cA, kA, h1, -, h2, h3, h4⟩ := Cond.arrayOver_spec (args := #[Value.ref b]) (first := s) (o := none) (idx := []) h
  exact ⟨cA, fun n z => ⟨fun k h => (by cases h), kA, h2, comp, h3⟩, kA, comp, h2, h3, h1, h4⟩
theorem st_arrA {t : FieldType} (h : (Cond.arrayOver (.array t)).before #[Value.ref b] s = true) : ∃ cA, ArrOfT s cA (.array t) ∧ va_RA s cA (.array t) := by
  obtain ⟨comp, cA, kA, h1, -, h2, h3, h4⟩ := arrayOverA_spec (args := #[Value.ref b]) (first := s) (o := none) (idx := []) h
  exact ⟨cA, fun n z => ⟨fun k h => (by cases h), kA, h2, comp, h3⟩, h4⟩
theorem st_tys (C0 : lw_At p s m meth c b L xs) : ∃ f : Nat → ClassId, ∀ t, t < 7 → ArrOfT s (f t) (zTy t) ∧ va_RA s (f t) (zTy t) := by
  have hw := st_words C0
  have h : ∀ t : Nat, ∃ cA : ClassId, t < 7 → ArrOfT s cA (zTy t) ∧ va_RA s cA (zTy t) := by
    intro t
    match t with
    | 0 => obtain ⟨a, e⟩ := st_arrC (s := s) (b := b) (ty := .byte) (fun C h => by cases h) (hw _ (WA_tbl ka_byte)); exact ⟨a, fun _ => e⟩
    | 1 => obtain ⟨a, e⟩ := st_arrC (s := s) (b := b) (ty := .int) (fun C h => by cases h) (hw _ (WA_tbl ka_int)); exact ⟨a, fun _ => e⟩
    | 2 => obtain ⟨a, e⟩ := st_arrC (s := s) (b := b) (ty := .long) (fun C h => by cases h) (hw _ (WA_tbl ka_long)); exact ⟨a, fun _ => e⟩
    | 3 => obtain ⟨a, e⟩ := st_arrO (s := s) (b := b) (hw _ (ts_in (tt1 (j := 30) rfl))); exact ⟨a, fun _ => e⟩
    | 4 => obtain ⟨a, e⟩ := st_arrO (s := s) (b := b) (hw _ (ts_in (tt1 (j := 121) rfl))); exact ⟨a, fun _ => e⟩
    | 5 => obtain ⟨a, e⟩ := st_arrO (s := s) (b := b) (hw _ (ts_in (tt1 (j := 117) rfl))); exact ⟨a, fun _ => e⟩
    | 6 => obtain ⟨a, e⟩ := st_arrO (s := s) (b := b) (hw _ (ts_in (tt1 (j := 119) rfl))); exact ⟨a, fun _ => e⟩
    | t + 7 => exact ⟨0, fun h => absurd h (by omega)⟩
  obtain ⟨f, hf⟩ := Classical.axiomOfChoice h
  exact ⟨f, hf⟩
theorem st_amb (hL : L ≤ 260) (C0 : lw_At p s m meth c b L xs) : ∃ Z : zP, Z.1 = s.heap.size ∧ Z.2.2.2.1 = s.heap ∧ scB Z = b ∧ scL Z = L ∧ Amb Z s := by
  have hw := st_words C0
  obtain ⟨D, hD⟩ := st_known C0
  obtain ⟨f, hf⟩ := st_tys C0
  have hA : ∀ a : Nat, a < s.heap.size → ¬ s.heap.size ≤ a := fun a h => Nat.not_le.mpr h
  obtain ⟨adK, adV, ⟨hS, -⟩, hE⟩ := vk_Sof (args := #[Value.ref b]) (s := s) (N := 12) (tm := fun i => .string (clT i) (ixT i)) (len := lnT) (byt := byT) (A := fun q => s.heap.size ≤ q) (fun i hi => by rw [(by_eq i hi).1]; exact (show ∀ i, i < 12 → (sW i).length < 2 ^ 31 by decide +kernel) i hi) (fun i hi => st_flat C0 (fl_ex i hi)) (fun i hi => st_flat C0 (fl_co i hi)) (fun i hi => st_flat C0 (fl_ar i hi)) (fun i hi => st_flat C0 (fl_le i hi)) (fun i hi j hj => st_flat C0 (fl_el i hi j hj)) (fun i j hi hj hn => (fl_ne i hi j hj hn).imp (st_flat C0) (st_flat C0)) hA
  have rT : ∀ i, i < 12 → ∀ tx, (Cond.stringRef (clT i) (ixT i) tx).before #[Value.ref b] s = true → vk_R (clT i) (ixT i) tx (if i = 12 then b else adK i) s := fun i hi tx h => by rw [if_neg (by omega)]; exact vk_R.of h (hE i hi)
  have rM : ∀ i, i < 9 → ¬ (i = 1 ∨ i = 3 ∨ i = 4) → ∀ tx, (Cond.stringRef RL (ixM i) tx).before #[Value.ref b] s = true → vk_R RL (ixM i) tx (if i = 12 then b else adK i) s := fun i hi hn tx h => by
    rw [if_neg (by omega)]
    have h2 : Cond.eq (.string RL (ixM i)) (.string (clT i) (ixT i)) ∈ flatC pr1 := by
      rcases fl_eq i hi with z | z | z | z
      · exact absurd (Or.inl z) hn
      · exact absurd (Or.inr (Or.inl z)) hn
      · exact absurd (Or.inr (Or.inr z)) hn
      · exact z
    exact vk_R.of h (eqL (st_flat C0 h2) (hE i (by omega)))
  refine ⟨(s.heap.size, D, f, s.heap, (fun i => if i = 12 then b else adK i), (fun i => if i = 12 then L else adV i)), rfl, rfl, (show (if 12 = 12 then b else adK 12) = b from if_pos rfl), (show (if 12 = 12 then L else adV 12) = L from if_pos rfl), ⟨hD, fun k q hq => ?_⟩, fun w h => va_Nw.of (wn_tab (List.mem_filter.mp h).2) (hw w (ts_in (List.mem_filter.mp h).1)), fun C hC => ?_, fun t ht a => ?_, ?_, fun i hi => ?_, ?_, ?_, ?_, ?_⟩
  · have hk : k < 7 := by
      by_cases h : k < 7
      · exact h
      · unfold zTys at hq
        rw [List.getElem?_eq_none (by simp; omega)] at hq
        cases hq
    rw [zTys_at _ hk] at hq
    cases hq
    exact hf k hk
  · have hC : C = "SendTheBox$House" ∨ C = "SendTheBox$Plan" ∨ C = "SendTheBox$Row" ∨ C = "SendTheBox$Rule" := by simpa [WO] using hC
    rcases hC with rfl | rfl | rfl | rfl
    · exact va_AO.of (hw _ (ts_in (tt1 (j := 30) rfl)))
    · exact va_AO.of (hw _ (ts_in (tt1 (j := 121) rfl)))
    · exact va_AO.of (hw _ (ts_in (tt1 (j := 117) rfl)))
    · exact va_AO.of (hw _ (ts_in (tt1 (j := 119) rfl)))
  · cases ht
  · intro q hq
    simp only [sTab, List.mem_cons, List.not_mem_nil, or_false] at hq
    rcases hq with rfl | rfl | rfl | rfl | rfl | rfl | rfl | rfl | rfl | rfl | rfl | rfl | rfl | rfl | rfl | rfl | rfl | rfl
    · exact rT 0 (by decide) _ (hw _ (ts_in (tt2 (j := 205) rfl)))
    · exact rT 1 (by decide) _ (hw _ (ts_in (tt2 (j := 224) rfl)))
    · exact rT 2 (by decide) _ (hw _ (ts_in (tt2 (j := 225) rfl)))
    · exact rT 3 (by decide) _ (hw _ (ts_in (tt2 (j := 226) rfl)))
    · exact rT 4 (by decide) _ (hw _ (ts_in (tt2 (j := 227) rfl)))
    · exact rT 5 (by decide) _ (hw _ (ts_in (tt2 (j := 236) rfl)))
    · exact rT 6 (by decide) _ (hw _ (ts_in (tt2 (j := 237) rfl)))
    · exact rT 7 (by decide) _ (hw _ (ts_in (tt2 (j := 238) rfl)))
    · exact rT 8 (by decide) _ (hw _ (ts_in (tt2 (j := 239) rfl)))
    · exact rM 0 (by decide) (by decide) _ (hw _ (ts_in (tt2 (j := 94) rfl)))
    · exact rT 9 (by decide) _ (hw _ (ts_in (tt2 (j := 161) rfl)))
    · exact rM 2 (by decide) (by decide) _ (hw _ (ts_in (tt2 (j := 162) rfl)))
    · exact rT 10 (by decide) _ (hw _ (ts_in (tt2 (j := 163) rfl)))
    · exact rT 11 (by decide) _ (hw _ (ts_in (tt2 (j := 164) rfl)))
    · exact rM 5 (by decide) (by decide) _ (hw _ (ts_in (tt2 (j := 165) rfl)))
    · exact rM 6 (by decide) (by decide) _ (hw _ (ts_in (tt2 (j := 166) rfl)))
    · exact rM 7 (by decide) (by decide) _ (hw _ (ts_in (tt2 (j := 167) rfl)))
    · exact rM 8 (by decide) (by decide) _ (hw _ (ts_in (tt2 (j := 168) rfl)))
  · have e1 : (if i = 12 then b else adK i) = adK i := if_neg (by omega)
    have e2 : (if i = 12 then L else adV i) = adV i := if_neg (by omega)
    show va_O "java/lang/String" (if i = 12 then b else adK i) _ _ _ ∧ va_OF "java/lang/String" "coder" "B" (.int 0) (if i = 12 then b else adK i) _ _ _ ∧ va_OF "java/lang/String" "value" "[B" (.ref (if i = 12 then L else adV i)) (if i = 12 then b else adK i) _ _ _ ∧ va_T .byte (if i = 12 then L else adV i) _ _ _ _ _
    rw [e1, e2]
    exact ⟨(hS i hi).1, (hS i hi).2.1, (hS i hi).2.2.1, (hS i hi).2.2.2.cg (by_eq i hi).1 (fun j hj => congrArg Value.int ((by_eq i hi).2 j (Nat.lt_of_lt_of_le hj ((show ∀ i, i < 12 → lnT.getD i 0 ≤ 10 by decide +kernel) i hi))))⟩
  · exact va_Zof (hw _ (ts_in (tt2 (j := 107) rfl))) (st_ini C0 (k := 7) rfl) (va_eqt (st_flat C0 fl_cs)) hA
  · exact va_Zqof (hw _ (ts_in (tt2 (j := 123) rfl))) (st_ini C0 (k := 9) rfl) (st_flat C0 fl_sf) hA
  · obtain ⟨scr, h1, h2, h3, h4, h5⟩ := C0.2.2.2.2.2.2.1
    have bl : b < s.heap.size := C0.2.2.2.2.2.2.2.1
    show va_T .int (if 12 = 12 then b else adK 12) (if 12 = 12 then L else adV 12) _ (fun q => s.heap.size ≤ q) s s.heap
    rw [if_pos rfl, if_pos rfl]
    refine ⟨scr, h1, h2, h3, Nat.le_of_eq h4.symm, by rw [h4], fun j hj => ?_, Nat.not_le.mpr bl⟩
    have e : scX (s.heap.size, D, f, s.heap, (fun i => if i = 12 then b else adK i), (fun i => if i = 12 then L else adV i)) j = xs j := by
      unfold scX
      show (match (s.heap[if 12 = 12 then b else adK 12]?).bind (fun c => c.slots[j]?) with | some (.int v) => v | _ => 0) = xs j
      rw [if_pos rfl, h1, Option.bind_some, h5 j hj]
    rw [h5 j hj, ← e]
  · exact hL
end START
