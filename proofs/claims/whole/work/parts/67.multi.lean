section XM
variable {Z : zP} {X : xP} {nL : Nat} {G : zG} {V : zV} {k n : Nat} {Q : State → Prop} {pc : Nat} {lw : List (Nat × Option Value)} {st : List Value} {own nm : String} {cc : ByteArray} {ret : Option FieldType} {D mc ms : Nat}
/-- rows of rows: the outer one, and its rows behind it -/
def mG (G : zG) (t N M : Nat) : zG := (G.1 + 1 + N, (fun a => if a = G.1 then (9 + (6 + t), N) else if G.1 < a ∧ a < G.1 + 1 + N then (9 + t, M) else G.2.1 a), G.2.2.1, fun a i => if a = G.1 ∧ i < N then some (G.1 + 1 + i) else G.2.2.2 a i)
theorem arrV_cg (c : ClassId) {N : Nat} {f g : Nat → Value} (h : ∀ j, j < N → f j = g j) : arrV c N f = arrV c N g := by
  unfold arrV
  congr 2
  funext j
  exact h j.val j.isLt
theorem outer_arrV (c : ClassId) (N h0 : Nat) : ∀ i, Jvm.Free.Multi.outerC c N h0 i = arrV c N (fun j => if j < i then .ref (h0 + 1 + j) else .null)
  | 0 => (arrV_new c N .null).trans (arrV_cg c fun j _ => (if_neg (Nat.not_lt_zero j)).symm)
  | i + 1 => by
    show (Jvm.Free.Multi.outerC c N h0 i).setSlot i (.ref (h0 + 1 + i)) = _
    rw [outer_arrV c N h0 i, arrV_store]
    refine arrV_cg c fun j _ => ?_
    unfold updV
    by_cases e : j = i
    · subst e
      rw [if_pos rfl, if_pos (Nat.lt_succ_self _)]
    · rw [if_neg e]
      by_cases q : j < i
      · exact (if_pos q).trans (if_pos (show j < i + 1 by omega)).symm
      · exact (if_neg q).trans (if_neg (show ¬ j < i + 1 by omega)).symm
theorem x_multi {idx t N M : Nat} {ty : FieldType} (ht : zTy t = ty) (hu : zTy (6 + t) = .array ty) (t3 : t < 3) (h1 : Cond.classLink own idx ("[" ++ (FieldType.array ty).toString) ∈ WA) (h2 : FieldType.array ty ∈ WO2) (h3 : Cond.arrayClass ty ∈ WA)
    (hRA : ∀ U : State, va_RA U (Z.2.2.1 t) ty → U.vm.findClass (FieldType.array ty).toString = some (Z.2.2.1 t)) (hb : componentBytes ty ≤ 8) (hdf : fits ty (defaultValue ty) = true) (hdd : (defaultValue ty).isDefault = true)
    (hav : zFr G V → ∀ a i, G.1 ≤ a → aV (mG G t N M) V t a i = defaultValue ty) (hao : ∀ i, i < N → aV (mG G t N M) V (6 + t) G.1 i = .ref (G.1 + 1 + i))
    (cx : Cx Z X own nm cc nL ret D mc ms) (d : decode cc pc = .ok (.multianewarray idx 2, 4)) (hN : N ≤ 1000) (hM1 : M ≤ 1000) (hk : k + (1 + N) ≤ mc) (hn : n + (N + N * M) ≤ ms) (kk : Wm Z X nL (mG G t N M) V (k + (1 + N)) (n + (N + N * M)) Q (pc + 4) lw (.ref G.1 :: st)) : Wm Z X nL G V k n Q pc lw (.int (nI M) :: .int (nI N) :: st) := by
  intro H locs ls hM hS hl T hT Xs
  have hts := cx.2.2.2.2.1
  have c1 := cx.2.2.2.2.2.2.2.2.2.2.2.1
  have c2 := cx.2.2.2.2.2.2.2.2.2.2.2.2.1
  have eN : (nI N).toNatClampNeg = N := nI_clamp (by omega)
  have eM : (nI M).toNatClampNeg = M := nI_clamp (by omega)
  have hbb : M * componentBytes ty ≤ 536870912 := Nat.le_trans (Nat.mul_le_mul hM1 hb) (by decide)
  obtain ⟨vm₁, cA, comp, hW, hfA, hfC, hO, hI, X1, step⟩ := Xs.multianewarray2F cx.1 cx.2.2.2.1 (hts _ h1) (cx.2.2.2.2.2.1.2.2.2.1 ty h2 _) (hts _ h3) (g := F0 X.2.2.2.2.2.1 pc ls (.int (nI M) :: .int (nI N) :: st)) rfl (by rw [cx.2.1]; exact d) rfl (nI_pos (by omega)) (nI_pos (by omega)) (by rw [eN]; omega) (by rw [eM]; exact hbb) (by rw [eM]; omega) hdf hdd (by rw [eN]; omega) (by rw [eN, eM]; omega)
  rw [eN, eM] at X1 step
  have e2 := (cx.tys (show 6 + t < 9 by omega)).2
  rw [hu] at e2
  have ecA : cA = Z.2.2.1 (6 + t) := Option.some.inj (hfA.symm.trans e2)
  have e3 := (cx.tys (show t < 9 by omega)).2
  rw [ht] at e3
  have ecC : comp = Z.2.2.1 t := Option.some.inj (hfC.symm.trans (hRA _ e3))
  subst ecA
  subst ecC
  have hz : (T.setVm vm₁).heap.size = G.1 := by show T.heap.size = _; rw [hT, hM.1]
  obtain ⟨f1, f2, -, -⟩ := Jvm.Free.Multi.fill_facts (T.setVm vm₁) (Z.2.2.1 (6 + t)) (Z.2.2.1 t) N M (defaultValue ty) N
  have fo := fun (a : Addr) (ha : a < G.1) => Jvm.Free.Multi.fill_old (T.setVm vm₁) (Z.2.2.1 (6 + t)) (Z.2.2.1 t) N M (defaultValue ty) (a := a) (by rw [hz]; exact ha) N
  have fi := fun (j : Nat) (hj : j < N) => Jvm.Free.Multi.fill_inner (T.setVm vm₁) (Z.2.2.1 (6 + t)) (Z.2.2.1 t) N M (defaultValue ty) N j hj
  rw [hz] at f1 f2
  rw [hz] at fi
  have fo2 : ∀ a : Nat, a < G.1 → (Jvm.Free.Multi.fill (T.setVm vm₁) (Z.2.2.1 (6 + t)) (Z.2.2.1 t) N M (defaultValue ty) N).heap[a]? = H[a]? := fun a ha => (fo a ha).trans (by show T.heap[a]? = _; rw [hT])
  generalize hU : Jvm.Free.Multi.fill (T.setVm vm₁) (Z.2.2.1 (6 + t)) (Z.2.2.1 t) N M (defaultValue ty) N = U at X1 step f1 f2 fi fo2
  have hM' : MemOK Z (mG G t N M) V U.heap := by
    refine ⟨f1, by show Z.1 ≤ G.1 + 1 + N; have := hM.2.1; omega, fun q q1 q2 => ?_, fun a f ha => ?_, fun a ha => ?_⟩
    · have q2 : q < G.1 + 1 + N := q2
      by_cases lo : q < G.1
      · refine cOK_kept (hM.2.2.1 q q1 lo) ?_ (fo2 q lo) (fun _ _ => rfl) (fun t' j => ?_)
        · show (if q = G.1 then _ else if G.1 < q ∧ _ then _ else _) = _
          rw [if_neg (by omega), if_neg (by omega)]
        · have : (mG G t N M).2.2.2 q j = G.2.2.2 q j := if_neg (by omega)
          unfold aV
          rw [this]
      · by_cases eq : q = G.1
        · subst eq
          unfold cOK
          rw [show (mG G t N M).2.1 G.1 = (9 + (6 + t), N) from if_pos rfl]
          refine ⟨fun h => absurd h (by omega), fun _ => ?_⟩
          show U.heap[G.1]? = some (arrV (Z.2.2.1 (9 + (6 + t) - 9)) N fun j => aV (mG G t N M) V (9 + (6 + t) - 9) G.1 j)
          rw [show 9 + (6 + t) - 9 = 6 + t by omega, f2, outer_arrV]
          exact congrArg some (arrV_cg _ fun j hj => by rw [if_pos hj, hao j hj])
        · unfold cOK
          rw [show (mG G t N M).2.1 q = (9 + t, M) from (if_neg eq).trans (if_pos (by omega))]
          refine ⟨fun h => absurd h (by omega), fun _ => ?_⟩
          show U.heap[q]? = some (arrV (Z.2.2.1 (9 + t - 9)) M fun j => aV (mG G t N M) V (9 + t - 9) q j)
          have e := fi (q - (G.1 + 1)) (by omega)
          rw [show G.1 + 1 + (q - (G.1 + 1)) = q by omega] at e
          rw [show 9 + t - 9 = t by omega, e]
          refine congrArg some ((arrV_new _ _ _).trans (arrV_cg _ fun j hj => ?_))
          exact (hav hM.2.2.2.1 q j (by omega)).symm
    · have ha : G.1 + 1 + N ≤ a := ha
      obtain ⟨g1, g2, g3, g4, g5, g6⟩ := hM.2.2.2.1 a f (by omega)
      exact ⟨g1, g2, g3, g4, g5, (if_neg (by omega)).trans g6⟩
    · have := hM.2.1
      rw [fo2 a (by omega)]
      exact hM.2.2.2.2 a ha
  obtain ⟨t', a1, b1⟩ := kk U.heap locs ls hM' (hS.grow (by rw [f1, hM.1]; omega) (fun q hq => fo2 q (hM.1 ▸ hq))) hl U rfl (by rw [← Nat.add_assoc, ← Nat.add_assoc]; exact X1)
  refine ⟨t', step t' ?_, b1⟩
  rw [show T.heap.size = G.1 by rw [hT, hM.1]]
  exact a1
theorem x_multiI {idx N M : Nat} (h1 : Cond.classLink own idx "[[I" ∈ WA) (cx : Cx Z X own nm cc nL ret D mc ms) (d : decode cc pc = .ok (.multianewarray idx 2, 4)) (hN : N ≤ 1000) (hM1 : M ≤ 1000) (kk : Wm Z X nL (mG G 1 N M) V (k + (1 + N)) (n + (N + N * M)) Q (pc + 4) lw (.ref G.1 :: st)) (hk : k + (1 + N) ≤ mc := by first | exact Nat.le_of_ble_eq_true rfl | omega) (hn : n + (N + N * M) ≤ ms := by first | exact Nat.le_of_ble_eq_true rfl | omega) : Wm Z X nL G V k n Q pc lw (.int (nI M) :: .int (nI N) :: st) :=
  x_multi (t := 1) (ty := .int) rfl rfl (by decide) h1 (by decide) ka_int (fun _ h => h) (by decide) rfl rfl (fun hz a i ha => by show Value.int (V.2.2.1 a i) = _; rw [(hz a i ha).2.2.2.1]; rfl) (fun i hi => by show va_rf (if G.1 = G.1 ∧ i < N then _ else _) = _; rw [if_pos ⟨rfl, hi⟩]; rfl) cx d hN hM1 hk hn kk
theorem x_multiJ {idx N M : Nat} (h1 : Cond.classLink own idx "[[J" ∈ WA) (cx : Cx Z X own nm cc nL ret D mc ms) (d : decode cc pc = .ok (.multianewarray idx 2, 4)) (hN : N ≤ 1000) (hM1 : M ≤ 1000) (kk : Wm Z X nL (mG G 2 N M) V (k + (1 + N)) (n + (N + N * M)) Q (pc + 4) lw (.ref G.1 :: st)) (hk : k + (1 + N) ≤ mc := by first | exact Nat.le_of_ble_eq_true rfl | omega) (hn : n + (N + N * M) ≤ ms := by first | exact Nat.le_of_ble_eq_true rfl | omega) : Wm Z X nL G V k n Q pc lw (.int (nI M) :: .int (nI N) :: st) :=
  x_multi (t := 2) (ty := .long) rfl rfl (by decide) h1 (by decide) ka_long (fun _ h => h) (by decide) rfl rfl (fun hz a i ha => by show Value.long (V.2.2.2 a i) = _; rw [(hz a i ha).2.2.2.2.1]; rfl) (fun i hi => by show va_rf (if G.1 = G.1 ∧ i < N then _ else _) = _; rw [if_pos ⟨rfl, hi⟩]; rfl) cx d hN hM1 hk hn kk
end XM
