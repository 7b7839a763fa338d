section XN
variable {Z : zP} {X : xP} {nL : Nat} {G : zG} {V : zV} {k n : Nat} {Q : State → Prop} {pc : Nat} {lw : List (Nat × Option Value)} {st : List Value} {own nm : String} {cc : ByteArray} {ret : Option FieldType} {D mc ms : Nat}
theorem fV_nG (t m c i a : Nat) : fV (nG G t m) V c i a = fV G V c i a := rfl
theorem aV_nG (t m c i a : Nat) : aV (nG G t m) V c i a = aV G V c i a := rfl
/-- one cell more -/
theorem mem_new {H H1 : Heap} {t m : Nat} (hM : MemOK Z G V H) (z : H1.size = G.1 + 1) (oq : ∀ q : Nat, q < G.1 → H1[q]? = H[q]?) (hs : cOK Z (nG G t m) V H1 G.1) : MemOK Z (nG G t m) V H1 := by
  refine ⟨z, Nat.le_succ_of_le hM.2.1, fun q h1 h2 => ?_, fun q f hq => ?_, fun q hq => ?_⟩
  · by_cases hqa : q = G.1
    · subst hqa
      exact hs
    · have h2' : q < G.1 + 1 := h2
      exact cOK_kept (hM.2.2.1 q h1 (by omega)) (va_up_ne _ _ hqa) (oq q (by omega)) (fun _ _ => rfl) (fun _ _ => rfl)
  · have hq' : G.1 + 1 ≤ q := hq
    exact hM.2.2.2.1 q f (by omega)
  · have := hM.2.1
    rw [oq q (by omega)]
    exact hM.2.2.2.2 q hq
theorem va_S.grow {A : Nat → Prop} {H0 H H1 : Heap} {locs : List Loc} (h : va_S A H0 H locs) (z : H.size ≤ H1.size) (oq : ∀ q : Nat, q < H.size → H1[q]? = H[q]?) : va_S A H0 H1 locs :=
  ⟨Nat.le_trans h.1 z, fun q h1 h2 => (oq q (Nat.lt_of_lt_of_le h1 h.1)).trans (h.2.1 q h1 h2), h.2.2⟩
theorem fV_fresh {c i : Nat} (hM : zFr G V) : fV G V c i G.1 = (match fTag c i with | 0 => .int 0 | 1 => .long 0 | _ => .null) := by
  obtain ⟨f1, f2, f3, -⟩ := hM G.1 (50 * c + i) (Nat.le_refl _)
  unfold fV
  split <;> simp_all [va_rf]
theorem aV_fresh {t j : Nat} (hM : zFr G V) : aV G V t G.1 j = defaultValue (zTy t) := by
  obtain ⟨f1, f2, f3, f4, f5, f6⟩ := hM G.1 j (Nat.le_refl _)
  match t with
  | 0 => show Value.int _ = _; rw [f4]; rfl
  | 1 => show Value.int _ = _; rw [f4]; rfl
  | 2 => show Value.long _ = _; rw [f5]; rfl
  | 3 => show va_rf _ = _; rw [f6]; rfl
  | 4 => show va_rf _ = _; rw [f6]; rfl
  | 5 => show va_rf _ = _; rw [f6]; rfl
  | 6 => show va_rf _ = _; rw [f6]; rfl
  | 7 => show va_rf _ = _; rw [f6]; rfl
  | u + 8 => show va_rf _ = _; rw [f6]; rfl
theorem x_new {C : String} {T : u_T} {N c idx : Nat} (ty : Nat → FieldType) (hc : vwCl[c]? = some (C, T, N)) (hin : ∀ w ∈ u_ws C T N, w ∈ WA) (hty : ∀ k, k < N → parseFieldDescriptor (T k).2.2.1 = some (ty k)) (hN : fN c = N) (hc9 : c < 9) (hdf : ∀ i, i < N → defaultValue (ty i) = (match fTag c i with | 0 => .int 0 | 1 => .long 0 | _ => .null)) (h1 : Cond.classLink own idx C ∈ WA) (h2 : Cond.instantiable C N ∈ WA) (h3 : Cond.initialized C ∈ WA)
    (cx : Cx Z X own nm cc nL ret D mc ms) (d : decode cc pc = .ok (.new idx, 3)) (hk : k + 1 ≤ mc) (hn : n + N ≤ ms) (kk : Wm Z X nL (nG G c 0) V (k + 1) (n + N) Q (pc + 3) lw (.ref G.1 :: st)) : Wm Z X nL G V k n Q pc lw st := by
  intro H locs ls hM hS hl
  have hts := cx.2.2.2.2.1
  have hKn := cx.2.2.2.2.2.1.1.1 c _ hc
  have c1 := cx.2.2.2.2.2.2.2.2.2.2.2.1
  have c2 := cx.2.2.2.2.2.2.2.2.2.2.2.2.1
  refine W.newcK cx.1 cx.2.1 cx.2.2.2.1 (hts _ h1) (hts _ h2) (hts _ h3) rfl d (by omega) (by omega) hKn.2.1 hM.1 fun H1 kC hkC e1 z1 o1 => ?_
  have hb := u_born ty hts hin hKn hkC e1 hty
  refine kk H1 locs ls (mem_new hM z1 o1 ?_) (hS.grow (by rw [z1, hM.1]; omega) (fun q hq => o1 q (hM.1 ▸ hq))) hl
  unfold cOK
  rw [show (nG G c 0).2.1 G.1 = (c, 0) from va_up_self _ _ _]
  refine ⟨fun _ => hN ▸ t_OB.to hb (fun j hj => ?_), fun h => absurd hc9 h⟩
  rw [hdf j hj, fV_nG, fV_fresh hM.2.2.2.1]
theorem x_newarray {at' : ArrayType} {m t : Nat} (ht : newarray.typeOf at' = zTy t) (h9 : t < 7) (hb : componentBytes (zTy t) ≤ 8) (hs : ("[" ++ (newarray.typeOf at').toString) = "[" ++ (zTy t).toString) (hRA : ∀ U : State, va_RA U (Z.2.2.1 t) (zTy t) → U.vm.findClass ("[" ++ (zTy t).toString) = some (Z.2.2.1 t)) (hw : Cond.arrayClass (newarray.typeOf at') ∈ WA)
    (cx : Cx Z X own nm cc nL ret D mc ms) (d : decode cc pc = .ok (.newarray at', 2)) (hm : m < 65536) (hk : k + 1 ≤ mc) (hn : n + m ≤ ms) (kk : Wm Z X nL (nG G (9 + t) m) V (k + 1) (n + m) Q (pc + 2) lw (.ref G.1 :: st)) : Wm Z X nL G V k n Q pc lw (.int (nI m) :: st) := by
  intro H locs ls hM hS hl
  have hts := cx.2.2.2.2.1
  have c1 := cx.2.2.2.2.2.2.2.2.2.2.2.1
  have c2 := cx.2.2.2.2.2.2.2.2.2.2.2.2.1
  have h0 : ¬ nI m < 0 := nI_pos (by omega)
  have hcl : (nI m).toNatClampNeg = m := nI_clamp (by omega)
  have hbb : m * componentBytes (newarray.typeOf at') ≤ 536870912 := by
    rw [ht]
    exact Nat.le_trans (Nat.mul_le_mul (Nat.le_of_lt hm) hb) (by omega)
  refine va_newaK cx.1 cx.2.1 (hts _ hw) rfl d rfl h0 hcl hbb (by omega) (by omega) hM.1 fun H1 cA e1 z1 o1 hAr hNm => ?_
  have hcA : cA = Z.2.2.1 t := by
    have := hRA _ (cx.tys h9).2
    rw [hs] at hNm
    exact Option.some.inj (hNm.symm.trans this)
  subst hcA
  refine kk H1 locs ls (mem_new hM z1 o1 ?_) (hS.grow (by rw [z1, hM.1]; omega) (fun q hq => o1 q (hM.1 ▸ hq))) hl
  unfold cOK
  rw [show (nG G (9 + t) m).2.1 G.1 = (9 + t, m) from va_up_self _ _ _]
  refine ⟨fun h => absurd h (by omega), fun _ => ?_⟩
  show H1[G.1]? = some (arrV (Z.2.2.1 (9 + t - 9)) m fun j => aV G V (9 + t - 9) G.1 j)
  rw [show 9 + t - 9 = t by omega, e1, ht]
  exact congrArg some (congrArg (arrV _ _) (funext fun j => (aV_fresh hM.2.2.2.1).symm))
theorem x_anewarray {C : String} {idx m t : Nat} (ht : zTy t = .object C) (h9 : t < 7) (hC : FieldType.object C ∈ WO) (h1 : Cond.classLink own idx C ∈ WA)
    (cx : Cx Z X own nm cc nL ret D mc ms) (d : decode cc pc = .ok (.anewarray idx, 3)) (hm : m < 65536) (hk : k + 1 ≤ mc) (hn : n + m ≤ ms) (kk : Wm Z X nL (nG G (9 + t) m) V (k + 1) (n + m) Q (pc + 3) lw (.ref G.1 :: st)) : Wm Z X nL G V k n Q pc lw (.int (nI m) :: st) := by
  intro H locs ls hM hS hl
  have hts := cx.2.2.2.2.1
  have c1 := cx.2.2.2.2.2.2.2.2.2.2.2.1
  have c2 := cx.2.2.2.2.2.2.2.2.2.2.2.2.1
  have hcl : (nI m).toNatClampNeg = m := nI_clamp (by omega)
  refine W.anew cx.1 cx.2.1 cx.2.2.2.1 (hts _ h1) (va_AO.use (cx.2.2.2.2.2.1.2.2.1 C hC)) rfl d rfl (nI_pos (by omega)) (by rw [hcl]; omega) (by omega) (by rw [hcl]; omega) fun cA kA comp f1 f2 f3 f4 => ?_
  rw [hcl]
  have hRA := (cx.tys h9).2
  rw [ht] at hRA
  obtain ⟨kB, compB, k1, k2, k3, k4⟩ := hRA
  have hcA : cA = Z.2.2.1 t := Option.some.inj (f1.symm.trans k4)
  subst hcA
  generalize hH1 : H.push ({ cls := Z.2.2.1 t, slots := Array.replicate m .null, vm := .none } : Cell) = H1
  have z1 : H1.size = G.1 + 1 := by rw [← hH1, Array.size_push, hM.1]
  have e1 : H1[G.1]? = some (arrV (Z.2.2.1 t) m (fun _ => .null)) := by rw [← hM.1, ← hH1, Array.getElem?_push_size, ← arrV_new]
  have o1 : ∀ q : Nat, q < G.1 → H1[q]? = H[q]? := fun q hq => by rw [← hH1, Array.getElem?_push, if_neg (by rw [hM.1]; omega)]
  rw [hM.1]
  refine kk H1 locs ls (mem_new hM z1 o1 ?_) (hS.grow (by rw [z1, hM.1]; omega) (fun q hq => o1 q (hM.1 ▸ hq))) hl
  unfold cOK
  rw [show (nG G (9 + t) m).2.1 G.1 = (9 + t, m) from va_up_self _ _ _]
  refine ⟨fun h => absurd h (by omega), fun _ => ?_⟩
  show H1[G.1]? = some (arrV (Z.2.2.1 (9 + t - 9)) m fun j => aV G V (9 + t - 9) G.1 j)
  rw [show 9 + t - 9 = t by omega, e1]
  exact congrArg some (congrArg (arrV _ _) (funext fun j => by rw [aV_fresh hM.2.2.2.1, ht]; rfl))
/-- Object's constructor -/
theorem x_objInit {a idx : Nat} (h1 : Cond.methodLink own idx objectInit ∈ WA) (h2 : Cond.instanceMethod objectInit ∈ WA) (h3 : Cond.code objectInit ⟨#[0xb1]⟩ 1 none ∈ WA)
    (cx : Cx Z X own nm cc nL ret D mc ms) (d : decode cc pc = .ok (.invokespecial idx, 3)) (hD : 1 ≤ D) (hst : (st.map fun v => v.category).sum ≤ 24) (kk : Wm Z X nL G V k n Q (pc + 3) lw st) : Wm Z X nL G V k n Q pc lw (.ref a :: st) := by
  intro H locs ls hM hS hl
  have hts := cx.2.2.2.2.1
  have c1 := cx.2.2.2.2.2.2.2.2.2.1
  have c2 := cx.2.2.2.2.2.2.2.2.2.2.1
  refine W.objInit cx.1 cx.2.1 cx.2.2.2.1 (hts _ h1) (hts _ h2) (hts _ h3) rfl (by show ls.size = _; rw [cx.2.2.1]; exact hl.1) rfl d (by omega) (by show 2 * 0 + _ + 12 ≤ _; omega) (kk H locs ls hM hS hl)
end XN
