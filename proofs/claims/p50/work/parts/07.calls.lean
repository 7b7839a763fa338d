section XC
variable {Z : zP} {X : xP} {nL : Nat} {G : zG} {V : zV} {k n : Nat} {Q : State → Prop} {pc : Nat} {lw : List (Nat × Option Value)} {st : List Value} {own nm : String} {cc : ByteArray} {ret : Option FieldType} {D mc ms : Nat}
/-- a contract out of the walk of its body -/
theorem CT.of {l : Launch} {y : MethodName} {av : List Value} {Post : Option Value → zG → zV → Prop} (hy : plainName y.cls = true) (hn : (lg_sl av).length ≤ nL)
    (body : ∀ X : xP, X.2.1 = l → Cx Z X y.cls y.name cc nL ret D mc ms → Wm Z X nL G V 0 0 (rQ Z X mc ms Post) 0 ((lv_args 0 av).map (fun q => (q.1, some q.2))) []) : CT l Z y cc nL ret D mc ms av G V Post := by
  refine Met.ofW (cc := cc) (maxL := nL) (ret := ret) hy rfl ?_
  intro p e s m args below meth c s₁ B hml hv
  obtain ⟨rfl, hM, hA⟩ := hv
  have hl := lv_entry av (n := nL) hn
  rw [lg_entry_eq]
  generalize (lg_sl av ++ List.replicate (nL - (lg_sl av).length) Slot.unset).toArray = ls at hl ⊢
  have hts : ∀ w ∈ WA, w.before av.toArray s = true := fun w hw => atoms_spec (ws := .code y cc nL ret :: WA) B.pre w (List.mem_cons_of_mem _ hw)
  refine body (p, l, e, (headSpec (.code y cc nL ret :: WA) { frames := D, cells := mc, slots := ms, locals := 36 * D }).room, s, m, av.toArray, below, meth, c) rfl ⟨B.exec, B.bytes, hml, findClass_of_methodNamed B.named, hts, hA, B.notSynchronized, B.returns, (name_of_methodNamed B.named B.method).1, Nat.le_refl _, Nat.le_refl _, Nat.le_refl _, Nat.le_refl _, by show Z.1 ≤ s.heap.size; rw [hM.1]; exact hM.2.1⟩ s.heap [] ls hM va_S.rf ⟨hl.1, hl.2.1, fun i v hv => ?_⟩
  have key : ∀ (L : List (Nat × Value)), lk (L.map (fun q => (q.1, some q.2))) i = some v → (i, v) ∈ L := by
    intro L
    induction L with
    | nil => intro h; cases h
    | cons q t ih =>
      intro h
      rcases lk_cons h with ⟨h1, h2⟩ | ⟨h1, h2⟩
      · cases h2
        dsimp only at h1
        subst h1
        exact List.mem_cons_self
      · exact List.mem_cons_of_mem _ (ih h2)
  exact hl.2.2 (i, v) (key _ hv)
section ENDS
variable {Post : Option Value → zG → zV → Prop}
theorem MQ.widen {below : List Frame} {Qc : Array Value → State → Outcome → State → Prop} {a : Array Value} {s : State} {free : Addr → Prop} {p : Program} {l : Launch} {e : Env} {R : Room} {m : MethodId} {meth : Method} {c : Code} {H : Heap} {locs : List Loc} {g : JFrame} (h1 : k ≤ mc) (h2 : n ≤ ms) (h : W p l e R s m a below meth c H locs mc ms (MQ below Qc a s mc ms free) g) : W p l e R s m a below meth c H locs k n (MQ below Qc a s mc ms free) g := W.widen h1 h2 h
theorem x_ireturn {x : Int32} (cx : Cx Z X own nm cc nL (some .int) D mc ms) (d : decode cc pc = .ok (.ireturn, 1)) (h1 : k ≤ mc) (h2 : n ≤ ms) (hP : Post (some (.int x)) G V) : Wm Z X nL G V k n (rQ Z X mc ms Post) pc lw [.int x] :=
  fun H locs ls hM hS hl => MQ.widen h1 h2 (W.iret cx.1 cx.2.1 cx.2.2.2.2.2.2.2.1 (fun t ht _ => ⟨⟨_, G, V, rfl, hP, ht ▸ hM⟩, hS.F ht⟩) hS.2.2 d (hlocks := cx.2.2.2.2.2.2.1))
theorem x_zreturn {x : Int32} (cx : Cx Z X own nm cc nL (some .boolean) D mc ms) (d : decode cc pc = .ok (.ireturn, 1)) (h1 : k ≤ mc) (h2 : n ≤ ms) (hx : narrow .boolean (.int x) = .int x) (hP : Post (some (.int x)) G V) : Wm Z X nL G V k n (rQ Z X mc ms Post) pc lw [.int x] :=
  fun H locs ls hM hS hl => MQ.widen h1 h2 (W.zret cx.1 cx.2.1 cx.2.2.2.2.2.2.2.1 hx (fun t ht _ => ⟨⟨_, G, V, rfl, hP, ht ▸ hM⟩, hS.F ht⟩) hS.2.2 d (hlocks := cx.2.2.2.2.2.2.1))
theorem x_creturn {x : Int32} {ty : FieldType} (cx : Cx Z X own nm cc nL (some ty) D mc ms) (d : decode cc pc = .ok (.ireturn, 1)) (h1 : k ≤ mc) (h2 : n ≤ ms) (hx : narrow ty (.int x) = .int x) (hP : Post (some (.int x)) G V) : Wm Z X nL G V k n (rQ Z X mc ms Post) pc lw [.int x] :=
  fun H locs ls hM hS hl => MQ.widen h1 h2 (W.zret cx.1 cx.2.1 cx.2.2.2.2.2.2.2.1 hx (fun t ht _ => ⟨⟨_, G, V, rfl, hP, ht ▸ hM⟩, hS.F ht⟩) hS.2.2 d (hlocks := cx.2.2.2.2.2.2.1))
theorem x_lreturn {x : Int64} (cx : Cx Z X own nm cc nL (some .long) D mc ms) (d : decode cc pc = .ok (.lreturn, 1)) (h1 : k ≤ mc) (h2 : n ≤ ms) (hP : Post (some (.long x)) G V) : Wm Z X nL G V k n (rQ Z X mc ms Post) pc lw [.long x] :=
  fun H locs ls hM hS hl => MQ.widen h1 h2 (W.lret cx.1 cx.2.1 cx.2.2.2.2.2.2.2.1 (fun t ht _ => ⟨⟨_, G, V, rfl, hP, ht ▸ hM⟩, hS.F ht⟩) hS.2.2 d (hlocks := cx.2.2.2.2.2.2.1))
theorem x_return (cx : Cx Z X own nm cc nL none D mc ms) (d : decode cc pc = .ok (.return_, 1)) (h1 : k ≤ mc) (h2 : n ≤ ms) (hP : Post none G V) : Wm Z X nL G V k n (rQ Z X mc ms Post) pc lw [] :=
  fun H locs ls hM hS hl => MQ.widen h1 h2 (W.vret cx.1 cx.2.1 cx.2.2.2.2.2.2.2.1 (fun t ht _ => ⟨⟨_, G, V, rfl, hP, ht ▸ hM⟩, hS.F ht⟩) hS.2.2 d (hlocks := cx.2.2.2.2.2.2.1))
theorem x_areturn {o : Option Nat} {C : String} (cx : Cx Z X own nm cc nL (some (.object C)) D mc ms) (d : decode cc pc = .ok (.areturn, 1)) (h1 : k ≤ mc) (h2 : n ≤ ms) (hP : Post (some (va_rf o)) G V) : Wm Z X nL G V k n (rQ Z X mc ms Post) pc lw [va_rf o] :=
  fun H locs ls hM hS hl => MQ.widen h1 h2 (W.aret cx.1 cx.2.1 cx.2.2.2.2.2.2.2.1 (Or.inl ⟨C, rfl⟩) (by cases o with | none => exact Or.inl rfl | some a => exact Or.inr ⟨a, rfl⟩) (fun t ht _ => ⟨⟨_, G, V, rfl, hP, ht ▸ hM⟩, hS.F ht⟩) hS.2.2 d (hlocks := cx.2.2.2.2.2.2.1))
end ENDS
/-- behind a call -/
theorem x_run {Post : Option Value → zG → zV → Prop} {rest st0 : List Value} {c1 s1 : Nat} {a : Array Value}
    (hr : ∀ (H : Heap) (locs : List Loc) (ls : Array Slot), MemOK Z G V H → lwOK lw nL ls → va_Run X.1 X.2.1 X.2.2.1 X.2.2.2.1 X.2.2.2.2.1 X.2.2.2.2.2.1 X.2.2.2.2.2.2.1 X.2.2.2.2.2.2.2.1 X.2.2.2.2.2.2.2.2.1 X.2.2.2.2.2.2.2.2.2 H locs k n c1 s1 (F0 X.2.2.2.2.2.1 pc ls st0) rest (zQ Z Post a) (fun q => Z.1 ≤ q))
    (kk : ∀ (r : Option Value) (G' : zG) (V' : zV), Post r G' V' → Wm Z X nL G' V' (k + c1) (n + s1) Q (pc + 3) lw (r.toList ++ rest)) : Wm Z X nL G V k n Q pc lw st0 := by
  intro H locs ls hM hS hl T hT Xs
  obtain ⟨v, st₀, t, T', L, h0, X', hL, e1, e2, ⟨⟨r, G', V', hv, hp, hM'⟩, hz, hk⟩, stp⟩ := hr H locs ls hM hl T hT Xs
  cases hv
  rw [h0] at hz hk
  obtain ⟨t2, a1, b1⟩ := kk v G' V' hp T'.heap (locs ++ L) ls (e1 ▸ hM') ⟨Nat.le_trans hS.1 (by rw [e1]; exact hz), fun q h1 h2 => by rw [e1, hk q (Nat.lt_of_lt_of_le h1 hS.1) h2]; exact hS.2.1 q h1 h2, fun q hq => by
      rcases List.mem_append.mp hq with h | h
      · exact hS.2.2 q h
      · exact hL q h⟩ hl T' rfl X'
  exact ⟨t2, stp t2 a1, b1⟩
theorem CT.blind {Z : zP} {G : zG} {V : zV} {av : List Value} : FrameBlind (va_Pc av (fun U => MemOK Z G V U.heap ∧ Amb Z U)) := fun a U g mk q => ⟨q.1, q.2.1, Amb.same (s := U) (U := U.calling g mk a) rfl q.2.2⟩
/-- what a call needs of the tables: by the words -/
def cW (own : String) (idx : Nat) (y : MethodName) (cy : ByteArray) (ny : Nat) (ry : Option FieldType) (na : Nat) : Prop :=
  Cond.methodLink own idx y ∈ WA ∧ Cond.code y cy ny ry ∈ WA ∧ Cond.initialized y.cls ∈ WA ∧ (y.cls ≠ "java/lang/invoke/MethodHandle" ∧ y.cls ≠ "java/lang/invoke/VarHandle" ∧ (parseMethodDescriptor y.desc).map (fun d => d.parameters.length) = some na) ∧ ny ≤ 17
def cWN (own : String) (idx : Nat) (y : MethodName) (cy : ByteArray) (ny : Nat) (ry : Option FieldType) (na : Nat) (host : String) : Prop :=
  Cond.methodLinkNest own idx y host ∈ WN ∧ Cond.code y cy ny ry ∈ WA ∧ Cond.initialized y.cls ∈ WA ∧ (y.cls ≠ "java/lang/invoke/MethodHandle" ∧ y.cls ≠ "java/lang/invoke/VarHandle" ∧ (parseMethodDescriptor y.desc).map (fun d => d.parameters.length) = some na) ∧ ny ≤ 17
theorem WA_code {y : MethodName} {cy : ByteArray} {ny : Nat} {ry : Option FieldType} (h : Cond.code y cy ny ry ∈ WA) : GoodIn WA (.code y cy ny ry :: WA) := fun w hw => by
  rcases List.mem_cons.mp hw with rfl | hw
  · exact WA_good _ h
  · exact WA_good w hw
theorem Cx.room {dy ny : Nat} (cx : Cx Z X own nm cc nL ret D mc ms) (hd : dy + 1 ≤ D) (hn : ny ≤ 17) : dy + 1 ≤ X.2.2.2.1.frames ∧ 8 + (ny + 11) + 36 * dy ≤ X.2.2.2.1.locals := by
  have c1 := cx.2.2.2.2.2.2.2.2.2.1
  have c2 := cx.2.2.2.2.2.2.2.2.2.2.1
  omega
theorem Cx.callB {idx dy ny c1 s1 na : Nat} {y : MethodName} {cy : ByteArray} {ry : Option FieldType} (cx : Cx Z X own nm cc nL ret D mc ms) (w : cW own idx y cy ny ry na) (hd : dy + 1 ≤ D) :
    CallB X.2.2.2.1 X.2.2.2.2.1 X.2.2.2.2.2.2.1 own idx y cy ny ry (.code y cy ny ry :: WA) { frames := dy, cells := c1, slots := s1, locals := 36 * dy } c1 s1 na :=
  callB_of na cx.2.2.2.2.1 (WA_code w.2.1) rfl rfl rfl (cx.2.2.2.2.1 _ w.2.2.1) (cx.2.2.2.2.1 _ w.1) w.2.2.2.1 (cx.room hd w.2.2.2.2)
theorem Cx.callN {idx dy ny c1 s1 na : Nat} {y : MethodName} {cy : ByteArray} {ry : Option FieldType} {host : String} (cx : Cx Z X own nm cc nL ret D mc ms) (w : cWN own idx y cy ny ry na host) (hd : dy + 1 ≤ D) :
    va_CN X.2.2.2.1 X.2.2.2.2.1 X.2.2.2.2.2.2.1 own idx y host cy ny ry (.code y cy ny ry :: WA) { frames := dy, cells := c1, slots := s1, locals := 36 * dy } c1 s1 na :=
  va_cnB na cx.2.2.2.2.1 (WA_code w.2.1) rfl rfl rfl (cx.2.2.2.2.2.1.2.1 _ w.1) (cx.2.2.2.2.1 _ w.2.2.1) w.2.2.2.1 (cx.room hd w.2.2.2.2)
theorem Cx.pre {H : Heap} {av : List Value} (cx : Cx Z X own nm cc nL ret D mc ms) (hM : MemOK Z G V H) : ∀ U : State, U.heap = H → X.2.2.2.2.1.WarmedH U.vm → va_Pc av (fun U => MemOK Z G V U.heap ∧ Amb Z U) av.toArray U :=
  fun U hU hW => ⟨rfl, hU ▸ hM, cx.2.2.2.2.2.1.moved hW⟩
theorem Cx.fix (cx : Cx Z X own nm cc nL ret D mc ms) : CallFix X.1 X.2.2.2.2.2.1 X.2.2.2.2.2.2.2.2.2 cc nL X.2.2.2.2.1 X.2.2.2.2.2.2.1 WA own := ⟨cx.1, cx.2.1, cx.2.2.1, cx.2.2.2.1, cx.2.2.2.2.1⟩
theorem Cx.fit {c1 s1 : Nat} (cx : Cx Z X own nm cc nL ret D mc ms) (hk : k + c1 ≤ mc) (hn : n + s1 ≤ ms) : k + c1 ≤ X.2.2.2.1.cells ∧ n + s1 ≤ X.2.2.2.1.slots := by
  have h1 := cx.2.2.2.2.2.2.2.2.2.2.2.1
  have h2 := cx.2.2.2.2.2.2.2.2.2.2.2.2.1
  omega
theorem MemOK.recv {H : Heap} {b c N : Nat} {C : String} {T : u_T} {U : State} (hM : MemOK Z G V H) (hA : Amb Z U) (hb : isK Z G b c) (hc9 : c < 9) (hc : vwCl[c]? = some (C, T, N)) : ∃ cellB : Cell, H[b]? = some cellB ∧ cellB.vm.isStatics = false ∧ U.vm.findClass C = some cellB.cls := by
  obtain ⟨cell, g1, g2, g3, -⟩ := hM.obj hb hc9
  exact ⟨cell, g1, by rw [g3]; rfl, by rw [g2]; exact (hA.1.1 c _ hc).2.1⟩
section CALLS
variable {idx dy ny c1 s1 b c N : Nat} {y : MethodName} {cy : ByteArray} {ry : Option FieldType} {av rest : List Value} {Post : Option Value → zG → zV → Prop} {C host : String} {T : u_T}
/-- a call of an object's method -/
theorem x_callV (w : cW own idx y cy ny ry av.length) (w2 : Cond.instanceMethod y ∈ WA) (w3 : Cond.selects y.cls y y ∈ WA) (hc : vwCl[c]? = some (y.cls, T, N)) (hc9 : c < 9) (hb : isK Z G b c) (hC : CT X.2.1 Z y cy ny ry dy c1 s1 (.ref b :: av) G V Post) (cx : Cx Z X own nm cc nL ret D mc ms) (d : decode cc pc = .ok (.invokevirtual idx, 3)) (hd : dy + 1 ≤ D) (hk : k + c1 ≤ mc) (hn : n + s1 ≤ ms) (hr : (rest.map fun v => v.category).sum ≤ 8)
    (kk : ∀ (r : Option Value) (G' : zG) (V' : zV), Post r G' V' → Wm Z X nL G' V' (k + c1) (n + s1) Q (pc + 3) lw (r.toList ++ rest)) : Wm Z X nL G V k n Q pc lw (av.reverse ++ .ref b :: rest) :=
  x_run (fun H locs ls hM hl => va_runV cx.fix hC ⟨cx.callB w hd, cx.2.2.2.2.1 _ w2, cx.2.2.2.2.1 _ w3⟩ ⟨CT.blind, hM.recv cx.2.2.2.2.2.1 hb hc9 hc, cx.pre hM⟩ rfl rfl hl.1 rfl (lv_room hr) d (cx.fit hk hn)) kk
theorem x_callS (w : cW own idx y cy ny ry av.length) (w2 : Cond.static y ∈ WA) (hC : CT X.2.1 Z y cy ny ry dy c1 s1 av G V Post) (cx : Cx Z X own nm cc nL ret D mc ms) (d : decode cc pc = .ok (.invokestatic idx, 3)) (hd : dy + 1 ≤ D) (hk : k + c1 ≤ mc) (hn : n + s1 ≤ ms) (hr : (rest.map fun v => v.category).sum ≤ 8)
    (kk : ∀ (r : Option Value) (G' : zG) (V' : zV), Post r G' V' → Wm Z X nL G' V' (k + c1) (n + s1) Q (pc + 3) lw (r.toList ++ rest)) : Wm Z X nL G V k n Q pc lw (av.reverse ++ rest) :=
  x_run (fun H locs ls hM hl => va_runS cx.fix hC ⟨cx.callB w hd, cx.2.2.2.2.1 _ w2⟩ ⟨CT.blind, cx.pre hM⟩ rfl rfl hl.1 rfl (lv_room hr) d (cx.fit hk hn)) kk
theorem x_callI (w : cW own idx y cy ny none av.length) (w2 : Cond.instanceMethod y ∈ WA) (hy : y.name = "<init>") (hC : CT X.2.1 Z y cy ny none dy c1 s1 (.ref b :: av) G V Post) (cx : Cx Z X own nm cc nL ret D mc ms) (d : decode cc pc = .ok (.invokespecial idx, 3)) (hd : dy + 1 ≤ D) (hk : k + c1 ≤ mc) (hn : n + s1 ≤ ms) (hr : (rest.map fun v => v.category).sum ≤ 8)
    (kk : ∀ (r : Option Value) (G' : zG) (V' : zV), Post r G' V' → Wm Z X nL G' V' (k + c1) (n + s1) Q (pc + 3) lw (r.toList ++ rest)) : Wm Z X nL G V k n Q pc lw (av.reverse ++ .ref b :: rest) :=
  x_run (fun H locs ls hM hl => va_runI cx.fix hC ⟨cx.callB w hd, hy, cx.2.2.2.2.1 _ w2⟩ ⟨CT.blind, cx.pre hM⟩ rfl rfl hl.1 rfl (lv_room hr) d (cx.fit hk hn)) kk
theorem x_callVN (w : cWN own idx y cy ny ry av.length host) (w2 : Cond.instanceMethod y ∈ WA) (w3 : Cond.selects y.cls y y ∈ WA) (hc : vwCl[c]? = some (y.cls, T, N)) (hc9 : c < 9) (hb : isK Z G b c) (hC : CT X.2.1 Z y cy ny ry dy c1 s1 (.ref b :: av) G V Post) (cx : Cx Z X own nm cc nL ret D mc ms) (d : decode cc pc = .ok (.invokevirtual idx, 3)) (hd : dy + 1 ≤ D) (hk : k + c1 ≤ mc) (hn : n + s1 ≤ ms) (hr : (rest.map fun v => v.category).sum ≤ 8)
    (kk : ∀ (r : Option Value) (G' : zG) (V' : zV), Post r G' V' → Wm Z X nL G' V' (k + c1) (n + s1) Q (pc + 3) lw (r.toList ++ rest)) : Wm Z X nL G V k n Q pc lw (av.reverse ++ .ref b :: rest) :=
  x_run (fun H locs ls hM hl => va_runVN cx.fix hC ⟨cx.callN w hd, cx.2.2.2.2.1 _ w2, cx.2.2.2.2.1 _ w3⟩ ⟨CT.blind, hM.recv cx.2.2.2.2.2.1 hb hc9 hc, cx.pre hM⟩ rfl rfl hl.1 rfl (lv_room hr) d (cx.fit hk hn)) kk
theorem x_callSN (w : cWN own idx y cy ny ry av.length host) (w2 : Cond.static y ∈ WA) (hC : CT X.2.1 Z y cy ny ry dy c1 s1 av G V Post) (cx : Cx Z X own nm cc nL ret D mc ms) (d : decode cc pc = .ok (.invokestatic idx, 3)) (hd : dy + 1 ≤ D) (hk : k + c1 ≤ mc) (hn : n + s1 ≤ ms) (hr : (rest.map fun v => v.category).sum ≤ 8)
    (kk : ∀ (r : Option Value) (G' : zG) (V' : zV), Post r G' V' → Wm Z X nL G' V' (k + c1) (n + s1) Q (pc + 3) lw (r.toList ++ rest)) : Wm Z X nL G V k n Q pc lw (av.reverse ++ rest) :=
  x_run (fun H locs ls hM hl => va_runSN cx.fix hC ⟨cx.callN w hd, cx.2.2.2.2.1 _ w2, trivial⟩ ⟨CT.blind, cx.pre hM⟩ rfl rfl hl.1 rfl (lv_room hr) d (cx.fit hk hn)) kk
theorem x_callIN (w : cWN own idx y cy ny none av.length host) (w2 : Cond.instanceMethod y ∈ WA) (hy : y.name = "<init>") (hC : CT X.2.1 Z y cy ny none dy c1 s1 (.ref b :: av) G V Post) (cx : Cx Z X own nm cc nL ret D mc ms) (d : decode cc pc = .ok (.invokespecial idx, 3)) (hd : dy + 1 ≤ D) (hk : k + c1 ≤ mc) (hn : n + s1 ≤ ms) (hr : (rest.map fun v => v.category).sum ≤ 8)
    (kk : ∀ (r : Option Value) (G' : zG) (V' : zV), Post r G' V' → Wm Z X nL G' V' (k + c1) (n + s1) Q (pc + 3) lw (r.toList ++ rest)) : Wm Z X nL G V k n Q pc lw (av.reverse ++ .ref b :: rest) :=
  x_run (fun H locs ls hM hl => va_runIN cx.fix hC ⟨cx.callN w hd, hy, cx.2.2.2.2.1 _ w2⟩ ⟨CT.blind, cx.pre hM⟩ rfl rfl hl.1 rfl (lv_room hr) d (cx.fit hk hn)) kk
end CALLS
section AFTER
variable {G1 : zG} {V1 : zV} {rest : List Value}
theorem kI {x : Int32} (h : Wm Z X nL G1 V1 k n Q pc lw (.int x :: rest)) : ∀ (r : Option Value) (G' : zG) (V' : zV), pI x G1 V1 r G' V' → Wm Z X nL G' V' k n Q pc lw (r.toList ++ rest) := by
  rintro r G' V' ⟨rfl, rfl, rfl⟩
  exact h
theorem kJ {x : Int64} (h : Wm Z X nL G1 V1 k n Q pc lw (.long x :: rest)) : ∀ (r : Option Value) (G' : zG) (V' : zV), pJ x G1 V1 r G' V' → Wm Z X nL G' V' k n Q pc lw (r.toList ++ rest) := by
  rintro r G' V' ⟨rfl, rfl, rfl⟩
  exact h
theorem kV (h : Wm Z X nL G1 V1 k n Q pc lw rest) : ∀ (r : Option Value) (G' : zG) (V' : zV), pV G1 V1 r G' V' → Wm Z X nL G' V' k n Q pc lw (r.toList ++ rest) := by
  rintro r G' V' ⟨rfl, rfl, rfl⟩
  exact h
theorem kR {o : Option Nat} (h : Wm Z X nL G1 V1 k n Q pc lw (va_rf o :: rest)) : ∀ (r : Option Value) (G' : zG) (V' : zV), pR o G1 V1 r G' V' → Wm Z X nL G' V' k n Q pc lw (r.toList ++ rest) := by
  rintro r G' V' ⟨rfl, rfl, rfl⟩
  exact h
end AFTER
end XC
