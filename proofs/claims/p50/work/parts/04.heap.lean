section XH
variable {Z : zP} {X : xP} {nL : Nat} {G : zG} {V : zV} {k n : Nat} {Q : State → Prop} {pc : Nat} {lw : List (Nat × Option Value)} {st : List Value} {own nm : String} {cc : ByteArray} {ret : Option FieldType} {D mc ms : Nat}
theorem u2_same {α : Type} (f : Nat → Nat → α) (i j : Nat) (v : α) : u2 f i j v i j = v := by simp [u2]
theorem u2_fst {α : Type} (f : Nat → Nat → α) {i j x y : Nat} (v : α) (h : x ≠ i) : u2 f i j v x y = f x y := by simp [u2, h]
theorem u2_snd {α : Type} (f : Nat → Nat → α) {i j x y : Nat} (v : α) (h : y ≠ j) : u2 f i j v x y = f x y := by simp [u2, h]
theorem MemOK.obj {H : Heap} {a c : Nat} (hM : MemOK Z G V H) (ha : isK Z G a c) (hc : c < 9) : t_OB a (Z.2.1.1 c) (fN c) (Z.2.1.2 c) H (fun k => fV G V c k a) := by
  obtain ⟨h1, h2, rfl⟩ := ha
  exact (hM.2.2.1 a h1 h2).1 hc
theorem MemOK.arr {H : Heap} {a t m : Nat} (hM : MemOK Z G V H) (ha : isA Z G a t m) : H[a]? = some (arrV (Z.2.2.1 t) m (fun j => aV G V t a j)) := by
  obtain ⟨h1, h2, h3⟩ := ha
  have h := (hM.2.2.1 a h1 h2).2
  rw [h3] at h
  simpa using h
theorem MemOK.one {H : Heap} {a c N : Nat} {C : String} {T : u_T} (hM : MemOK Z G V H) (ha : isK Z G a c) (hc9 : c < 9) (hc : vwCl[c]? = some (C, T, N)) (hN : fN c = N) : va_P Z.2.1 vwCl [(a, .inr (c, (List.range N).map (fun k => fV G V c k a)))] H := by
  intro i q hq
  have hi : i < 1 := (List.getElem?_eq_some_iff.mp hq).1
  rw [show i = 0 by omega] at hq
  cases hq
  refine ⟨_, hc, t_OB.to (V := fun k => fV G V c k a) (hN ▸ hM.obj ha hc9) (fun j hj => ?_)⟩
  simp [vp_V, hj]
theorem cOK_kept {G' : zG} {V' : zV} {H H1 : Heap} {q : Nat} (h : cOK Z G V H q) (hk : G'.2.1 q = G.2.1 q) (e : H1[q]? = H[q]?) (hf : ∀ c k : Nat, fV G' V' c k q = fV G V c k q) (hA : ∀ t j : Nat, aV G' V' t q j = aV G V t q j) : cOK Z G' V' H1 q := by
  unfold cOK at h ⊢
  rw [hk]
  refine ⟨fun h9 => ?_, fun h9 => ?_⟩
  · exact t_OB.to ((h.1 h9).kept e) (fun j _ => (hf _ j).symm)
  · rw [e, h.2 h9]
    exact congrArg some (congrArg (arrV _ _) (funext fun j => (hA _ j).symm))
theorem mem_put {G' : zG} {V' : zV} {H H1 : Heap} {a : Nat} (hM : MemOK Z G V H) (ha : Z.1 ≤ a) (hG : G'.1 = G.1) (hG2 : G'.2.1 = G.2.1) (z : H1.size = H.size) (oq : ∀ q : Nat, q ≠ a → H1[q]? = H[q]?) (hs : cOK Z G' V' H1 a)
    (ho : ∀ q : Nat, q ≠ a → (∀ c k : Nat, fV G' V' c k q = fV G V c k q) ∧ ∀ t j : Nat, aV G' V' t q j = aV G V t q j) (hfr : zFr G' V') : MemOK Z G' V' H1 := by
  refine ⟨by rw [z, hM.1, hG], by rw [hG]; exact hM.2.1, fun q h1 h2 => ?_, hfr, fun q hq => ?_⟩
  · by_cases hqa : q = a
    · subst hqa
      exact hs
    · exact cOK_kept (hM.2.2.1 q h1 (hG ▸ h2)) (by rw [hG2]) (oq q hqa) (ho q hqa).1 (ho q hqa).2
  · rw [oq q (by omega)]
    exact hM.2.2.2.2 q hq
theorem x_getf {C : String} {T : u_T} {N c i idx a : Nat} {v : Value} (hc : vwCl[c]? = some (C, T, N)) (hin : ∀ w ∈ u_ws C T N, w ∈ WA) (hN : fN c = N) (hc9 : c < 9) (hi : i < N) (hlink : Cond.fieldLink own idx (T i).1 (T i).2.1 (T i).2.2.1 ∈ WA) (hv : fV G V c i a = v)
    (cx : Cx Z X own nm cc nL ret D mc ms) (d : decode cc pc = .ok (.getfield idx, 3)) (ha : isK Z G a c) (kk : Wm Z X nL G V k n Q (pc + 3) lw (v :: st)) : Wm Z X nL G V k n Q pc lw (.ref a :: st) :=
  fun H locs ls hM hS hl => va_get cx.1 cx.2.1 cx.2.2.2.2.1 hin cx.2.2.2.1 cx.2.2.2.2.2.1.1 (hM.one ha hc9 hc hN) 0 rfl hc i hi (cx.2.2.2.2.1 _ hlink) (fun _ h => h) (by rw [List.getElem?_map, List.getElem?_range hi, ← hv]; rfl) d (kk H locs ls hM hS hl)
theorem x_getfN {C host : String} {T : u_T} {N c i idx a : Nat} {v : Value} (hc : vwCl[c]? = some (C, T, N)) (hin : ∀ w ∈ u_ws C T N, w ∈ WA) (hN : fN c = N) (hc9 : c < 9) (hi : i < N) (hlink : Cond.fieldLinkNest own idx (T i).1 (T i).2.1 (T i).2.2.1 host ∈ WN) (hv : fV G V c i a = v)
    (cx : Cx Z X own nm cc nL ret D mc ms) (d : decode cc pc = .ok (.getfield idx, 3)) (ha : isK Z G a c) (kk : Wm Z X nL G V k n Q (pc + 3) lw (v :: st)) : Wm Z X nL G V k n Q pc lw (.ref a :: st) :=
  fun H locs ls hM hS hl => va_getN cx.1 cx.2.1 cx.2.2.2.2.1 hin cx.2.2.2.1 cx.2.2.2.2.2.1.1 (hM.one ha hc9 hc hN) 0 rfl hc i hi (va_Nw.use rfl (cx.2.2.2.2.2.1.2.1 _ hlink)) (fun _ h => h) (by rw [List.getElem?_map, List.getElem?_range hi, ← hv]; rfl) d (kk H locs ls hM hS hl)
/-- what a field's change does to the memory -/
def putOK (G : zG) (V : zV) (G' : zG) (V' : zV) (c i a : Nat) (v : Value) : Prop := G'.1 = G.1 ∧ G'.2.1 = G.2.1 ∧ (∀ j : Nat, j < 50 → fV G' V' c j a = updV (fun j => fV G V c j a) i v j) ∧ (∀ q : Nat, q ≠ a → (∀ c k : Nat, fV G' V' c k q = fV G V c k q) ∧ ∀ t j : Nat, aV G' V' t q j = aV G V t q j) ∧ (zFr G V → a < G.1 → zFr G' V')
theorem putOK_I {c i a : Nat} {x : Int32} (ht : fTag c i = 0) (hi : i < 50) : putOK G V G (sI V (50 * c + i) a x) c i a (.int x) := by
  refine ⟨rfl, rfl, fun j hj => ?_, fun q hq => ⟨fun c' k' => ?_, fun t j => rfl⟩, fun h ha q f hq => ?_⟩
  · by_cases e : j = i
    · subst e
      simp [updV, fV, ht, sI, u2]
    · simp only [updV, if_neg e, fV, sI]
      rw [u2_fst _ _ (by omega)]
  · simp only [fV, sI]
    rw [u2_snd _ _ hq]
  · refine ⟨?_, (h q f hq).2⟩
    show u2 V.1 (50 * c + i) a x f q = 0
    rw [u2_snd _ _ (by omega)]
    exact (h q f hq).1
theorem putOK_L {c i a : Nat} {x : Int64} (ht : fTag c i = 1) (hi : i < 50) : putOK G V G (sL V (50 * c + i) a x) c i a (.long x) := by
  refine ⟨rfl, rfl, fun j hj => ?_, fun q hq => ⟨fun c' k' => ?_, fun t j => rfl⟩, fun h ha q f hq => ?_⟩
  · by_cases e : j = i
    · subst e
      simp [updV, fV, ht, sL, u2]
    · simp only [updV, if_neg e, fV, sL]
      rw [u2_fst _ _ (by omega)]
  · simp only [fV, sL]
    rw [u2_snd _ _ hq]
  · refine ⟨(h q f hq).1, ?_, (h q f hq).2.2⟩
    show u2 V.2.1 (50 * c + i) a x f q = 0
    rw [u2_snd _ _ (by omega)]
    exact (h q f hq).2.1
theorem putOK_R {c i a : Nat} {x : Option Nat} (ht : fTag c i = 2) (hi : i < 50) : putOK G V (sR G (50 * c + i) a x) V c i a (va_rf x) := by
  refine ⟨rfl, rfl, fun j hj => ?_, fun q hq => ⟨fun c' k' => ?_, fun t j => rfl⟩, fun h ha q f hq => ?_⟩
  · by_cases e : j = i
    · subst e
      simp [updV, fV, ht, sR, u2]
    · simp only [updV, if_neg e, fV, sR]
      rw [u2_fst _ _ (by omega)]
  · simp only [fV, sR]
    rw [u2_snd _ _ hq]
  · refine ⟨(h q f hq).1, (h q f hq).2.1, ?_, (h q f hq).2.2.2⟩
    show u2 G.2.2.1 (50 * c + i) a x f q = none
    have hq2 : G.1 ≤ q := hq
    rw [u2_snd _ _ (by omega)]
    exact (h q f hq).2.2.1
theorem mem_putf {G' : zG} {V' : zV} {H H1 : Heap} {a c i N : Nat} {v : Value} (hM : MemOK Z G V H) (hp : putOK G V G' V' c i a v) (ha : isK Z G a c) (hc9 : c < 9) (hN : fN c = N) (hN50 : N ≤ 50) (z : H1.size = H.size) (oq : ∀ q : Nat, q ≠ a → H1[q]? = H[q]?)
    (hs : t_OB a (Z.2.1.1 c) N (Z.2.1.2 c) H1 (updV (fun k => fV G V c k a) i v)) : MemOK Z G' V' H1 := by
  obtain ⟨p1, p2, p3, p4, p5⟩ := hp
  refine mem_put hM ha.1 p1 p2 z oq ?_ p4 (p5 hM.2.2.2.1 ha.2.1)
  unfold cOK
  rw [p2, ha.2.2]
  exact ⟨fun _ => hN ▸ t_OB.to hs (fun j hj => (p3 j (by omega)).symm), fun h => absurd hc9 h⟩
theorem x_putf {C : String} {T : u_T} {N c i idx a : Nat} {v : Value} {ty : FieldType} {G' : zG} {V' : zV} (ty0 : Nat → FieldType) (hc : vwCl[c]? = some (C, T, N)) (hin : ∀ w ∈ u_ws C T N, w ∈ WA) (hty : ∀ k, k < N → parseFieldDescriptor (T k).2.2.1 = some (ty0 k)) (hnm : ∀ a, a < N → ∀ b, b < N → a ≠ b → (T a).2.1 ≠ (T b).2.1) (hN : fN c = N) (hN50 : N ≤ 50) (hc9 : c < 9) (hi : i < N) (hlink : Cond.fieldLink own idx (T i).1 (T i).2.1 (T i).2.2.1 ∈ WA) (hfin : (T i).2.2.2 = false) (hd : parseFieldDescriptor (T i).2.2.1 = some ty) (hp : putOK G V G' V' c i a v)
    (cx : Cx Z X own nm cc nL ret D mc ms) (d : decode cc pc = .ok (.putfield idx, 3)) (ha : isK Z G a c) (hn : narrow ty v = v) (hfit : fits ty v = true) (kk : Wm Z X nL G' V' k n Q (pc + 3) lw st) : Wm Z X nL G V k n Q pc lw (v :: .ref a :: st) := by
  intro H locs ls hM hS hl
  have hts := cx.2.2.2.2.1
  have hK := cx.2.2.2.2.2.1.1
  have hap := va_apart (own := own) hts hin ty0 hty hnm hK hc
  obtain ⟨cell, q1, q2, q3, q4⟩ := hN ▸ hM.obj ha hc9
  obtain ⟨hSl, hfc, kC, hkC, hkind⟩ := hK.1 c _ hc
  obtain ⟨cf, kf, fi, f, hif, hsl⟩ := hSl i hi
  have hlay := hts _ (hin _ (u_in_lay hi))
  unfold u_lay at hlay
  rw [if_neg (by rw [hfin]; decide)] at hlay
  have hst := (u_facts hfc hkC (u_lays hts hin hi) hif).1
  have h6 := u_store hfc hkC hkind hlay hif hd hn hfit
  refine W.putK cx.1 cx.2.1 (f := f) ⟨cx.2.2.2.1, hts _ hlink, ⟨_, _, _, hif⟩, hst⟩ (by rw [q2]; exact h6) q1 q3 (by rw [hsl]; exact k2_hasslot (q4 i hi)) rfl rfl d fun H' e1 e2 e3 => ?_
  rw [hsl] at e1 ⊢
  exact kk H' _ ls (mem_putf hM hp ha hc9 hN hN50 e2 e3 ⟨_, e1, q2, q3, t_set q4 hap hi v⟩) (hS.put e2 e3 ha.1) hl
theorem x_putfN {C host : String} {T : u_T} {N c i idx a : Nat} {v : Value} {ty : FieldType} {G' : zG} {V' : zV} (ty0 : Nat → FieldType) (hc : vwCl[c]? = some (C, T, N)) (hin : ∀ w ∈ u_ws C T N, w ∈ WA) (hty : ∀ k, k < N → parseFieldDescriptor (T k).2.2.1 = some (ty0 k)) (hnm : ∀ a, a < N → ∀ b, b < N → a ≠ b → (T a).2.1 ≠ (T b).2.1) (hN : fN c = N) (hN50 : N ≤ 50) (hc9 : c < 9) (hi : i < N) (hlink : Cond.fieldLinkNest own idx (T i).1 (T i).2.1 (T i).2.2.1 host ∈ WN) (hfin : (T i).2.2.2 = false) (hd : parseFieldDescriptor (T i).2.2.1 = some ty) (hp : putOK G V G' V' c i a v)
    (cx : Cx Z X own nm cc nL ret D mc ms) (d : decode cc pc = .ok (.putfield idx, 3)) (ha : isK Z G a c) (hn : narrow ty v = v) (hfit : fits ty v = true) (kk : Wm Z X nL G' V' k n Q (pc + 3) lw st) : Wm Z X nL G V k n Q pc lw (v :: .ref a :: st) := by
  intro H locs ls hM hS hl
  have hts := cx.2.2.2.2.1
  have hK := cx.2.2.2.2.2.1.1
  have hap := va_apart (own := own) hts hin ty0 hty hnm hK hc
  obtain ⟨cell, q1, q2, q3, q4⟩ := hN ▸ hM.obj ha hc9
  obtain ⟨hSl, hfc, kC, hkC, hkind⟩ := hK.1 c _ hc
  obtain ⟨cf, kf, fi, f, hif, hsl⟩ := hSl i hi
  have hlay := hts _ (hin _ (u_in_lay hi))
  unfold u_lay at hlay
  rw [if_neg (by rw [hfin]; decide)] at hlay
  have hst := (u_facts hfc hkC (u_lays hts hin hi) hif).1
  have h6 := u_store hfc hkC hkind hlay hif hd hn hfit
  refine va_WputK cx.1 cx.2.1 (f := f) cx.2.2.2.1 (va_Nw.use rfl (cx.2.2.2.2.2.1.2.1 _ hlink)) hif hst (by rw [q2]; exact h6) q1 q3 (by rw [hsl]; exact k2_hasslot (q4 i hi)) rfl rfl d fun H' e1 e2 e3 => ?_
  rw [hsl] at e1 ⊢
  exact kk H' _ ls (mem_putf hM hp ha hc9 hN hN50 e2 e3 ⟨_, e1, q2, q3, t_set q4 hap hi v⟩) (hS.put e2 e3 ha.1) hl
theorem x_putfF {C : String} {T : u_T} {N c i idx a : Nat} {v : Value} {ty : FieldType} {G' : zG} {V' : zV} (ty0 : Nat → FieldType) (hc : vwCl[c]? = some (C, T, N)) (hin : ∀ w ∈ u_ws C T N, w ∈ WA) (hty : ∀ k, k < N → parseFieldDescriptor (T k).2.2.1 = some (ty0 k)) (hnm : ∀ a, a < N → ∀ b, b < N → a ≠ b → (T a).2.1 ≠ (T b).2.1) (hN : fN c = N) (hN50 : N ≤ 50) (hc9 : c < 9) (hi : i < N) (hlink : Cond.fieldLink own idx (T i).1 (T i).2.1 (T i).2.2.1 ∈ WA) (hfin : (T i).2.2.2 = true) (hdecl : (T i).1 = own) (hd : parseFieldDescriptor (T i).2.2.1 = some ty) (hp : putOK G V G' V' c i a v)
    (cx : Cx Z X own "<init>" cc nL ret D mc ms) (d : decode cc pc = .ok (.putfield idx, 3)) (ha : isK Z G a c) (hn : narrow ty v = v) (hfit : fits ty v = true) (kk : Wm Z X nL G' V' k n Q (pc + 3) lw st) : Wm Z X nL G V k n Q pc lw (v :: .ref a :: st) := by
  intro H locs ls hM hS hl
  have hts := cx.2.2.2.2.1
  have hK := cx.2.2.2.2.2.1.1
  have hap := va_apart (own := own) hts hin ty0 hty hnm hK hc
  obtain ⟨cell, q1, q2, q3, q4⟩ := hN ▸ hM.obj ha hc9
  obtain ⟨hSl, hfc, kC, hkC, hkind⟩ := hK.1 c _ hc
  obtain ⟨cf, kf, fi, f, hif, hsl⟩ := hSl i hi
  have hlay := hts _ (hin _ (u_in_lay hi))
  unfold u_lay at hlay
  rw [if_pos hfin] at hlay
  have hst := (u_facts hfc hkC (u_lays hts hin hi) hif).1
  have hcf : X.2.2.2.2.2.1.cls = cf := by
    obtain ⟨_, _, c', _, _, _, -, -, hf', -, -, -, hown2, -⟩ := Cond.laysFinal_spec hlay
    have e1 : c' = cf := by have := hif.symm.trans hf'; simp at this; exact this.1.symm
    rw [hdecl] at hown2
    rw [← e1]; exact Option.some.inj (cx.2.2.2.1.symm.trans hown2)
  have h6 := u_fits hfc hkC hkind (Or.inr hlay) hif hd hn hfit
  refine W.putFinK cx.1 cx.2.1 cx.2.2.2.1 (hts _ hlink) hif hst hcf cx.2.2.2.2.2.2.2.2.1 (by rw [q2]; exact h6) q1 q3 (by rw [hsl]; exact k2_hasslot (q4 i hi)) rfl rfl d fun H' e1 e2 e3 => ?_
  rw [hsl] at e1 ⊢
  exact kk H' _ ls (mem_putf hM hp ha hc9 hN hN50 e2 e3 ⟨_, e1, q2, q3, t_set q4 hap hi v⟩) (hS.put e2 e3 ha.1) hl
end XH
