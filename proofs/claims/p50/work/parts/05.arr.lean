section XA
variable {Z : zP} {X : xP} {nL : Nat} {G : zG} {V : zV} {k n : Nat} {Q : State → Prop} {pc : Nat} {lw : List (Nat × Option Value)} {st : List Value} {own nm : String} {cc : ByteArray} {ret : Option FieldType} {D mc ms : Nat}
theorem Cx.tys {t : Nat} (cx : Cx Z X own nm cc nL ret D mc ms) (ht : t < 7) : ArrOfT X.2.2.2.2.1 (Z.2.2.1 t) (zTy t) ∧ va_RA X.2.2.2.2.1 (Z.2.2.1 t) (zTy t) := cx.2.2.2.2.2.1.1.2 t _ (zTys_at Z ht)
theorem nI_ix {j m : Nat} (h : j < m) (hm : m < 2 ^ 31) : ¬ (nI j < 0 ∨ m ≤ (nI j).toNatClampNeg) := nI_in h hm
theorem x_iaload {a m j : Nat} (cx : Cx Z X own nm cc nL ret D mc ms) (d : decode cc pc = .ok (.iaload, 1)) (ha : isA Z G a 1 m) (hj : j < m) (hm : m < 2 ^ 31) (kk : Wm Z X nL G V k n Q (pc + 1) lw (.int (V.2.2.1 a j) :: st)) : Wm Z X nL G V k n Q pc lw (.int (nI j) :: .ref a :: st) := by
  intro H locs ls hM hS hl
  have hc := nI_clamp (n := j) (by omega)
  exact W.iald (v := .int (V.2.2.1 a j)) cx.1 cx.2.1 (hM.arr ha) ((cx.tys (t := 1) (by decide)).1 m _) (fun q => by cases q) (by rw [arrV_size]; exact nI_ix hj hm) (by rw [hc, arrV_read _ _ hj]; rfl) rfl rfl d (kk H locs ls hM hS hl)
theorem x_baload {a m j : Nat} (cx : Cx Z X own nm cc nL ret D mc ms) (d : decode cc pc = .ok (.baload, 1)) (ha : isA Z G a 0 m) (hj : j < m) (hm : m < 2 ^ 31) (kk : Wm Z X nL G V k n Q (pc + 1) lw (.int (V.2.2.1 a j) :: st)) : Wm Z X nL G V k n Q pc lw (.int (nI j) :: .ref a :: st) := by
  intro H locs ls hM hS hl
  have hc := nI_clamp (n := j) (by omega)
  exact W.bald (v := .int (V.2.2.1 a j)) cx.1 cx.2.1 (hM.arr ha) ((cx.tys (t := 0) (by decide)).1 m _) (fun q => by cases q) (by rw [arrV_size]; exact nI_ix hj hm) (by rw [hc, arrV_read _ _ hj]; rfl) rfl rfl d (kk H locs ls hM hS hl)
theorem x_laload {a m j : Nat} (cx : Cx Z X own nm cc nL ret D mc ms) (d : decode cc pc = .ok (.laload, 1)) (ha : isA Z G a 2 m) (hj : j < m) (hm : m < 2 ^ 31) (kk : Wm Z X nL G V k n Q (pc + 1) lw (.long (V.2.2.2 a j) :: st)) : Wm Z X nL G V k n Q pc lw (.int (nI j) :: .ref a :: st) := by
  intro H locs ls hM hS hl
  have hc := nI_clamp (n := j) (by omega)
  exact W.lald (v := .long (V.2.2.2 a j)) cx.1 cx.2.1 (hM.arr ha) ((cx.tys (t := 2) (by decide)).1 m _) (fun q => by cases q) (by rw [arrV_size]; exact nI_ix hj hm) (by rw [hc, arrV_read _ _ hj]; rfl) rfl rfl d (kk H locs ls hM hS hl)
theorem zTy_ref {t : Nat} (h3 : 3 ≤ t) : (zTy t).isReference = true := by
  obtain ⟨u, rfl⟩ : ∃ u, t = u + 3 := ⟨t - 3, by omega⟩
  match u with
  | 0 => rfl
  | 1 => rfl
  | 2 => rfl
  | 3 => rfl
  | 4 => rfl
  | u + 5 => rfl
theorem aV_ref {t a j : Nat} (h3 : 3 ≤ t) : aV G V t a j = va_rf (G.2.2.2 a j) := by
  obtain ⟨u, rfl⟩ : ∃ u, t = u + 3 := ⟨t - 3, by omega⟩
  rfl
theorem x_aaload {a m j t : Nat} (cx : Cx Z X own nm cc nL ret D mc ms) (d : decode cc pc = .ok (.aaload, 1)) (ha : isA Z G a t m) (h3 : 3 ≤ t) (h9 : t < 7) (hj : j < m) (hm : m < 2 ^ 31) (kk : Wm Z X nL G V k n Q (pc + 1) lw (va_rf (G.2.2.2 a j) :: st)) : Wm Z X nL G V k n Q pc lw (.int (nI j) :: .ref a :: st) := by
  intro H locs ls hM hS hl
  have hc := nI_clamp (n := j) (by omega)
  exact W.aald (v := va_rf (G.2.2.2 a j)) cx.1 cx.2.1 (hM.arr ha) ((cx.tys h9).1 m _) (zTy_ref h3) (fun q => by cases q) (by rw [arrV_size]; exact nI_ix hj hm) (by rw [hc, arrV_read _ _ hj, aV_ref h3]) rfl rfl d (kk H locs ls hM hS hl)
theorem x_alen {a m t : Nat} (cx : Cx Z X own nm cc nL ret D mc ms) (d : decode cc pc = .ok (.arraylength, 1)) (ha : isA Z G a t m) (h9 : t < 7) (kk : Wm Z X nL G V k n Q (pc + 1) lw (.int (nI m) :: st)) : Wm Z X nL G V k n Q pc lw (.ref a :: st) :=
  fun H locs ls hM hS hl => W.alen (n := nI m) cx.1 cx.2.1 (hM.arr ha) ((cx.tys h9).1 m _) (by rw [arrV_size]; rfl) rfl rfl d (kk H locs ls hM hS hl)
theorem mem_puta {G' : zG} {V' : zV} {H H1 : Heap} {a t m i : Nat} {v : Value} (hM : MemOK Z G V H) (ha : isA Z G a t m) (hG : G'.1 = G.1) (hG2 : G'.2.1 = G.2.1) (z : H1.size = H.size) (oq : ∀ q : Nat, q ≠ a → H1[q]? = H[q]?) (e : H1[a]? = some ((arrV (Z.2.2.1 t) m (fun j => aV G V t a j)).setSlot i v))
    (hs : ∀ j : Nat, aV G' V' t a j = updV (fun j => aV G V t a j) i v j) (ho : ∀ q : Nat, q ≠ a → (∀ c k : Nat, fV G' V' c k q = fV G V c k q) ∧ ∀ t j : Nat, aV G' V' t q j = aV G V t q j) (hfr : zFr G' V') : MemOK Z G' V' H1 := by
  refine mem_put hM ha.1 hG hG2 z oq ?_ ho hfr
  unfold cOK
  rw [hG2, ha.2.2]
  refine ⟨fun h => absurd h (by omega), fun _ => ?_⟩
  rw [e, arrV_store]
  show _ = some (arrV (Z.2.2.1 (9 + t - 9)) m fun j => aV G' V' (9 + t - 9) a j)
  rw [show 9 + t - 9 = t by omega]
  exact congrArg some (congrArg (arrV _ _) (funext fun j => (hs j).symm))
theorem x_iastore {a m j : Nat} {x : Int32} (cx : Cx Z X own nm cc nL ret D mc ms) (d : decode cc pc = .ok (.iastore, 1)) (ha : isA Z G a 1 m) (hj : j < m) (hm : m < 2 ^ 31) (kk : Wm Z X nL G (sAI V a j x) k n Q (pc + 1) lw st) : Wm Z X nL G V k n Q pc lw (.int x :: .int (nI j) :: .ref a :: st) := by
  intro H locs ls hM hS hl
  have hc := nI_clamp (n := j) (by omega)
  refine W.iast cx.1 cx.2.1 (hM.arr ha) ((cx.tys (t := 1) (by decide)).1 m _) (fun q => by cases q) (by rw [arrV_size]; exact nI_ix hj hm) rfl rfl d fun H1 e z oq => ?_
  rw [hc] at e ⊢
  refine kk H1 _ ls (mem_puta hM ha rfl rfl z oq e (fun i => ?_) (fun q hq => ⟨fun c i => rfl, fun t i => ?_⟩) (fun q f hq => ?_)) (hS.put z oq ha.1) hl
  · by_cases h : i = j
    · subst h
      simp [updV, aV, sAI, u2]
    · simp only [updV, if_neg h, aV, sAI]
      rw [u2_snd _ _ h]
  · unfold aV sAI
    dsimp only
    rw [u2_fst _ _ hq]
  · obtain ⟨f1, f2, f3, f4, f5, f6⟩ := hM.2.2.2.1 q f hq
    refine ⟨f1, f2, f3, ?_, f5, f6⟩
    show u2 V.2.2.1 a j x q f = 0
    have := ha.2.1
    rw [u2_fst _ _ (by omega)]
    exact f4
theorem x_bastore {a m j : Nat} {x : Int32} (cx : Cx Z X own nm cc nL ret D mc ms) (d : decode cc pc = .ok (.bastore, 1)) (ha : isA Z G a 0 m) (hj : j < m) (hm : m < 2 ^ 31) (kk : Wm Z X nL G (sAI V a j x.toInt8.toInt32) k n Q (pc + 1) lw st) : Wm Z X nL G V k n Q pc lw (.int x :: .int (nI j) :: .ref a :: st) := by
  intro H locs ls hM hS hl
  have hc := nI_clamp (n := j) (by omega)
  refine W.bast cx.1 cx.2.1 (hM.arr ha) ((cx.tys (t := 0) (by decide)).1 m _) (fun q => by cases q) (by rw [arrV_size]; exact nI_ix hj hm) rfl rfl d fun H1 e z oq => ?_
  rw [hc] at e ⊢
  refine kk H1 _ ls (mem_puta (v := .int x.toInt8.toInt32) hM ha rfl rfl z oq e (fun i => ?_) (fun q hq => ⟨fun c i => rfl, fun t i => ?_⟩) (fun q f hq => ?_)) (hS.put z oq ha.1) hl
  · by_cases h : i = j
    · subst h
      simp [updV, aV, sAI, u2]
    · simp only [updV, if_neg h, aV, sAI]
      rw [u2_snd _ _ h]
  · unfold aV sAI
    dsimp only
    rw [u2_fst _ _ hq]
  · obtain ⟨f1, f2, f3, f4, f5, f6⟩ := hM.2.2.2.1 q f hq
    refine ⟨f1, f2, f3, ?_, f5, f6⟩
    show u2 V.2.2.1 a j _ q f = 0
    have := ha.2.1
    rw [u2_fst _ _ (by omega)]
    exact f4
theorem x_lastore {a m j : Nat} {x : Int64} (cx : Cx Z X own nm cc nL ret D mc ms) (d : decode cc pc = .ok (.lastore, 1)) (ha : isA Z G a 2 m) (hj : j < m) (hm : m < 2 ^ 31) (kk : Wm Z X nL G (sAJ V a j x) k n Q (pc + 1) lw st) : Wm Z X nL G V k n Q pc lw (.long x :: .int (nI j) :: .ref a :: st) := by
  intro H locs ls hM hS hl
  have hc := nI_clamp (n := j) (by omega)
  refine W.last cx.1 cx.2.1 (hM.arr ha) ((cx.tys (t := 2) (by decide)).1 m _) (fun q => by cases q) (by rw [arrV_size]; exact nI_ix hj hm) rfl rfl d fun H1 e z oq => ?_
  rw [hc] at e ⊢
  refine kk H1 _ ls (mem_puta hM ha rfl rfl z oq e (fun i => ?_) (fun q hq => ⟨fun c i => rfl, fun t i => ?_⟩) (fun q f hq => ?_)) (hS.put z oq ha.1) hl
  · by_cases h : i = j
    · subst h
      simp [updV, aV, sAJ, u2]
    · simp only [updV, if_neg h, aV, sAJ]
      rw [u2_snd _ _ h]
  · unfold aV sAJ
    dsimp only
    rw [u2_fst _ _ hq]
  · obtain ⟨f1, f2, f3, f4, f5, f6⟩ := hM.2.2.2.1 q f hq
    refine ⟨f1, f2, f3, f4, ?_, f6⟩
    show u2 V.2.2.2 a j x q f = 0
    have := ha.2.1
    rw [u2_fst _ _ (by omega)]
    exact f5
theorem mem_sAR {H H1 : Heap} {a t m j : Nat} {v : Option Nat} (hM : MemOK Z G V H) (ha : isA Z G a t m) (h3 : 3 ≤ t) (z : H1.size = H.size) (oq : ∀ q : Nat, q ≠ a → H1[q]? = H[q]?) (e : H1[a]? = some ((arrV (Z.2.2.1 t) m (fun j => aV G V t a j)).setSlot j (va_rf v))) : MemOK Z (sAR G a j v) V H1 := by
  refine mem_puta hM ha rfl rfl z oq e (fun i => ?_) (fun q hq => ⟨fun c i => rfl, fun t' i => ?_⟩) (fun q f hq => ?_)
  · rw [aV_ref h3]
    by_cases h : i = j
    · subst h
      simp [updV, sAR, u2]
    · simp only [updV, if_neg h, sAR]
      rw [u2_snd _ _ h, aV_ref h3]
  · unfold aV sAR
    dsimp only
    rw [u2_fst _ _ hq]
  · have hq2 : G.1 ≤ q := hq
    obtain ⟨f1, f2, f3, f4, f5, f6⟩ := hM.2.2.2.1 q f hq2
    refine ⟨f1, f2, f3, f4, f5, ?_⟩
    show u2 G.2.2.2 a j v q f = none
    have := ha.2.1
    rw [u2_fst _ _ (by omega)]
    exact f6
/-- an object goes into an array of references to its class (element type t: class c) -/
theorem x_aastore {a m j t c v N : Nat} {C : String} {T : u_T} (cx : Cx Z X own nm cc nL ret D mc ms) (hc : vwCl[c]? = some (C, T, N)) (hz : zTy t = .object C) (hc9 : c < 9) (d : decode cc pc = .ok (.aastore, 1)) (ha : isA Z G a t m) (h3 : 3 ≤ t) (h9 : t < 7) (hj : j < m) (hm : m < 2 ^ 31) (hv : isK Z G v c) (kk : Wm Z X nL (sAR G a j (some v)) V k n Q (pc + 1) lw st) : Wm Z X nL G V k n Q pc lw (.ref v :: .int (nI j) :: .ref a :: st) := by
  intro H locs ls hM hS hl
  have hcl := nI_clamp (n := j) (by omega)
  have hn := nI_ix hj hm
  obtain ⟨cellV, g1, g2, g3, -⟩ := hM.obj hv hc9
  have hcls := (cx.2.2.2.2.2.1.1.1 c _ hc).2
  have hRA := (cx.tys h9).2
  rw [hz] at hRA
  obtain ⟨kA, comp, k1, k2, k3, -⟩ := hRA
  have hcomp : comp = Z.2.1.1 c := Option.some.inj (k3.symm.trans hcls.1)
  subst hcomp
  obtain ⟨kC, hkC, -⟩ := hcls.2
  refine W.aast cx.1 cx.2.1 (hM.arr ha) (fun q h => by cases h) (fun h => by cases h) k1 k2 rfl hkC ⟨fun q => hn (Or.inl q), by rw [arrV_size, hcl]; exact hj⟩ g1 (fun q h => by rw [g3] at h; cases h) (by rw [g2]; exact hkC) (by rw [g2]; exact va_assign hcls) rfl rfl d fun H1 e z oq => ?_
  rw [hcl] at e ⊢
  exact kk H1 _ ls (mem_sAR (v := some v) hM ha h3 z oq e) (hS.put z oq ha.1) hl
theorem x_aastoreN {a m j t : Nat} {C : String} (cx : Cx Z X own nm cc nL ret D mc ms) (hz : zTy t = .object C) (d : decode cc pc = .ok (.aastore, 1)) (ha : isA Z G a t m) (h3 : 3 ≤ t) (h9 : t < 7) (hj : j < m) (hm : m < 2 ^ 31) (kk : Wm Z X nL (sAR G a j none) V k n Q (pc + 1) lw st) : Wm Z X nL G V k n Q pc lw (.null :: .int (nI j) :: .ref a :: st) := by
  intro H locs ls hM hS hl
  have hcl := nI_clamp (n := j) (by omega)
  have hn := nI_ix hj hm
  refine va_WaastN (C := C) cx.1 cx.2.1 (hM.arr ha) (hz ▸ (cx.tys h9).1 m _) (fun h => by cases h) (by rw [arrV_size]; exact hn) rfl rfl d fun H1 e z oq => ?_
  rw [hcl] at e ⊢
  exact kk H1 _ ls (mem_sAR (v := none) hM ha h3 z oq e) (hS.put z oq ha.1) hl
end XA
