set_option maxHeartbeats 4000000 in
theorem law_acts {Z : zP} {X : xP} {nm : String} {Q : State → Prop} (cx : Cx Z X RL nm code 5 ret 14 600000 7302250) (fin : ∀ G V k n lw, k ≤ 600000 → n ≤ 7302250 → Wm Z X 5 G V k n Q 150 lw [.int (nI 1)]) {D : Int32 → Int32} {vl : Int32 → Nat} (hDr : ∀ d, drw d = D d) (hvl : ∀ d, dvl d = vl d) (hv4 : ∀ d, vl d < 4) {G : zG} {V : zV} {x A : Nat} {col : Nat → Nat} {S : SX} (hA : A ≤ 60) (hRC : RC Z G V x col S) (hT : lwT S) : Wm Z X 5 G V 200 50000 Q 25 [(0, some (.ref (scB Z))), (1, some (.ref x)), (2, some (.int (nI A))), (3, some (.int (nI 0)))] [] := by
  have L25 : ∀ j, j ≤ A → ∀ G V col S, RC Z G V x col S → lwT S → Wm Z X 5 G V (200 + 4 * j) (50000 + 135 * j) Q 25 [(0, some (.ref (scB Z))), (1, some (.ref x)), (2, some (.int (nI A))), (3, some (.int (nI j)))] [] := by
    refine lpU A (fun j hj ih => ?_)
    intro G V col S hRC hT
    refine x_iload_n (pc := 25) cx (dA ddL0 (i := 15) rfl) rfl ?_
    refine x_iload_n (pc := 26) cx (dA ddL0 (i := 16) rfl) rfl ?_
    refine x_icmp_ge (pc := 27) (tgt := 62) cx (dA ddL0 (i := 17) rfl) (by decide) (fun c27 => ?_) (fun c27 => ?_)
    · have c27 := cleT (by omega) (by omega) c27
      refine x_aload_n (pc := 62) cx (dA ddL0 (i := 35) rfl) rfl ?_
      refine x_S1 (pc := 63) mL_174 (c_L_refusals hRC) cx (dA ddL0 (i := 36) rfl) (kK fun G V col hRC => ?_) (hk := by omega) (hn := by omega)
      refine x_istore_n (pc := 66) cx (dA ddL0 (i := 37) rfl) (by decide) rfl ?_
      refine x_aload_n (pc := 67) cx (dA ddL0 (i := 38) rfl) rfl ?_
      refine x_iconst (pc := 68) (v := -1) cx (dA ddL0 (i := 39) rfl) (by decide) ?_
      refine x_iconst (pc := 69) (v := nI 0) cx (dA ddL1 (i := 0) rfl) (by decide) ?_
      refine x_V2 (pc := 70) mL_59 hRC.1.1 (c_X7_houseOf hRC) cx (dA ddL1 (i := 1) rfl) (kCe bad_houseOf fun G V col hRC => ?_) (hk := by omega) (hn := by omega)
      refine x_bipush (pc := 73) (v := -2) cx (dA ddL1 (i := 2) rfl) (by decide) ?_
      refine x_icmp_ne (pc := 75) (tgt := 100) cx (dA ddL1 (i := 3) rfl) (by decide) (fun c75 => absurd rfl c75) (fun c75 => ?_)
      refine x_aload_n (pc := 78) cx (dA ddL1 (i := 4) rfl) rfl ?_
      refine x_bipush (pc := 79) (v := nI 6) cx (dA ddL1 (i := 5) rfl) (by decide) ?_
      refine x_iconst (pc := 81) (v := nI 0) cx (dA ddL1 (i := 6) rfl) (by decide) ?_
      have h6 : (refX S 0).1.1 ≤ 6 := hRC.2.2.2.2.1.2.1
      refine x_V2 (pc := 82) mL_141 hRC.1.1 (c_X7_fill hRC) cx (dA ddL1 (i := 7) rfl) (kCe (bad_fill h6) fun G V col hRC => ?_) (hk := by omega) (hn := by omega)
      refine x_bipush (pc := 85) (v := -2) cx (dA ddL1 (i := 8) rfl) (by decide) ?_
      refine x_icmp_ne (pc := 87) (tgt := 100) cx (dA ddL1 (i := 9) rfl) (by decide) (fun c87 => absurd rfl c87) (fun c87 => ?_)
      refine x_aload_n (pc := 90) cx (dA ddL1 (i := 10) rfl) rfl ?_
      refine x_S1 (pc := 91) mL_174 (c_L_refusals hRC) cx (dA ddL1 (i := 11) rfl) (kK fun G V col hRC => ?_) (hk := by omega) (hn := by omega)
      refine x_iload_n (pc := 94) cx (dA ddL1 (i := 12) rfl) rfl ?_
      refine x_iconst (pc := 95) (v := nI 2) cx (dA ddL1 (i := 13) rfl) (by decide) ?_
      refine x_iadd (pc := 96) cx (dA ddL1 (i := 14) rfl) ?_
      refine x_icmp_eq (pc := 97) (tgt := 102) cx (dA ddL1 (i := 15) rfl) (by decide) (fun c97 => ?_) (fun c97 => absurd rf2 c97)
      refine x_iconst (pc := 102) (v := nI 0) cx (dA ddL1 (i := 18) rfl) (by decide) ?_
      refine x_istore (pc := 103) cx (dA ddL1 (i := 19) rfl) (by decide) rfl ?_
      have L105 : ∀ u, u ≤ 2 → ∀ G V col S, RC Z G V x col S → lwI S → Wm Z X 5 G V 1000 100000 Q 105 [(0, some (.ref (scB Z))), (1, some (.ref x)), (4, some (.int (nI u)))] [] := by
        refine lpU 2 (fun u hu ihu => ?_)
        intro G V col S hRC hI
        refine x_iload (pc := 105) cx (dA ddL1 (i := 20) rfl) rfl ?_
        refine x_aload_n (pc := 107) cx (dA ddL1 (i := 21) rfl) rfl ?_
        refine x_iconst (pc := 108) (v := nI 0) cx (dA ddL1 (i := 22) rfl) (by decide) ?_
        refine x_V1 (pc := 109) mL_69 hRC.1.1 (c_X7_status hRC) cx (dA ddL1 (i := 23) rfl) (kCe e_status0 fun G V col hRC => ?_) (hk := by omega) (hn := by omega)
        have h6 : S.1.1 ≤ 6 := hRC.2.2.2.2.1.2.1
        refine x_icmp_ge (pc := 112) (tgt := 149) cx (dA ddL1 (i := 24) rfl) (by decide) (fun c112 => ?_) (fun c112 => ?_)
        · have c112 := cleT (by omega) (by omega) c112
          refine x_iconst (pc := 149) (v := nI 1) cx (dA ddL2 (i := 3) rfl) (by decide) ?_
          exact fin _ _ _ _ _ (by omega) (by omega)
        · have c112 := cleF (by omega) (by omega) c112
          refine x_iload (pc := 115) cx (dA ddL1 (i := 25) rfl) rfl ?_
          refine x_iconst (pc := 117) (v := nI 2) cx (dA ddL1 (i := 26) rfl) (by decide) ?_
          refine x_icmp_ge (pc := 118) (tgt := 149) cx (dA ddL1 (i := 27) rfl) (by decide) (fun c118 => ?_) (fun c118 => ?_)
          · have c118 := cleT (by omega) (by omega) c118
            refine x_iconst (pc := 149) (v := nI 1) cx (dA ddL2 (i := 3) rfl) (by decide) ?_
            exact fin _ _ _ _ _ (by omega) (by omega)
          · have c118 := cleF (by omega) (by omega) c118
            refine x_aload_n (pc := 121) cx (dA ddL1 (i := 28) rfl) rfl ?_
            refine x_iload (pc := 122) cx (dA ddL1 (i := 29) rfl) rfl ?_
            refine x_aload_n (pc := 124) cx (dA ddL1 (i := 30) rfl) rfl ?_
            refine x_iload (pc := 125) cx (dA ddL1 (i := 31) rfl) rfl ?_
            refine x_S2 (pc := 127) mL_24 c_L_cell cx (dA ddL1 (i := 32) rfl) (kY fun v => ?_) (hk := by omega) (hn := by omega)
            refine x_iconst (pc := 130) (v := nI 3) cx (dA ddL1 (i := 33) rfl) (by decide) ?_
            refine x_ishr (pc := 131) cx (dA ddL1 (i := 34) rfl) ?_
            refine x_bipush (pc := 132) (v := nI 127) cx (dA ddL1 (i := 35) rfl) (by decide) ?_
            refine x_iand (pc := 134) cx (dA ddL1 (i := 36) rfl) ?_
            obtain ⟨p, hp, ep⟩ := pk_andE (v >>> (nI 3 &&& 31)) (m := nI 127) 7 (by decide)
            rw [ep]
            refine x_S3 (pc := 135) mL_178 (c_L_holds hRC (hRC.hs hI c112) hI hp) cx (dA ddL1 (i := 37) rfl) (kP fun G V col S1 hRC hR => ?_) (hk := by omega) (hn := by omega)
            refine x_if_ne (pc := 138) (tgt := 143) cx (dA ddL1 (i := 38) rfl) (by decide) (fun c138 => ?_) (fun c138 => absurd c138 (by decide))
            refine x_iinc (pc := 143) cx (dA ddL2 (i := 1) rfl) rfl (iinc1 _) (by decide) rfl ?_
            refine x_goto (pc := 146) (tgt := 105) cx (dA ddL2 (i := 2) rfl) (by decide) ?_
            exact x_widen (by omega) (by omega) (x_enter (ihu (by omega) _ _ _ _ hRC hR.1) ⟨.inr rfl, .inr rfl, .inr rfl, trivial⟩)
      exact x_widen (by omega) (by omega) (x_enter (L105 0 (Nat.zero_le _) _ _ _ _ hRC hT.2) ⟨.inr rfl, .inr rfl, .inr rfl, trivial⟩)
    · have c27 := cleF (by omega) (by omega) c27
      refine x_aload_n (pc := 30) cx (dA ddL0 (i := 18) rfl) rfl ?_
      refine x_aload_n (pc := 31) cx (dA ddL0 (i := 19) rfl) rfl ?_
      refine x_iload_n (pc := 32) cx (dA ddL0 (i := 20) rfl) rfl ?_
      refine x_S3 (pc := 33) mL_170 (c_L_act hRC hDr hvl hv4 hT) cx (dA ddL0 (i := 21) rfl) (kN fun G V col S hRC hT => ?_) (hk := by omega) (hn := by omega)
      refine x_aload_n (pc := 36) cx (dA ddL0 (i := 22) rfl) rfl ?_
      refine x_iconst (pc := 37) (v := nI 1) cx (dA ddL0 (i := 23) rfl) (by decide) ?_
      refine x_V1 (pc := 38) mL_69 hRC.1.1 (c_X7_status hRC) cx (dA ddL0 (i := 24) rfl) (kCe e_status1 fun G V col hRC => ?_) (hk := by omega) (hn := by omega)
      rw [hT.1]
      refine x_if_ne (pc := 41) (tgt := 54) cx (dA ddL0 (i := 25) rfl) (by decide) (fun c41 => absurd (show nI 0 = 0 from rfl) c41) (fun c41 => ?_)
      refine x_aload_n (pc := 44) cx (dA ddL0 (i := 26) rfl) rfl ?_
      refine x_iconst (pc := 45) (v := nI 0) cx (dA ddL0 (i := 27) rfl) (by decide) ?_
      refine x_V1 (pc := 46) mL_69 hRC.1.1 (c_X7_status hRC) cx (dA ddL0 (i := 28) rfl) (kCe e_status0 fun G V col hRC => ?_) (hk := by omega) (hn := by omega)
      refine x_bipush (pc := 49) (v := nI 6) cx (dA ddL0 (i := 29) rfl) (by decide) ?_
      have h6 : S.1.1 ≤ 6 := hRC.2.2.2.2.1.2.1
      refine x_icmp_le (pc := 51) (tgt := 56) cx (dA ddL0 (i := 30) rfl) (by decide) (fun c51 => ?_) (fun c51 => absurd (qI_le h6 (by omega)) c51)
      refine x_iinc (pc := 56) cx (dA ddL0 (i := 33) rfl) rfl (iinc1 _) (by decide) rfl ?_
      refine x_goto (pc := 59) (tgt := 25) cx (dA ddL0 (i := 34) rfl) (by decide) ?_
      exact x_widen (by omega) (by omega) (x_enter (ih (by omega) _ _ _ _ hRC hT) ⟨.inr rfl, .inr rfl, .inr rfl, .inr rfl, trivial⟩)
  exact L25 0 (Nat.zero_le _) _ _ _ _ hRC hT
set_option maxHeartbeats 4000000 in
theorem law_run {Z : zP} {X : xP} {nm : String} {Q : State → Prop} (cx : Cx Z X RL nm code 5 ret 14 600000 7302250) (fin : ∀ G V k n lw, k ≤ 600000 → n ≤ 7302250 → Wm Z X 5 G V k n Q 150 lw [.int (nI 1)]) : Wm Z X 5 (G0 Z.1) V0 0 0 Q 0 [(0, some (.ref (scB Z)))] [] := by
  obtain ⟨x, ex⟩ : ∃ x, Z.1 = x := ⟨_, rfl⟩
  have hK : isK Z (nG (G0 Z.1) 7 0) Z.1 7 := isK_at (G := G0 Z.1) (Nat.le_refl _)
  have hL := cx.amb.2.2.2.2.2
  refine nL_18 (pc := 0) cx (dA ddL0 (i := 0) rfl) ?_
  refine x_dup (pc := 3) cx rfl (dA ddL0 (i := 1) rfl) ?_
  refine x_I0 (pc := 4) mL_169 (d_X7_init hK rfl) cx (dA ddL0 (i := 2) rfl) (kVg fun G1 V1 h1 => ?_)
  obtain ⟨t1, s1, hQ, rfl, n1⟩ := h1
  rw [show (G0 Z.1).1 = x from ex]
  rw [ex] at t1 s1 hQ n1
  have t1 : G1.1 = x + 142 := t1
  have hQ : STBAt Z G1 x := hQ
  have hN : gN (G0 x) G1 (fun a => a = x + 2 ∨ a = x + 19 ∨ a = x + 40) := n1
  have r1 := RC.zero hQ t1 hN
  refine x_astore_n (pc := 7) cx (dA ddL0 (i := 3) rfl) (by decide) rfl ?_
  refine x_aload_n (pc := 8) cx (dA ddL0 (i := 4) rfl) rfl ?_
  refine x_slen (pc := 9) cx (dA ddL0 (i := 5) rfl) ?_
  refine x_bipush (pc := 10) (v := nI 60) cx (dA ddL0 (i := 6) rfl) (by decide) ?_
  refine x_icmp_ge (pc := 12) (tgt := 20) cx (dA ddL0 (i := 7) rfl) (by decide) (fun c12 => ?_) (fun c12 => ?_)
  · have c12 := cleT (by omega) (by omega) c12
    refine x_bipush (pc := 20) (v := nI 60) cx (dA ddL0 (i := 11) rfl) (by decide) ?_
    refine x_istore_n (pc := 22) cx (dA ddL0 (i := 12) rfl) (by decide) rfl ?_
    refine x_iconst (pc := 23) (v := nI 0) cx (dA ddL0 (i := 13) rfl) (by decide) ?_
    refine x_istore_n (pc := 24) cx (dA ddL0 (i := 14) rfl) (by decide) rfl ?_
    exact x_widen (by omega) (by omega) (x_enter (law_acts cx fin (D := drw) (vl := dvl) (fun _ => rfl) (fun _ => rfl) (fun d => Nat.mod_lt _ (by decide)) (A := 60) (by omega) r1 lwT_0) ⟨.inr rfl, .inr rfl, .inr rfl, .inr rfl, trivial⟩)
  · have c12 := cleF (by omega) (by omega) c12
    refine x_aload_n (pc := 15) cx (dA ddL0 (i := 8) rfl) rfl ?_
    refine x_slen (pc := 16) cx (dA ddL0 (i := 9) rfl) ?_
    refine x_goto (pc := 17) (tgt := 22) cx (dA ddL0 (i := 10) rfl) (by decide) ?_
    refine x_istore_n (pc := 22) cx (dA ddL0 (i := 12) rfl) (by decide) rfl ?_
    refine x_iconst (pc := 23) (v := nI 0) cx (dA ddL0 (i := 13) rfl) (by decide) ?_
    refine x_istore_n (pc := 24) cx (dA ddL0 (i := 14) rfl) (by decide) rfl ?_
    exact x_widen (by omega) (by omega) (x_enter (law_acts cx fin (D := drw) (vl := dvl) (fun _ => rfl) (fun _ => rfl) (fun d => Nat.mod_lt _ (by decide)) (A := scL Z) (by omega) r1 lwT_0) ⟨.inr rfl, .inr rfl, .inr rfl, .inr rfl, trivial⟩)
theorem whole_start {p : Program} {e : Env} {s : State} {m : MethodId} {below : List Frame} {meth : Method} {c : Code} (l : Launch) (hflags : l.flags = flags0) {b L : Nat} {xs : Nat → Int32} (hL : L ≤ 260) (C0 : lw_At p s m meth c b L xs) : W p l e room_1 s m #[Value.ref b] below meth c s.heap [] 0 0 (lw_Z below #[Value.ref b] s) (entryFrame m ([Value.ref b] : List Value).toArray 5) := by
  obtain ⟨Z, z1, z2, zb, zl, hA⟩ := st_amb hL C0
  obtain ⟨hx, hb, hr, hml, hown, hts, hX, hbl, hlocks, -⟩ := id C0
  have cx : Cx Z (p, l, e, room_1, s, m, #[Value.ref b], below, meth, c) RL meth.name code 5 ret 14 600000 7302250 := ⟨hx, hb, hml, hown, fun w h => hts w (WA_tbl h), hA, hlocks, hr, rfl, Nat.le_refl _, Nat.le_of_ble_eq_true rfl, Nat.le_refl _, Nat.le_refl _, Nat.le_of_eq z1⟩
  have fin : ∀ (G : zG) (V : zV) (k n : Nat) (lw : List (Nat × Option Value)), k ≤ 600000 → n ≤ 7302250 → Wm Z (p, l, e, room_1, s, m, #[Value.ref b], below, meth, c) 5 G V k n (lw_Z below #[Value.ref b] s) 150 lw [.int (nI 1)] := fun G V k n lw hk hn H locs ls hM hS hl => va_forget (fun q hq => by have := hS.2.2 q hq; rw [z1] at this; exact this) (W.widen hk hn (lw_ret hx hb hr hlocks (dA ddL2 (i := 4) rfl)))
  have main := law_run cx fin
  rw [zb] at main
  have hl := lv_entry ([.ref b]) (n := 5) (Nat.le_of_ble_eq_true rfl)
  rw [lg_entry_eq]
  generalize (lg_sl ([.ref b]) ++ List.replicate (5 - (lg_sl ([.ref b])).length) Slot.unset).toArray = ls at hl ⊢
  have hl : lv_has ls 5 [(0, .ref b)] := hl
  refine main s.heap [] ls (MemOK.zero z1 z2) va_S.rf ⟨hl.1, hl.2.1, fun i v hv => ?_⟩
  rcases lk_cons hv with ⟨h1, h2⟩ | ⟨-, h2⟩
  · cases h2
    have h1 : 0 = i := h1
    subst h1
    exact hl.2.2 (0, .ref b) List.mem_cons_self
  · cases h2
