theorem cmp6 {j L : Nat} (hL : L ≤ 3072) (hj : j ≤ L / 6) : (nI L - nI 6 < nI (6 * j)) ↔ L < 6 * j + 6 := by
  rw [i32_lt, nI_toInt (show 6 * j < 2 ^ 31 by omega)]
  by_cases h : 6 ≤ L
  · rw [pk_sub h, nI_toInt (by omega)]
    omega
  · have hj0 : j = 0 := by omega
    subst hj0
    rcases (show L = 0 ∨ L = 1 ∨ L = 2 ∨ L = 3 ∨ L = 4 ∨ L = 5 by omega) with e | e | e | e | e | e <;> subst e <;> decide
set_option maxHeartbeats 4000000 in
theorem law_loop {Z : zP} {X : xP} {nm : String} {b L : Nat} {xs : Nat → Int32} {Q : State → Prop} {x y : Nat} {D : Int32 → Int32} {vl : Int32 → Nat} (hDr : ∀ d, drw d = D d) (hvl : ∀ d, dvl d = vl d) (hv4 : ∀ d, vl d < 4) (cx : Cx Z X RL nm code 4 ret 12 269366 8294152) (hX : scOK Z X b L xs) (fin : ∀ G V k n lw, k ≤ 269366 → n ≤ 8294152 → Wm Z X 4 G V k n Q 1957 lw [.int 1]) : ∀ j, j ≤ L / 6 → ∀ G V, LI Z G V x y → Wm Z X 4 G V (400 + 100 * j) (60000 + 8900 * j) Q 18 [(0, some (.ref b)), (1, some (.ref x)), (2, some (.ref y)), (3, some (.int (nI (6 * j))))] [] := by
  refine lpU (L / 6) (fun j hj6 ih => ?_)
  intro G V hI
  have hL := hX.2.2.2
  refine x_iload_n (pc := 18) cx (dA ddL0 (i := 10) rfl) rfl ?_
  refine x_aload_n (pc := 19) cx (dA ddL0 (i := 11) rfl) rfl ?_
  refine x_slen (pc := 20) cx hX (dA ddL0 (i := 12) rfl) ?_
  refine x_bipush (v := nI 6) (pc := 21) cx (dA ddL0 (i := 13) rfl) (by decide) ?_
  refine x_isub (pc := 23) cx (dA ddL0 (i := 14) rfl) ?_
  refine x_icmp_gt (pc := 24) (tgt := 1956) cx (dA ddL0 (i := 15) rfl) (by decide) (fun c => ?_) (fun c => ?_)
  · refine x_iconst (v := 1) (pc := 1956) cx (dA ddL36 (i := 10) rfl) (by decide) ?_
    exact fin _ _ _ _ _ (by omega) (by omega)
  · have hj : 6 * j + 6 ≤ L := by
      have : ¬ L < 6 * j + 6 := fun q => c ((cmp6 hL hj6).mpr q)
      omega
    have K : ∀ G' V', LI Z G' V' x y → Wm Z X 4 G' V' (400 + 100 * j + 100) (60000 + 8900 * j + 8900) Q 1950 [(0, some (.ref b)), (1, some (.ref x)), (2, some (.ref y)), (3, some (.int (nI (6 * j))))] [] := by
      intro G' V' hI'
      refine x_iinc (pc := 1950) cx (dA ddL36 (i := 8) rfl) rfl (iinc6 _) (by decide) rfl ?_
      refine x_goto (pc := 1953) (tgt := 18) cx (dA ddL36 (i := 9) rfl) (by decide) ?_
      have L2 := ih (by omega) G' V' hI'
      rw [show 6 * (j + 1) = 6 * j + 6 by omega] at L2
      exact x_widen (by omega) (by omega) (x_enter L2 ⟨.inr rfl, .inr rfl, .inr rfl, .inr rfl, trivial⟩)
    refine x_aload_n (pc := 27) cx (dA ddL0 (i := 16) rfl) rfl ?_
    refine x_iload_n (pc := 28) cx (dA ddL0 (i := 17) rfl) rfl ?_
    refine x_sld (pc := 29) cx hX (by omega) (dA ddL0 (i := 18) rfl) ?_
    refine x_bipush (v := nI 63) (pc := 30) cx (dA ddL0 (i := 19) rfl) (by decide) ?_
    refine x_iand (pc := 32) cx (dA ddL0 (i := 20) rfl) ?_
    by_cases hv : 0 ≤ (xs (6 * j) &&& nI 63).toInt ∧ (xs (6 * j) &&& nI 63).toInt < 47
    · obtain ⟨q, hq, ev, -⟩ := i32_in (n := 47) ⟨hv.1, by have := hv.2; omega⟩
      rw [ev]
      match q, hq with
      | 0, _ => exact x_tabIn (pc := 33) (v := 0) (tgt := 236) cx (dA ddL0 (i := 21) rfl) (by decide) (by decide) (by decide) rfl (by decide) (lc_row hDr hvl hv4 cx hX (by omega) (by omega) (by omega) hI K)
      | 1, _ => exact x_tabIn (pc := 33) (v := 1) (tgt := 279) cx (dA ddL0 (i := 21) rfl) (by decide) (by decide) (by decide) rfl (by decide) (lc_set hDr hvl hv4 cx hX (by omega) (by omega) (by omega) hI K)
      | 2, _ => exact x_tabIn (pc := 33) (v := 2) (tgt := 352) cx (dA ddL0 (i := 21) rfl) (by decide) (by decide) (by decide) rfl (by decide) (lc_copy hDr hvl hv4 cx hX (by omega) (by omega) (by omega) hI K)
      | 3, _ => exact x_tabIn (pc := 33) (v := 3) (tgt := 415) cx (dA ddL0 (i := 21) rfl) (by decide) (by decide) (by decide) rfl (by decide) (lc_element hDr hvl hv4 cx hX (by omega) (by omega) (by omega) hI K)
      | 4, _ => exact x_tabIn (pc := 33) (v := 4) (tgt := 449) cx (dA ddL0 (i := 21) rfl) (by decide) (by decide) (by decide) rfl (by decide) (lc_holds hDr hvl hv4 cx hX (by omega) (by omega) (by omega) hI K)
      | 5, _ => exact x_tabIn (pc := 33) (v := 5) (tgt := 472) cx (dA ddL0 (i := 21) rfl) (by decide) (by decide) (by decide) rfl (by decide) (lc_rule hDr hvl hv4 cx hX (by omega) (by omega) (by omega) hI K)
      | 6, _ => exact x_tabIn (pc := 33) (v := 6) (tgt := 515) cx (dA ddL0 (i := 21) rfl) (by decide) (by decide) (by decide) rfl (by decide) (lc_says hDr hvl hv4 cx hX (by omega) (by omega) (by omega) hI K)
      | 7, _ => exact x_tabIn (pc := 33) (v := 7) (tgt := 548) cx (dA ddL0 (i := 21) rfl) (by decide) (by decide) (by decide) rfl (by decide) (lc_feed hDr hvl hv4 cx hX (by omega) (by omega) (by omega) hI K)
      | 8, _ => exact x_tabIn (pc := 33) (v := 8) (tgt := 581) cx (dA ddL0 (i := 21) rfl) (by decide) (by decide) (by decide) rfl (by decide) (lc_wipe hDr hvl hv4 cx hX (by omega) (by omega) (by omega) hI K)
      | 9, _ => exact x_tabIn (pc := 33) (v := 9) (tgt := 594) cx (dA ddL0 (i := 21) rfl) (by decide) (by decide) (by decide) rfl (by decide) (lc_house hDr hvl hv4 cx hX (by omega) (by omega) (by omega) hI K)
      | 10, _ => exact x_tabIn (pc := 33) (v := 10) (tgt := 607) cx (dA ddL0 (i := 21) rfl) (by decide) (by decide) (by decide) rfl (by decide) (lc_houseOf hDr hvl hv4 cx hX (by omega) (by omega) (by omega) hI K)
      | 11, _ => exact x_tabIn (pc := 33) (v := 11) (tgt := 640) cx (dA ddL0 (i := 21) rfl) (by decide) (by decide) (by decide) rfl (by decide) (lc_sortOf hDr hvl hv4 cx hX (by omega) (by omega) (by omega) hI K)
      | 12, _ => exact x_tabIn (pc := 33) (v := 12) (tgt := 683) cx (dA ddL0 (i := 21) rfl) (by decide) (by decide) (by decide) rfl (by decide) (lc_alter hDr hvl hv4 cx hX (by omega) (by omega) (by omega) hI K)
      | 13, _ => exact x_tabIn (pc := 33) (v := 13) (tgt := 726) cx (dA ddL0 (i := 21) rfl) (by decide) (by decide) (by decide) rfl (by decide) (lc_change hDr hvl hv4 cx hX (by omega) (by omega) (by omega) hI K)
      | 14, _ => exact x_tabIn (pc := 33) (v := 14) (tgt := 779) cx (dA ddL0 (i := 21) rfl) (by decide) (by decide) (by decide) rfl (by decide) (lc_of hDr hvl hv4 cx hX (by omega) (by omega) (by omega) hI K)
      | 15, _ => exact x_tabIn (pc := 33) (v := 15) (tgt := 812) cx (dA ddL0 (i := 21) rfl) (by decide) (by decide) (by decide) rfl (by decide) (lc_space hDr hvl hv4 cx hX (by omega) (by omega) (by omega) hI K)
      | 16, _ => exact x_tabIn (pc := 33) (v := 16) (tgt := 845) cx (dA ddL0 (i := 21) rfl) (by decide) (by decide) (by decide) rfl (by decide) (lc_scale hDr hvl hv4 cx hX (by omega) (by omega) (by omega) hI K)
      | 17, _ => exact x_tabIn (pc := 33) (v := 17) (tgt := 879) cx (dA ddL0 (i := 21) rfl) (by decide) (by decide) (by decide) rfl (by decide) (lc_cost hDr hvl hv4 cx hX (by omega) (by omega) (by omega) hI K)
      | 18, _ => exact x_tabIn (pc := 33) (v := 18) (tgt := 923) cx (dA ddL0 (i := 21) rfl) (by decide) (by decide) (by decide) rfl (by decide) (lc_best hDr hvl hv4 cx hX (by omega) (by omega) (by omega) hI K)
      | 19, _ => exact x_tabIn (pc := 33) (v := 19) (tgt := 966) cx (dA ddL0 (i := 21) rfl) (by decide) (by decide) (by decide) rfl (by decide) (lc_fill hDr hvl hv4 cx hX (by omega) (by omega) (by omega) hI K)
      | 20, _ => exact x_tabIn (pc := 33) (v := 20) (tgt := 999) cx (dA ddL0 (i := 21) rfl) (by decide) (by decide) (by decide) rfl (by decide) (lc_load hDr hvl hv4 cx hX (by omega) (by omega) (by omega) hI K)
      | 21, _ => exact x_tabIn (pc := 33) (v := 21) (tgt := 1052) cx (dA ddL0 (i := 21) rfl) (by decide) (by decide) (by decide) rfl (by decide) (lc_mean hDr hvl hv4 cx hX (by omega) (by omega) (by omega) hI K)
      | 22, _ => exact x_tabIn (pc := 33) (v := 22) (tgt := 1106) cx (dA ddL0 (i := 21) rfl) (by decide) (by decide) (by decide) rfl (by decide) (lc_lose hDr hvl hv4 cx hX (by omega) (by omega) (by omega) hI K)
      | 23, _ => exact x_tabIn (pc := 33) (v := 23) (tgt := 1160) cx (dA ddL0 (i := 21) rfl) (by decide) (by decide) (by decide) rfl (by decide) (lc_boy hDr hvl hv4 cx hX (by omega) (by omega) (by omega) hI K)
      | 24, _ => exact x_tabIn (pc := 33) (v := 24) (tgt := 1183) cx (dA ddL0 (i := 21) rfl) (by decide) (by decide) (by decide) rfl (by decide) (lc_waits hDr hvl hv4 cx hX (by omega) (by omega) (by omega) hI K)
      | 25, _ => exact x_tabIn (pc := 33) (v := 25) (tgt := 1227) cx (dA ddL0 (i := 21) rfl) (by decide) (by decide) (by decide) rfl (by decide) (lc_once hDr hvl hv4 cx hX (by omega) (by omega) (by omega) hI K)
      | 26, _ => exact x_tabIn (pc := 33) (v := 26) (tgt := 1271) cx (dA ddL0 (i := 21) rfl) (by decide) (by decide) (by decide) rfl (by decide) (lc_dear hDr hvl hv4 cx hX (by omega) (by omega) (by omega) hI K)
      | 27, _ => exact x_tabIn (pc := 33) (v := 27) (tgt := 1325) cx (dA ddL0 (i := 21) rfl) (by decide) (by decide) (by decide) rfl (by decide) (lc_chance hDr hvl hv4 cx hX (by omega) (by omega) (by omega) hI K)
      | 28, _ => exact x_tabIn (pc := 33) (v := 28) (tgt := 1379) cx (dA ddL0 (i := 21) rfl) (by decide) (by decide) (by decide) rfl (by decide) (lc_reach hDr hvl hv4 cx hX (by omega) (by omega) (by omega) hI K)
      | 29, _ => exact x_tabIn (pc := 33) (v := 29) (tgt := 1422) cx (dA ddL0 (i := 21) rfl) (by decide) (by decide) (by decide) rfl (by decide) (lc_held hDr hvl hv4 cx hX (by omega) (by omega) (by omega) hI K)
      | 30, _ => exact x_tabIn (pc := 33) (v := 30) (tgt := 1466) cx (dA ddL0 (i := 21) rfl) (by decide) (by decide) (by decide) rfl (by decide) (lc_boxes hDr hvl hv4 cx hX (by omega) (by omega) (by omega) hI K)
      | 31, _ => exact x_tabIn (pc := 33) (v := 31) (tgt := 1500) cx (dA ddL0 (i := 21) rfl) (by decide) (by decide) (by decide) rfl (by decide) (lc_plain hDr hvl hv4 cx hX (by omega) (by omega) (by omega) hI K)
      | 32, _ => exact x_tabIn (pc := 33) (v := 32) (tgt := 1523) cx (dA ddL0 (i := 21) rfl) (by decide) (by decide) (by decide) rfl (by decide) (lc_every hDr hvl hv4 cx hX (by omega) (by omega) (by omega) hI K)
      | 33, _ => exact x_tabIn (pc := 33) (v := 33) (tgt := 1546) cx (dA ddL0 (i := 21) rfl) (by decide) (by decide) (by decide) rfl (by decide) (lc_promise hDr hvl hv4 cx hX (by omega) (by omega) (by omega) hI K)
      | 34, _ => exact x_tabIn (pc := 33) (v := 34) (tgt := 1580) cx (dA ddL0 (i := 21) rfl) (by decide) (by decide) (by decide) rfl (by decide) (lc_shape hDr hvl hv4 cx hX (by omega) (by omega) (by omega) hI K)
      | 35, _ => exact x_tabIn (pc := 33) (v := 35) (tgt := 1613) cx (dA ddL0 (i := 21) rfl) (by decide) (by decide) (by decide) rfl (by decide) (lc_odd hDr hvl hv4 cx hX (by omega) (by omega) (by omega) hI K)
      | 36, _ => exact x_tabIn (pc := 33) (v := 36) (tgt := 1646) cx (dA ddL0 (i := 21) rfl) (by decide) (by decide) (by decide) rfl (by decide) (lc_judge hDr hvl hv4 cx hX (by omega) (by omega) (by omega) hI K)
      | 37, _ => exact x_tabIn (pc := 33) (v := 37) (tgt := 1689) cx (dA ddL0 (i := 21) rfl) (by decide) (by decide) (by decide) rfl (by decide) (lc_join hDr hvl hv4 cx hX (by omega) (by omega) (by omega) hI K)
      | 38, _ => exact x_tabIn (pc := 33) (v := 38) (tgt := 1722) cx (dA ddL0 (i := 21) rfl) (by decide) (by decide) (by decide) rfl (by decide) (lc_saved hDr hvl hv4 cx hX (by omega) (by omega) (by omega) hI K)
      | 39, _ => exact x_tabIn (pc := 33) (v := 39) (tgt := 1756) cx (dA ddL0 (i := 21) rfl) (by decide) (by decide) (by decide) rfl (by decide) (lc_seed hDr hvl hv4 cx hX (by omega) (by omega) (by omega) hI K)
      | 40, _ => exact x_tabIn (pc := 33) (v := 40) (tgt := 1779) cx (dA ddL0 (i := 21) rfl) (by decide) (by decide) (by decide) rfl (by decide) (lc_begin hDr hvl hv4 cx hX (by omega) (by omega) (by omega) hI K)
      | 41, _ => exact x_tabIn (pc := 33) (v := 41) (tgt := 1812) cx (dA ddL0 (i := 21) rfl) (by decide) (by decide) (by decide) rfl (by decide) (lc_step hDr hvl hv4 cx hX (by omega) (by omega) (by omega) hI K)
      | 42, _ => exact x_tabIn (pc := 33) (v := 42) (tgt := 1835) cx (dA ddL0 (i := 21) rfl) (by decide) (by decide) (by decide) rfl (by decide) (lc_week hDr hvl hv4 cx hX (by omega) (by omega) (by omega) hI K)
      | 43, _ => exact x_tabIn (pc := 33) (v := 43) (tgt := 1858) cx (dA ddL0 (i := 21) rfl) (by decide) (by decide) (by decide) rfl (by decide) (lc_weeks hDr hvl hv4 cx hX (by omega) (by omega) (by omega) hI K)
      | 44, _ => exact x_tabIn (pc := 33) (v := 44) (tgt := 1901) cx (dA ddL0 (i := 21) rfl) (by decide) (by decide) (by decide) rfl (by decide) (lc_image hDr hvl hv4 cx hX (by omega) (by omega) (by omega) hI K)
      | 45, _ => exact x_tabIn (pc := 33) (v := 45) (tgt := 1914) cx (dA ddL0 (i := 21) rfl) (by decide) (by decide) (by decide) rfl (by decide) (lc_back hDr hvl hv4 cx hX (by omega) (by omega) (by omega) hI K)
      | 46, _ => exact x_tabIn (pc := 33) (v := 46) (tgt := 1927) cx (dA ddL0 (i := 21) rfl) (by decide) (by decide) (by decide) rfl (by decide) (lc_status hDr hvl hv4 cx hX (by omega) (by omega) (by omega) hI K)
      | q + 47, h => exact absurd h (by omega)
    · exact x_tabOut (pc := 33) (tgt := 1950) cx (dA ddL0 (i := 21) rfl) (by omega) (by decide) (x_widen (by omega) (by omega) (K G V hI))
set_option maxHeartbeats 4000000 in
theorem law_run {Z : zP} {X : xP} {nm : String} {b L : Nat} {xs : Nat → Int32} {Q : State → Prop} (cx : Cx Z X RL nm code 4 ret 12 269366 8294152) (hX : scOK Z X b L xs) (fin : ∀ G V k n lw, k ≤ 269366 → n ≤ 8294152 → Wm Z X 4 G V k n Q 1957 lw [.int 1]) : Wm Z X 4 (G0 Z.1) V0 0 0 Q 0 [(0, some (.ref b))] [] := by
  obtain ⟨x, ex⟩ : ∃ x, Z.1 = x := ⟨_, rfl⟩
  have hK : isK Z (nG (G0 Z.1) 7 0) Z.1 7 := isK_at (G := G0 Z.1) (Nat.le_refl _)
  refine nL_7 (pc := 0) cx (dA ddL0 (i := 0) rfl) ?_
  refine x_dup (pc := 3) cx rfl (dA ddL0 (i := 1) rfl) ?_
  refine x_I0 (pc := 4) mL_9 (d_X7_init hK rfl) cx (dA ddL0 (i := 2) rfl) (kVg fun G1 V1 h1 => ?_)
  obtain ⟨t1, s1, hQ, rfl, n1⟩ := h1
  rw [show (G0 Z.1).1 = x from ex]
  rw [ex] at t1 s1 hQ n1
  have t1 : G1.1 = x + 142 := t1
  have hQ : STBAt Z G1 x := hQ
  refine x_astore_n (pc := 7) cx (dA ddL0 (i := 3) rfl) (by decide) rfl ?_
  refine nL_10 (pc := 8) cx (dA ddL0 (i := 4) rfl) ?_
  rw [t1]
  refine x_dup (pc := 11) cx rfl (dA ddL0 (i := 5) rfl) ?_
  refine x_I0 (pc := 12) mL_12 (d_X8_init (y := x + 142) (isK_new (by omega) t1) (by show G1.1 + 1 = _; omega)) cx (dA ddL0 (i := 6) rfl) (kVg fun G3 V3 h3 => ?_)
  obtain ⟨t3, s3, hM, rfl, n3⟩ := h3
  refine x_astore_n (pc := 15) cx (dA ddL0 (i := 7) rfl) (by decide) rfl ?_
  refine x_iconst (v := nI 0) (pc := 16) cx (dA ddL0 (i := 8) rfl) (by decide) ?_
  refine x_istore_n (pc := 17) cx (dA ddL0 (i := 9) rfl) (by decide) rfl ?_
  have hN : gN (G0 x) G1 (fun a => a = x + 2 ∨ a = x + 19 ∨ a = x + 40) := n1
  have r1 := RC.zero hQ t1 hN
  have r2 : RC Z G3 (sI (sI (plN V0 x 6) 413 (x + 142) (nI 1)) 439 (x + 142) (-1)) x (fun a => if x ≤ a ∧ a < x + 142 then 1 else 0) S0 := r1.keep (by omega) fun a h1 _ => ⟨((sameG.refl G1 a).nG h1).trans (s3 a (by omega)), ((same4.refl _ a).sI (by omega)).sI (by omega)⟩
  have h4 : G3.2.2.1 421 (x + 142) = none := n3.trans (hN.1 _).2
  have hI : LI Z G3 (sI (sI (plN V0 x 6) 413 (x + 142) (nI 1)) 439 (x + 142) (-1)) x (x + 142) := ⟨_, none, S0, r2, RM.zero hM (by omega) rfl h4, fun a h1 h2 => if_neg (by omega), fun z hz => by cases hz⟩
  exact x_widen (by omega) (by omega) (x_enter (law_loop (D := drw) (vl := dvl) (fun _ => rfl) (fun _ => rfl) (fun d => Nat.mod_lt _ (by decide)) cx hX fin 0 (Nat.zero_le _) G3 _ hI) ⟨.inr rfl, .inr rfl, .inr rfl, .inr rfl, trivial⟩)
theorem whole_start {p : Program} {e : Env} {s : State} {m : MethodId} {below : List Frame} {meth : Method} {c : Code} (l : Launch) (hflags : l.flags = flags0) {b L : Nat} {xs : Nat → Int32} (hL : L ≤ 3072) (C0 : lw_At p s m meth c b L xs) : W p l e room_1 s m #[Value.ref b] below meth c s.heap [] 0 0 (lw_Z below #[Value.ref b] s) (entryFrame m ([Value.ref b] : List Value).toArray 4) := by
  obtain ⟨Z, z1, z2, hA⟩ := st_amb C0
  obtain ⟨hx, hb, hr, hml, hown, hts, hX, hbl, hlocks, -⟩ := id C0
  have cx : Cx Z (p, l, e, room_1, s, m, #[Value.ref b], below, meth, c) RL meth.name code 4 ret 12 269366 8294152 := ⟨hx, hb, hml, hown, fun w h => hts w (WA_tbl h), hA, hlocks, hr, rfl, Nat.le_refl _, Nat.le_of_ble_eq_true rfl, Nat.le_refl _, Nat.le_refl _, Nat.le_of_eq z1⟩
  have hS : scOK Z (p, l, e, room_1, s, m, #[Value.ref b], below, meth, c) b L xs := ⟨hX, hbl, by rw [z1]; exact hbl, hL⟩
  have fin : ∀ (G : zG) (V : zV) (k n : Nat) (lw : List (Nat × Option Value)), k ≤ 269366 → n ≤ 8294152 → Wm Z (p, l, e, room_1, s, m, #[Value.ref b], below, meth, c) 4 G V k n (lw_Z below #[Value.ref b] s) 1957 lw [.int 1] := fun G V k n lw hk hn H locs ls hM hS hl => va_forget (fun q hq => by have := hS.2.2 q hq; rw [z1] at this; exact this) (W.widen hk hn (lw_ret hx hb hr hlocks (dA ddL36 (i := 11) rfl)))
  have main := law_run cx hS fin
  have hl := lv_entry ([.ref b]) (n := 4) (Nat.le_of_ble_eq_true rfl)
  rw [lg_entry_eq]
  generalize (lg_sl ([.ref b]) ++ List.replicate (4 - (lg_sl ([.ref b])).length) Slot.unset).toArray = ls at hl ⊢
  have hl : lv_has ls 4 [(0, .ref b)] := hl
  refine main s.heap [] ls (MemOK.zero z1 z2) va_S.rf ⟨hl.1, hl.2.1, fun i v hv => ?_⟩
  rcases lk_cons hv with ⟨h1, h2⟩ | ⟨-, h2⟩
  · cases h2
    have h1 : 0 = i := h1
    subst h1
    exact hl.2.2 (0, .ref b) List.mem_cons_self
  · cases h2
