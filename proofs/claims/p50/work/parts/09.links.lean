theorem wa {w : Cond} (h : w ∈ tables_1) (g : goodWord w = true) : w ∈ WA := WA_in (List.mem_append_right _ h) g
theorem wn {w : Cond} (h : w ∈ tables_1) (g : nestW w = true) : w ∈ WN := List.mem_filter.mpr ⟨h, g⟩
theorem tt1 {w : Cond} {j : Nat} (h : tables_1_1[j]? = some w) : w ∈ tables_1 := List.mem_append_left _ (List.mem_of_getElem? h)
theorem tt2 {w : Cond} {j : Nat} (h : tables_1_2[j]? = some w) : w ∈ tables_1 := List.mem_append_right _ (List.mem_append_left _ (List.mem_of_getElem? h))
theorem tt3 {w : Cond} {j : Nat} (h : tables_1_3[j]? = some w) : w ∈ tables_1 := List.mem_append_right _ (List.mem_append_right _ (List.mem_append_left _ (List.mem_of_getElem? h)))
theorem tt4 {w : Cond} {j : Nat} (h : tables_1_4[j]? = some w) : w ∈ tables_1 := List.mem_append_right _ (List.mem_append_right _ (List.mem_append_right _ (List.mem_of_getElem? h)))
theorem sel_in {q : MethodName × Nat} (h : q ∈ lw_privs) : Cond.selects q.1.cls q.1 q.1 ∈ WA := WA_in (List.mem_append_left _ (List.mem_map.mpr ⟨q, h, rfl⟩)) rfl
theorem sp1 {q : MethodName × Nat} {j : Nat} (h : lw_privs_1[j]? = some q) : q ∈ lw_privs := List.mem_append_left _ (List.mem_of_getElem? h)
theorem sp2 {q : MethodName × Nat} {j : Nat} (h : lw_privs_2[j]? = some q) : q ∈ lw_privs := List.mem_append_right _ (List.mem_append_left _ (List.mem_of_getElem? h))
theorem sp3 {q : MethodName × Nat} {j : Nat} (h : lw_privs_3[j]? = some q) : q ∈ lw_privs := List.mem_append_right _ (List.mem_append_right _ (List.mem_of_getElem? h))
theorem yi_RL : Cond.initialized RL ∈ WA := wa (tt1 (j := 0) rfl) rfl
theorem yi_RX7 : Cond.initialized RX7 ∈ WA := wa (tt1 (j := 1) rfl) rfl
theorem yi_RX6 : Cond.initialized RX6 ∈ WA := wa (tt1 (j := 2) rfl) rfl
theorem yi_RX5 : Cond.initialized RX5 ∈ WA := wa (tt1 (j := 3) rfl) rfl
theorem yi_RX0 : Cond.initialized RX0 ∈ WA := wa (tt1 (j := 4) rfl) rfl
theorem yi_RX4 : Cond.initialized RX4 ∈ WA := wa (tt1 (j := 5) rfl) rfl
theorem yi_RX1 : Cond.initialized RX1 ∈ WA := wa (tt1 (j := 6) rfl) rfl
theorem yi_RJ0 : Cond.initialized RJ0 ∈ WA := wa (tt1 (j := 7) rfl) rfl
theorem yi_RJ1 : Cond.initialized RJ1 ∈ WA := wa (tt1 (j := 8) rfl) rfl
theorem yi_RJ3 : Cond.initialized RJ3 ∈ WA := wa (tt1 (j := 9) rfl) rfl
theorem yi_RJ2 : Cond.initialized RJ2 ∈ WA := wa (tt1 (j := 10) rfl) rfl
theorem yi_RX2 : Cond.initialized RX2 ∈ WA := wa (tt1 (j := 11) rfl) rfl
theorem yi_RX3 : Cond.initialized RX3 ∈ WA := wa (tt1 (j := 12) rfl) rfl
theorem yi_RJ10 : Cond.initialized RJ10 ∈ WA := wa (tt1 (j := 13) rfl) rfl
theorem yi_RJ9 : Cond.initialized RJ9 ∈ WA := wa (tt1 (j := 14) rfl) rfl
theorem inX0 : ∀ w ∈ u_ws RX0 TX0 1, w ∈ WA := by
  intro w hw
  obtain ⟨k, hk, rfl⟩ := List.mem_map.mp hw
  have hk : k < 1 := List.mem_range.mp hk
  match k, hk with
  | 0, _ => exact wa (tt1 (j := 44) rfl) rfl
  | k + 1, hk => omega
theorem yn_X0 : Cond.instantiable RX0 1 ∈ WA := wa (tt1 (j := 38) rfl) rfl
theorem inX1 : ∀ w ∈ u_ws RX1 TX1 15, w ∈ WA := by
  intro w hw
  obtain ⟨k, hk, rfl⟩ := List.mem_map.mp hw
  have hk : k < 15 := List.mem_range.mp hk
  match k, hk with
  | 0, _ => exact wa (tt1 (j := 146) rfl) rfl
  | 1, _ => exact wa (tt1 (j := 148) rfl) rfl
  | 2, _ => exact wa (tt1 (j := 150) rfl) rfl
  | 3, _ => exact wa (tt1 (j := 152) rfl) rfl
  | 4, _ => exact wa (tt1 (j := 154) rfl) rfl
  | 5, _ => exact wa (tt1 (j := 156) rfl) rfl
  | 6, _ => exact wa (tt1 (j := 158) rfl) rfl
  | 7, _ => exact wa (tt1 (j := 160) rfl) rfl
  | 8, _ => exact wa (tt1 (j := 162) rfl) rfl
  | 9, _ => exact wa (tt1 (j := 164) rfl) rfl
  | 10, _ => exact wa (tt1 (j := 166) rfl) rfl
  | 11, _ => exact wa (tt1 (j := 168) rfl) rfl
  | 12, _ => exact wa (tt1 (j := 170) rfl) rfl
  | 13, _ => exact wa (tt1 (j := 172) rfl) rfl
  | 14, _ => exact wa (tt1 (j := 174) rfl) rfl
  | k + 15, hk => omega
theorem yn_X1 : Cond.instantiable RX1 15 ∈ WA := wa (tt1 (j := 122) rfl) rfl
theorem inX2 : ∀ w ∈ u_ws RX2 TX2 2, w ∈ WA := by
  intro w hw
  obtain ⟨k, hk, rfl⟩ := List.mem_map.mp hw
  have hk : k < 2 := List.mem_range.mp hk
  match k, hk with
  | 0, _ => exact wa (tt3 (j := 52) rfl) rfl
  | 1, _ => exact wa (tt3 (j := 54) rfl) rfl
  | k + 2, hk => omega
theorem yn_X2 : Cond.instantiable RX2 2 ∈ WA := wa (tt3 (j := 44) rfl) rfl
theorem inX3 : ∀ w ∈ u_ws RX3 TX3 4, w ∈ WA := by
  intro w hw
  obtain ⟨k, hk, rfl⟩ := List.mem_map.mp hw
  have hk : k < 4 := List.mem_range.mp hk
  match k, hk with
  | 0, _ => exact wa (tt3 (j := 118) rfl) rfl
  | 1, _ => exact wa (tt3 (j := 120) rfl) rfl
  | 2, _ => exact wa (tt3 (j := 122) rfl) rfl
  | 3, _ => exact wa (tt3 (j := 124) rfl) rfl
  | k + 4, hk => omega
theorem yn_X3 : Cond.instantiable RX3 4 ∈ WA := wa (tt3 (j := 90) rfl) rfl
theorem inX4 : ∀ w ∈ u_ws RX4 TX4 5, w ∈ WA := by
  intro w hw
  obtain ⟨k, hk, rfl⟩ := List.mem_map.mp hw
  have hk : k < 5 := List.mem_range.mp hk
  match k, hk with
  | 0, _ => exact wa (tt1 (j := 104) rfl) rfl
  | 1, _ => exact wa (tt1 (j := 106) rfl) rfl
  | 2, _ => exact wa (tt1 (j := 108) rfl) rfl
  | 3, _ => exact wa (tt1 (j := 110) rfl) rfl
  | 4, _ => exact wa (tt1 (j := 112) rfl) rfl
  | k + 5, hk => omega
theorem yn_X4 : Cond.instantiable RX4 5 ∈ WA := wa (tt1 (j := 93) rfl) rfl
theorem inX5 : ∀ w ∈ u_ws RX5 TX5 8, w ∈ WA := by
  intro w hw
  obtain ⟨k, hk, rfl⟩ := List.mem_map.mp hw
  have hk : k < 8 := List.mem_range.mp hk
  match k, hk with
  | 0, _ => exact wa (tt1 (j := 58) rfl) rfl
  | 1, _ => exact wa (tt1 (j := 60) rfl) rfl
  | 2, _ => exact wa (tt1 (j := 62) rfl) rfl
  | 3, _ => exact wa (tt1 (j := 64) rfl) rfl
  | 4, _ => exact wa (tt1 (j := 66) rfl) rfl
  | 5, _ => exact wa (tt1 (j := 68) rfl) rfl
  | 6, _ => exact wa (tt1 (j := 70) rfl) rfl
  | 7, _ => exact wa (tt1 (j := 72) rfl) rfl
  | k + 8, hk => omega
theorem yn_X5 : Cond.instantiable RX5 8 ∈ WA := wa (tt1 (j := 32) rfl) rfl
theorem inX6 : ∀ w ∈ u_ws RX6 TX6 4, w ∈ WA := by
  intro w hw
  obtain ⟨k, hk, rfl⟩ := List.mem_map.mp hw
  have hk : k < 4 := List.mem_range.mp hk
  match k, hk with
  | 0, _ => exact wa (tt1 (j := 83) rfl) rfl
  | 1, _ => exact wa (tt1 (j := 85) rfl) rfl
  | 2, _ => exact wa (tt1 (j := 87) rfl) rfl
  | 3, _ => exact wa (tt1 (j := 89) rfl) rfl
  | k + 4, hk => omega
theorem yn_X6 : Cond.instantiable RX6 4 ∈ WA := wa (tt1 (j := 24) rfl) rfl
theorem inX7 : ∀ w ∈ u_ws RX7 TX7 12, w ∈ WA := by
  intro w hw
  obtain ⟨k, hk, rfl⟩ := List.mem_map.mp hw
  have hk : k < 12 := List.mem_range.mp hk
  match k, hk with
  | 0, _ => exact wa (tt1 (j := 194) rfl) rfl
  | 1, _ => exact wa (tt1 (j := 196) rfl) rfl
  | 2, _ => exact wa (tt1 (j := 198) rfl) rfl
  | 3, _ => exact wa (tt1 (j := 200) rfl) rfl
  | 4, _ => exact wa (tt1 (j := 202) rfl) rfl
  | 5, _ => exact wa (tt1 (j := 204) rfl) rfl
  | 6, _ => exact wa (tt1 (j := 206) rfl) rfl
  | 7, _ => exact wa (tt1 (j := 208) rfl) rfl
  | 8, _ => exact wa (tt1 (j := 210) rfl) rfl
  | 9, _ => exact wa (tt1 (j := 212) rfl) rfl
  | 10, _ => exact wa (tt1 (j := 214) rfl) rfl
  | 11, _ => exact wa (tt1 (j := 216) rfl) rfl
  | k + 12, hk => omega
theorem yn_X7 : Cond.instantiable RX7 12 ∈ WA := wa (tt1 (j := 16) rfl) rfl
theorem yc_X7_init : Cond.code yX7_init cX7_init 2 none ∈ WA := wa (tt1 (j := 19) rfl) rfl
theorem yd_X7_init : yX7_init.cls ≠ "java/lang/invoke/MethodHandle" ∧ yX7_init.cls ≠ "java/lang/invoke/VarHandle" ∧ (parseMethodDescriptor yX7_init.desc).map (fun d => d.parameters.length) = some 0 := by decide +kernel
theorem ym_X7_init : Cond.instanceMethod yX7_init ∈ WA := wa (tt1 (j := 18) rfl) rfl
theorem yc_X6_init : Cond.code yX6_init cX6_init 2 none ∈ WA := wa (tt1 (j := 27) rfl) rfl
theorem yd_X6_init : yX6_init.cls ≠ "java/lang/invoke/MethodHandle" ∧ yX6_init.cls ≠ "java/lang/invoke/VarHandle" ∧ (parseMethodDescriptor yX6_init.desc).map (fun d => d.parameters.length) = some 0 := by decide +kernel
theorem ym_X6_init : Cond.instanceMethod yX6_init ∈ WA := wa (tt1 (j := 26) rfl) rfl
theorem yc_X5_init : Cond.code yX5_init cX5_init 1 none ∈ WA := wa (tt1 (j := 35) rfl) rfl
theorem yd_X5_init : yX5_init.cls ≠ "java/lang/invoke/MethodHandle" ∧ yX5_init.cls ≠ "java/lang/invoke/VarHandle" ∧ (parseMethodDescriptor yX5_init.desc).map (fun d => d.parameters.length) = some 0 := by decide +kernel
theorem ym_X5_init : Cond.instanceMethod yX5_init ∈ WA := wa (tt1 (j := 34) rfl) rfl
theorem yc_X0_init : Cond.code yX0_init cX0_init 1 none ∈ WA := wa (tt1 (j := 41) rfl) rfl
theorem yd_X0_init : yX0_init.cls ≠ "java/lang/invoke/MethodHandle" ∧ yX0_init.cls ≠ "java/lang/invoke/VarHandle" ∧ (parseMethodDescriptor yX0_init.desc).map (fun d => d.parameters.length) = some 0 := by decide +kernel
theorem ym_X0_init : Cond.instanceMethod yX0_init ∈ WA := wa (tt1 (j := 40) rfl) rfl
theorem yc_X4_init : Cond.code yX4_init cX4_init 1 none ∈ WA := wa (tt1 (j := 96) rfl) rfl
theorem yd_X4_init : yX4_init.cls ≠ "java/lang/invoke/MethodHandle" ∧ yX4_init.cls ≠ "java/lang/invoke/VarHandle" ∧ (parseMethodDescriptor yX4_init.desc).map (fun d => d.parameters.length) = some 0 := by decide +kernel
theorem ym_X4_init : Cond.instanceMethod yX4_init ∈ WA := wa (tt1 (j := 95) rfl) rfl
theorem yc_X1_init : Cond.code yX1_init cX1_init 1 none ∈ WA := wa (tt1 (j := 125) rfl) rfl
theorem yd_X1_init : yX1_init.cls ≠ "java/lang/invoke/MethodHandle" ∧ yX1_init.cls ≠ "java/lang/invoke/VarHandle" ∧ (parseMethodDescriptor yX1_init.desc).map (fun d => d.parameters.length) = some 0 := by decide +kernel
theorem ym_X1_init : Cond.instanceMethod yX1_init ∈ WA := wa (tt1 (j := 124) rfl) rfl
theorem yc_X7_houseOf : Cond.code yX7_houseOf cX7_houseOf 4 (some .int) ∈ WA := wa (tt1 (j := 222) rfl) rfl
theorem yd_X7_houseOf : yX7_houseOf.cls ≠ "java/lang/invoke/MethodHandle" ∧ yX7_houseOf.cls ≠ "java/lang/invoke/VarHandle" ∧ (parseMethodDescriptor yX7_houseOf.desc).map (fun d => d.parameters.length) = some 2 := by decide +kernel
theorem ym_X7_houseOf : Cond.instanceMethod yX7_houseOf ∈ WA := wa (tt1 (j := 220) rfl) rfl
theorem yv_X7_houseOf : Cond.selects yX7_houseOf.cls yX7_houseOf yX7_houseOf ∈ WA := wa (tt1 (j := 221) rfl) rfl
theorem yc_X6_houseAt : Cond.code yX6_houseAt cX6_houseAt 2 (some (.object "SendTheBox$House")) ∈ WA := wa (tt1 (j := 226) rfl) rfl
theorem yd_X6_houseAt : yX6_houseAt.cls ≠ "java/lang/invoke/MethodHandle" ∧ yX6_houseAt.cls ≠ "java/lang/invoke/VarHandle" ∧ (parseMethodDescriptor yX6_houseAt.desc).map (fun d => d.parameters.length) = some 1 := by decide +kernel
theorem ym_X6_houseAt : Cond.instanceMethod yX6_houseAt ∈ WA := wa (tt1 (j := 224) rfl) rfl
theorem yv_X6_houseAt : Cond.selects yX6_houseAt.cls yX6_houseAt yX6_houseAt ∈ WA := wa (tt1 (j := 225) rfl) rfl
theorem yc_X7_refuse : Cond.code yX7_refuse cX7_refuse 3 (some .int) ∈ WA := wa (tt1 (j := 230) rfl) rfl
theorem yd_X7_refuse : yX7_refuse.cls ≠ "java/lang/invoke/MethodHandle" ∧ yX7_refuse.cls ≠ "java/lang/invoke/VarHandle" ∧ (parseMethodDescriptor yX7_refuse.desc).map (fun d => d.parameters.length) = some 1 := by decide +kernel
theorem ym_X7_refuse : Cond.instanceMethod yX7_refuse ∈ WA := wa (tt1 (j := 229) rfl) rfl
theorem yv_X7_refuse : Cond.selects yX7_refuse.cls yX7_refuse yX7_refuse ∈ WA := sel_in (q := (yX7_refuse, 12)) (sp1 (j := 0) rfl)
theorem yc_X0_number : Cond.code yX0_number cX0_number 2 (some .int) ∈ WA := wa (tt1 (j := 234) rfl) rfl
theorem yd_X0_number : yX0_number.cls ≠ "java/lang/invoke/MethodHandle" ∧ yX0_number.cls ≠ "java/lang/invoke/VarHandle" ∧ (parseMethodDescriptor yX0_number.desc).map (fun d => d.parameters.length) = some 1 := by decide +kernel
theorem ym_X0_number : Cond.instanceMethod yX0_number ∈ WA := wa (tt1 (j := 232) rfl) rfl
theorem yv_X0_number : Cond.selects yX0_number.cls yX0_number yX0_number ∈ WA := wa (tt1 (j := 233) rfl) rfl
theorem yc_X7_fill : Cond.code yX7_fill cX7_fill 4 (some .int) ∈ WA := wa (tt1 (j := 238) rfl) rfl
theorem yd_X7_fill : yX7_fill.cls ≠ "java/lang/invoke/MethodHandle" ∧ yX7_fill.cls ≠ "java/lang/invoke/VarHandle" ∧ (parseMethodDescriptor yX7_fill.desc).map (fun d => d.parameters.length) = some 2 := by decide +kernel
theorem ym_X7_fill : Cond.instanceMethod yX7_fill ∈ WA := wa (tt1 (j := 236) rfl) rfl
theorem yv_X7_fill : Cond.selects yX7_fill.cls yX7_fill yX7_fill ∈ WA := wa (tt1 (j := 237) rfl) rfl
theorem yc_X7_planOf : Cond.code yX7_planOf cX7_planOf 4 (some (.object "SendTheBox$Plan")) ∈ WA := wa (tt2 (j := 2) rfl) rfl
theorem yd_X7_planOf : yX7_planOf.cls ≠ "java/lang/invoke/MethodHandle" ∧ yX7_planOf.cls ≠ "java/lang/invoke/VarHandle" ∧ (parseMethodDescriptor yX7_planOf.desc).map (fun d => d.parameters.length) = some 1 := by decide +kernel
theorem ym_X7_planOf : Cond.instanceMethod yX7_planOf ∈ WA := wa (tt2 (j := 1) rfl) rfl
theorem yv_X7_planOf : Cond.selects yX7_planOf.cls yX7_planOf yX7_planOf ∈ WA := sel_in (q := (yX7_planOf, 12)) (sp1 (j := 1) rfl)
theorem yc_X1_turnTo : Cond.code yX1_turnTo cX1_turnTo 3 none ∈ WA := wa (tt2 (j := 6) rfl) rfl
theorem yd_X1_turnTo : yX1_turnTo.cls ≠ "java/lang/invoke/MethodHandle" ∧ yX1_turnTo.cls ≠ "java/lang/invoke/VarHandle" ∧ (parseMethodDescriptor yX1_turnTo.desc).map (fun d => d.parameters.length) = some 1 := by decide +kernel
theorem ym_X1_turnTo : Cond.instanceMethod yX1_turnTo ∈ WA := wa (tt2 (j := 4) rfl) rfl
theorem yv_X1_turnTo : Cond.selects yX1_turnTo.cls yX1_turnTo yX1_turnTo ∈ WA := wa (tt2 (j := 5) rfl) rfl
theorem yc_X0_isLike : Cond.code yX0_isLike cX0_isLike 3 (some .boolean) ∈ WA := wa (tt2 (j := 10) rfl) rfl
theorem yd_X0_isLike : yX0_isLike.cls ≠ "java/lang/invoke/MethodHandle" ∧ yX0_isLike.cls ≠ "java/lang/invoke/VarHandle" ∧ (parseMethodDescriptor yX0_isLike.desc).map (fun d => d.parameters.length) = some 1 := by decide +kernel
theorem ym_X0_isLike : Cond.instanceMethod yX0_isLike ∈ WA := wa (tt2 (j := 8) rfl) rfl
theorem yv_X0_isLike : Cond.selects yX0_isLike.cls yX0_isLike yX0_isLike ∈ WA := wa (tt2 (j := 9) rfl) rfl
theorem yc_X7_at : Cond.code yX7_at cX7_at 2 (some .int) ∈ WA := wa (tt2 (j := 13) rfl) rfl
theorem yd_X7_at : yX7_at.cls ≠ "java/lang/invoke/MethodHandle" ∧ yX7_at.cls ≠ "java/lang/invoke/VarHandle" ∧ (parseMethodDescriptor yX7_at.desc).map (fun d => d.parameters.length) = some 2 := by decide +kernel
theorem ys_X7_at : Cond.static yX7_at ∈ WA := wa (tt2 (j := 12) rfl) rfl
theorem yc_X0_become : Cond.code yX0_become cX0_become 3 none ∈ WA := wa (tt2 (j := 17) rfl) rfl
theorem yd_X0_become : yX0_become.cls ≠ "java/lang/invoke/MethodHandle" ∧ yX0_become.cls ≠ "java/lang/invoke/VarHandle" ∧ (parseMethodDescriptor yX0_become.desc).map (fun d => d.parameters.length) = some 1 := by decide +kernel
theorem ym_X0_become : Cond.instanceMethod yX0_become ∈ WA := wa (tt2 (j := 15) rfl) rfl
theorem yv_X0_become : Cond.selects yX0_become.cls yX0_become yX0_become ∈ WA := wa (tt2 (j := 16) rfl) rfl
theorem yc_X0_days : Cond.code yX0_days cX0_days 1 (some .int) ∈ WA := wa (tt2 (j := 21) rfl) rfl
theorem yd_X0_days : yX0_days.cls ≠ "java/lang/invoke/MethodHandle" ∧ yX0_days.cls ≠ "java/lang/invoke/VarHandle" ∧ (parseMethodDescriptor yX0_days.desc).map (fun d => d.parameters.length) = some 0 := by decide +kernel
theorem ym_X0_days : Cond.instanceMethod yX0_days ∈ WA := wa (tt2 (j := 19) rfl) rfl
theorem yv_X0_days : Cond.selects yX0_days.cls yX0_days yX0_days ∈ WA := wa (tt2 (j := 20) rfl) rfl
theorem yc_X0_sorts : Cond.code yX0_sorts cX0_sorts 1 (some .int) ∈ WA := wa (tt2 (j := 26) rfl) rfl
theorem yd_X0_sorts : yX0_sorts.cls ≠ "java/lang/invoke/MethodHandle" ∧ yX0_sorts.cls ≠ "java/lang/invoke/VarHandle" ∧ (parseMethodDescriptor yX0_sorts.desc).map (fun d => d.parameters.length) = some 0 := by decide +kernel
theorem ym_X0_sorts : Cond.instanceMethod yX0_sorts ∈ WA := wa (tt2 (j := 24) rfl) rfl
theorem yv_X0_sorts : Cond.selects yX0_sorts.cls yX0_sorts yX0_sorts ∈ WA := wa (tt2 (j := 25) rfl) rfl
theorem yc_X0_states : Cond.code yX0_states cX0_states 1 (some .int) ∈ WA := wa (tt2 (j := 30) rfl) rfl
theorem yd_X0_states : yX0_states.cls ≠ "java/lang/invoke/MethodHandle" ∧ yX0_states.cls ≠ "java/lang/invoke/VarHandle" ∧ (parseMethodDescriptor yX0_states.desc).map (fun d => d.parameters.length) = some 0 := by decide +kernel
theorem ym_X0_states : Cond.instanceMethod yX0_states ∈ WA := wa (tt2 (j := 28) rfl) rfl
theorem yv_X0_states : Cond.selects yX0_states.cls yX0_states yX0_states ∈ WA := wa (tt2 (j := 29) rfl) rfl
theorem yc_X7_oneOf : Cond.code yX7_oneOf cX7_oneOf 1 (some .int) ∈ WA := wa (tt2 (j := 34) rfl) rfl
theorem yd_X7_oneOf : yX7_oneOf.cls ≠ "java/lang/invoke/MethodHandle" ∧ yX7_oneOf.cls ≠ "java/lang/invoke/VarHandle" ∧ (parseMethodDescriptor yX7_oneOf.desc).map (fun d => d.parameters.length) = some 1 := by decide +kernel
theorem ys_X7_oneOf : Cond.static yX7_oneOf ∈ WA := wa (tt2 (j := 33) rfl) rfl
theorem yc_X0_sumOf : Cond.code yX0_sumOf cX0_sumOf 5 (some .int) ∈ WA := wa (tt2 (j := 38) rfl) rfl
theorem yd_X0_sumOf : yX0_sumOf.cls ≠ "java/lang/invoke/MethodHandle" ∧ yX0_sumOf.cls ≠ "java/lang/invoke/VarHandle" ∧ (parseMethodDescriptor yX0_sumOf.desc).map (fun d => d.parameters.length) = some 2 := by decide +kernel
theorem ym_X0_sumOf : Cond.instanceMethod yX0_sumOf ∈ WA := wa (tt2 (j := 36) rfl) rfl
theorem yv_X0_sumOf : Cond.selects yX0_sumOf.cls yX0_sumOf yX0_sumOf ∈ WA := wa (tt2 (j := 37) rfl) rfl
theorem yc_X7_standing : Cond.code yX7_standing cX7_standing 2 (some .int) ∈ WA := wa (tt2 (j := 41) rfl) rfl
theorem yd_X7_standing : yX7_standing.cls ≠ "java/lang/invoke/MethodHandle" ∧ yX7_standing.cls ≠ "java/lang/invoke/VarHandle" ∧ (parseMethodDescriptor yX7_standing.desc).map (fun d => d.parameters.length) = some 2 := by decide +kernel
theorem ys_X7_standing : Cond.static yX7_standing ∈ WA := wa (tt2 (j := 40) rfl) rfl
theorem yc_X0_sortNumber : Cond.code yX0_sortNumber cX0_sortNumber 3 (some .int) ∈ WA := wa (tt2 (j := 45) rfl) rfl
theorem yd_X0_sortNumber : yX0_sortNumber.cls ≠ "java/lang/invoke/MethodHandle" ∧ yX0_sortNumber.cls ≠ "java/lang/invoke/VarHandle" ∧ (parseMethodDescriptor yX0_sortNumber.desc).map (fun d => d.parameters.length) = some 2 := by decide +kernel
theorem ym_X0_sortNumber : Cond.instanceMethod yX0_sortNumber ∈ WA := wa (tt2 (j := 43) rfl) rfl
theorem yv_X0_sortNumber : Cond.selects yX0_sortNumber.cls yX0_sortNumber yX0_sortNumber ∈ WA := wa (tt2 (j := 44) rfl) rfl
theorem yc_X0_placeOf : Cond.code yX0_placeOf cX0_placeOf 2 (some .int) ∈ WA := wa (tt2 (j := 48) rfl) rfl
theorem yd_X0_placeOf : yX0_placeOf.cls ≠ "java/lang/invoke/MethodHandle" ∧ yX0_placeOf.cls ≠ "java/lang/invoke/VarHandle" ∧ (parseMethodDescriptor yX0_placeOf.desc).map (fun d => d.parameters.length) = some 2 := by decide +kernel
theorem ys_X0_placeOf : Cond.static yX0_placeOf ∈ WA := wa (tt2 (j := 47) rfl) rfl
theorem yc_X7_put : Cond.code yX7_put cX7_put 3 none ∈ WA := wa (tt2 (j := 51) rfl) rfl
theorem yd_X7_put : yX7_put.cls ≠ "java/lang/invoke/MethodHandle" ∧ yX7_put.cls ≠ "java/lang/invoke/VarHandle" ∧ (parseMethodDescriptor yX7_put.desc).map (fun d => d.parameters.length) = some 3 := by decide +kernel
theorem ys_X7_put : Cond.static yX7_put ∈ WA := wa (tt2 (j := 50) rfl) rfl
theorem yc_X0_fillFor : Cond.code yX0_fillFor cX0_fillFor 8 (some .int) ∈ WA := wa (tt2 (j := 55) rfl) rfl
theorem yd_X0_fillFor : yX0_fillFor.cls ≠ "java/lang/invoke/MethodHandle" ∧ yX0_fillFor.cls ≠ "java/lang/invoke/VarHandle" ∧ (parseMethodDescriptor yX0_fillFor.desc).map (fun d => d.parameters.length) = some 1 := by decide +kernel
theorem ym_X0_fillFor : Cond.instanceMethod yX0_fillFor ∈ WA := wa (tt2 (j := 53) rfl) rfl
theorem yv_X0_fillFor : Cond.selects yX0_fillFor.cls yX0_fillFor yX0_fillFor ∈ WA := wa (tt2 (j := 54) rfl) rfl
theorem yc_J9_min_7cf53 : Cond.code yJ9_min_7cf53 cJ9_min_7cf53 2 (some .int) ∈ WA := wa (tt2 (j := 58) rfl) rfl
theorem yd_J9_min_7cf53 : yJ9_min_7cf53.cls ≠ "java/lang/invoke/MethodHandle" ∧ yJ9_min_7cf53.cls ≠ "java/lang/invoke/VarHandle" ∧ (parseMethodDescriptor yJ9_min_7cf53.desc).map (fun d => d.parameters.length) = some 2 := by decide +kernel
theorem ys_J9_min_7cf53 : Cond.static yJ9_min_7cf53 ∈ WA := wa (tt2 (j := 57) rfl) rfl
theorem yc_X1_hasState : Cond.code yX1_hasState cX1_hasState 2 (some .boolean) ∈ WA := wa (tt2 (j := 62) rfl) rfl
theorem yd_X1_hasState : yX1_hasState.cls ≠ "java/lang/invoke/MethodHandle" ∧ yX1_hasState.cls ≠ "java/lang/invoke/VarHandle" ∧ (parseMethodDescriptor yX1_hasState.desc).map (fun d => d.parameters.length) = some 1 := by decide +kernel
theorem ym_X1_hasState : Cond.instanceMethod yX1_hasState ∈ WA := wa (tt2 (j := 60) rfl) rfl
theorem yv_X1_hasState : Cond.selects yX1_hasState.cls yX1_hasState yX1_hasState ∈ WA := wa (tt2 (j := 61) rfl) rfl
theorem yc_X1_fillOf : Cond.code yX1_fillOf cX1_fillOf 2 (some .int) ∈ WA := wa (tt2 (j := 66) rfl) rfl
theorem yd_X1_fillOf : yX1_fillOf.cls ≠ "java/lang/invoke/MethodHandle" ∧ yX1_fillOf.cls ≠ "java/lang/invoke/VarHandle" ∧ (parseMethodDescriptor yX1_fillOf.desc).map (fun d => d.parameters.length) = some 1 := by decide +kernel
theorem ym_X1_fillOf : Cond.instanceMethod yX1_fillOf ∈ WA := wa (tt2 (j := 64) rfl) rfl
theorem yv_X1_fillOf : Cond.selects yX1_fillOf.cls yX1_fillOf yX1_fillOf ∈ WA := wa (tt2 (j := 65) rfl) rfl
theorem yc_X7_status : Cond.code yX7_status cX7_status 3 (some .int) ∈ WA := wa (tt2 (j := 71) rfl) rfl
theorem yd_X7_status : yX7_status.cls ≠ "java/lang/invoke/MethodHandle" ∧ yX7_status.cls ≠ "java/lang/invoke/VarHandle" ∧ (parseMethodDescriptor yX7_status.desc).map (fun d => d.parameters.length) = some 1 := by decide +kernel
theorem ym_X7_status : Cond.instanceMethod yX7_status ∈ WA := wa (tt2 (j := 69) rfl) rfl
theorem yv_X7_status : Cond.selects yX7_status.cls yX7_status yX7_status ∈ WA := wa (tt2 (j := 70) rfl) rfl
theorem yc_X7_shelvesInUse : Cond.code yX7_shelvesInUse cX7_shelvesInUse 3 (some .int) ∈ WA := wa (tt2 (j := 75) rfl) rfl
theorem yd_X7_shelvesInUse : yX7_shelvesInUse.cls ≠ "java/lang/invoke/MethodHandle" ∧ yX7_shelvesInUse.cls ≠ "java/lang/invoke/VarHandle" ∧ (parseMethodDescriptor yX7_shelvesInUse.desc).map (fun d => d.parameters.length) = some 0 := by decide +kernel
theorem ym_X7_shelvesInUse : Cond.instanceMethod yX7_shelvesInUse ∈ WA := wa (tt2 (j := 74) rfl) rfl
theorem yv_X7_shelvesInUse : Cond.selects yX7_shelvesInUse.cls yX7_shelvesInUse yX7_shelvesInUse ∈ WA := sel_in (q := (yX7_shelvesInUse, 12)) (sp1 (j := 2) rfl)
theorem yc_X7_rowAt : Cond.code yX7_rowAt cX7_rowAt 2 (some (.object "SendTheBox$Row")) ∈ WA := wa (tt2 (j := 79) rfl) rfl
theorem yd_X7_rowAt : yX7_rowAt.cls ≠ "java/lang/invoke/MethodHandle" ∧ yX7_rowAt.cls ≠ "java/lang/invoke/VarHandle" ∧ (parseMethodDescriptor yX7_rowAt.desc).map (fun d => d.parameters.length) = some 1 := by decide +kernel
theorem ym_X7_rowAt : Cond.instanceMethod yX7_rowAt ∈ WA := wa (tt2 (j := 78) rfl) rfl
theorem yv_X7_rowAt : Cond.selects yX7_rowAt.cls yX7_rowAt yX7_rowAt ∈ WA := sel_in (q := (yX7_rowAt, 12)) (sp1 (j := 3) rfl)
theorem yc_X7_ruleAt : Cond.code yX7_ruleAt cX7_ruleAt 2 (some (.object "SendTheBox$Rule")) ∈ WA := wa (tt2 (j := 83) rfl) rfl
theorem yd_X7_ruleAt : yX7_ruleAt.cls ≠ "java/lang/invoke/MethodHandle" ∧ yX7_ruleAt.cls ≠ "java/lang/invoke/VarHandle" ∧ (parseMethodDescriptor yX7_ruleAt.desc).map (fun d => d.parameters.length) = some 1 := by decide +kernel
theorem ym_X7_ruleAt : Cond.instanceMethod yX7_ruleAt ∈ WA := wa (tt2 (j := 82) rfl) rfl
theorem yv_X7_ruleAt : Cond.selects yX7_ruleAt.cls yX7_ruleAt yX7_ruleAt ∈ WA := sel_in (q := (yX7_ruleAt, 12)) (sp1 (j := 4) rfl)
theorem yc_L_cell : Cond.code yL_cell cL_cell 2 (some .int) ∈ WA := wa (tt2 (j := 86) rfl) rfl
theorem yd_L_cell : yL_cell.cls ≠ "java/lang/invoke/MethodHandle" ∧ yL_cell.cls ≠ "java/lang/invoke/VarHandle" ∧ (parseMethodDescriptor yL_cell.desc).map (fun d => d.parameters.length) = some 2 := by decide +kernel
theorem ys_L_cell : Cond.static yL_cell ∈ WA := wa (tt2 (j := 85) rfl) rfl
theorem yc_L_act : Cond.code yL_act cL_act 6 none ∈ WA := wa (tt2 (j := 90) rfl) rfl
theorem yd_L_act : yL_act.cls ≠ "java/lang/invoke/MethodHandle" ∧ yL_act.cls ≠ "java/lang/invoke/VarHandle" ∧ (parseMethodDescriptor yL_act.desc).map (fun d => d.parameters.length) = some 3 := by decide +kernel
theorem ys_L_act : Cond.static yL_act ∈ WA := wa (tt2 (j := 89) rfl) rfl
theorem yc_L_build : Cond.code yL_build cL_build 8 (some .int) ∈ WA := wa (tt2 (j := 93) rfl) rfl
theorem yd_L_build : yL_build.cls ≠ "java/lang/invoke/MethodHandle" ∧ yL_build.cls ≠ "java/lang/invoke/VarHandle" ∧ (parseMethodDescriptor yL_build.desc).map (fun d => d.parameters.length) = some 5 := by decide +kernel
theorem ys_L_build : Cond.static yL_build ∈ WA := wa (tt2 (j := 92) rfl) rfl
theorem yc_L_tell : Cond.code yL_tell cL_tell 3 none ∈ WA := wa (tt2 (j := 97) rfl) rfl
theorem yd_L_tell : yL_tell.cls ≠ "java/lang/invoke/MethodHandle" ∧ yL_tell.cls ≠ "java/lang/invoke/VarHandle" ∧ (parseMethodDescriptor yL_tell.desc).map (fun d => d.parameters.length) = some 2 := by decide +kernel
theorem ys_L_tell : Cond.static yL_tell ∈ WA := wa (tt2 (j := 96) rfl) rfl
theorem yc_J0_length_8abf5 : Cond.code yJ0_length_8abf5 cJ0_length_8abf5 1 (some .int) ∈ WA := wa (tt2 (j := 101) rfl) rfl
theorem yd_J0_length_8abf5 : yJ0_length_8abf5.cls ≠ "java/lang/invoke/MethodHandle" ∧ yJ0_length_8abf5.cls ≠ "java/lang/invoke/VarHandle" ∧ (parseMethodDescriptor yJ0_length_8abf5.desc).map (fun d => d.parameters.length) = some 0 := by decide +kernel
theorem ym_J0_length_8abf5 : Cond.instanceMethod yJ0_length_8abf5 ∈ WA := wa (tt2 (j := 99) rfl) rfl
theorem yv_J0_length_8abf5 : Cond.selects yJ0_length_8abf5.cls yJ0_length_8abf5 yJ0_length_8abf5 ∈ WA := wa (tt2 (j := 100) rfl) rfl
theorem yc_J0_coder_7d493 : Cond.code yJ0_coder_7d493 cJ0_coder_7d493 1 (some .byte) ∈ WA := wa (tt2 (j := 105) rfl) rfl
theorem yd_J0_coder_7d493 : yJ0_coder_7d493.cls ≠ "java/lang/invoke/MethodHandle" ∧ yJ0_coder_7d493.cls ≠ "java/lang/invoke/VarHandle" ∧ (parseMethodDescriptor yJ0_coder_7d493.desc).map (fun d => d.parameters.length) = some 0 := by decide +kernel
theorem ym_J0_coder_7d493 : Cond.instanceMethod yJ0_coder_7d493 ∈ WA := wa (tt2 (j := 103) rfl) rfl
theorem yv_J0_coder_7d493 : Cond.selects yJ0_coder_7d493.cls yJ0_coder_7d493 yJ0_coder_7d493 ∈ WA := wa (tt2 (j := 104) rfl) rfl
theorem yc_J0_charAt_5068e : Cond.code yJ0_charAt_5068e cJ0_charAt_5068e 2 (some .char) ∈ WA := wa (tt2 (j := 111) rfl) rfl
theorem yd_J0_charAt_5068e : yJ0_charAt_5068e.cls ≠ "java/lang/invoke/MethodHandle" ∧ yJ0_charAt_5068e.cls ≠ "java/lang/invoke/VarHandle" ∧ (parseMethodDescriptor yJ0_charAt_5068e.desc).map (fun d => d.parameters.length) = some 1 := by decide +kernel
theorem ym_J0_charAt_5068e : Cond.instanceMethod yJ0_charAt_5068e ∈ WA := wa (tt2 (j := 109) rfl) rfl
theorem yv_J0_charAt_5068e : Cond.selects yJ0_charAt_5068e.cls yJ0_charAt_5068e yJ0_charAt_5068e ∈ WA := wa (tt2 (j := 110) rfl) rfl
theorem yc_J0_isLatin1_aae02 : Cond.code yJ0_isLatin1_aae02 cJ0_isLatin1_aae02 1 (some .boolean) ∈ WA := wa (tt2 (j := 115) rfl) rfl
theorem yd_J0_isLatin1_aae02 : yJ0_isLatin1_aae02.cls ≠ "java/lang/invoke/MethodHandle" ∧ yJ0_isLatin1_aae02.cls ≠ "java/lang/invoke/VarHandle" ∧ (parseMethodDescriptor yJ0_isLatin1_aae02.desc).map (fun d => d.parameters.length) = some 0 := by decide +kernel
theorem ym_J0_isLatin1_aae02 : Cond.instanceMethod yJ0_isLatin1_aae02 ∈ WA := wa (tt2 (j := 113) rfl) rfl
theorem yv_J0_isLatin1_aae02 : Cond.selects yJ0_isLatin1_aae02.cls yJ0_isLatin1_aae02 yJ0_isLatin1_aae02 ∈ WA := wa (tt2 (j := 114) rfl) rfl
theorem yc_J1_charAt_3b067 : Cond.code yJ1_charAt_3b067 cJ1_charAt_3b067 2 (some .char) ∈ WA := wa (tt2 (j := 118) rfl) rfl
theorem yd_J1_charAt_3b067 : yJ1_charAt_3b067.cls ≠ "java/lang/invoke/MethodHandle" ∧ yJ1_charAt_3b067.cls ≠ "java/lang/invoke/VarHandle" ∧ (parseMethodDescriptor yJ1_charAt_3b067.desc).map (fun d => d.parameters.length) = some 2 := by decide +kernel
theorem ys_J1_charAt_3b067 : Cond.static yJ1_charAt_3b067 ∈ WA := wa (tt2 (j := 117) rfl) rfl
theorem yc_J0_checkIndex_df160 : Cond.code yJ0_checkIndex_df160 cJ0_checkIndex_df160 2 none ∈ WA := wa (tt2 (j := 121) rfl) rfl
theorem yd_J0_checkIndex_df160 : yJ0_checkIndex_df160.cls ≠ "java/lang/invoke/MethodHandle" ∧ yJ0_checkIndex_df160.cls ≠ "java/lang/invoke/VarHandle" ∧ (parseMethodDescriptor yJ0_checkIndex_df160.desc).map (fun d => d.parameters.length) = some 2 := by decide +kernel
theorem ys_J0_checkIndex_df160 : Cond.static yJ0_checkIndex_df160 ∈ WA := wa (tt2 (j := 120) rfl) rfl
theorem yc_J3_checkIndex_8e157 : Cond.code yJ3_checkIndex_8e157 cJ3_checkIndex_8e157 3 (some .int) ∈ WA := wa (tt2 (j := 126) rfl) rfl
theorem yd_J3_checkIndex_8e157 : yJ3_checkIndex_8e157.cls ≠ "java/lang/invoke/MethodHandle" ∧ yJ3_checkIndex_8e157.cls ≠ "java/lang/invoke/VarHandle" ∧ (parseMethodDescriptor yJ3_checkIndex_8e157.desc).map (fun d => d.parameters.length) = some 3 := by decide +kernel
theorem ys_J3_checkIndex_8e157 : Cond.static yJ3_checkIndex_8e157 ∈ WA := wa (tt2 (j := 125) rfl) rfl
theorem yc_J2_charAt_3b067 : Cond.code yJ2_charAt_3b067 cJ2_charAt_3b067 2 (some .char) ∈ WA := wa (tt2 (j := 129) rfl) rfl
theorem yd_J2_charAt_3b067 : yJ2_charAt_3b067.cls ≠ "java/lang/invoke/MethodHandle" ∧ yJ2_charAt_3b067.cls ≠ "java/lang/invoke/VarHandle" ∧ (parseMethodDescriptor yJ2_charAt_3b067.desc).map (fun d => d.parameters.length) = some 2 := by decide +kernel
theorem ys_J2_charAt_3b067 : Cond.static yJ2_charAt_3b067 ∈ WA := wa (tt2 (j := 128) rfl) rfl
theorem yc_J2_checkIndex_2214a : Cond.code yJ2_checkIndex_2214a cJ2_checkIndex_2214a 2 none ∈ WA := wa (tt2 (j := 132) rfl) rfl
theorem yd_J2_checkIndex_2214a : yJ2_checkIndex_2214a.cls ≠ "java/lang/invoke/MethodHandle" ∧ yJ2_checkIndex_2214a.cls ≠ "java/lang/invoke/VarHandle" ∧ (parseMethodDescriptor yJ2_checkIndex_2214a.desc).map (fun d => d.parameters.length) = some 2 := by decide +kernel
theorem ys_J2_checkIndex_2214a : Cond.static yJ2_checkIndex_2214a ∈ WA := wa (tt2 (j := 131) rfl) rfl
theorem yc_J2_length_9d52b : Cond.code yJ2_length_9d52b cJ2_length_9d52b 1 (some .int) ∈ WA := wa (tt2 (j := 135) rfl) rfl
theorem yd_J2_length_9d52b : yJ2_length_9d52b.cls ≠ "java/lang/invoke/MethodHandle" ∧ yJ2_length_9d52b.cls ≠ "java/lang/invoke/VarHandle" ∧ (parseMethodDescriptor yJ2_length_9d52b.desc).map (fun d => d.parameters.length) = some 1 := by decide +kernel
theorem ys_J2_length_9d52b : Cond.static yJ2_length_9d52b ∈ WA := wa (tt2 (j := 134) rfl) rfl
theorem yc_J2_getChar_3b067 : Cond.code yJ2_getChar_3b067 cJ2_getChar_3b067 2 (some .char) ∈ WA := wa (tt2 (j := 139) rfl) rfl
theorem yd_J2_getChar_3b067 : yJ2_getChar_3b067.cls ≠ "java/lang/invoke/MethodHandle" ∧ yJ2_getChar_3b067.cls ≠ "java/lang/invoke/VarHandle" ∧ (parseMethodDescriptor yJ2_getChar_3b067.desc).map (fun d => d.parameters.length) = some 2 := by decide +kernel
theorem ys_J2_getChar_3b067 : Cond.static yJ2_getChar_3b067 ∈ WA := wa (tt2 (j := 138) rfl) rfl
theorem yc_X7_feed : Cond.code yX7_feed cX7_feed 3 (some .int) ∈ WA := wa (tt2 (j := 149) rfl) rfl
theorem yd_X7_feed : yX7_feed.cls ≠ "java/lang/invoke/MethodHandle" ∧ yX7_feed.cls ≠ "java/lang/invoke/VarHandle" ∧ (parseMethodDescriptor yX7_feed.desc).map (fun d => d.parameters.length) = some 2 := by decide +kernel
theorem ym_X7_feed : Cond.instanceMethod yX7_feed ∈ WA := wa (tt2 (j := 147) rfl) rfl
theorem yv_X7_feed : Cond.selects yX7_feed.cls yX7_feed yX7_feed ∈ WA := wa (tt2 (j := 148) rfl) rfl
theorem yc_X4_hasPlaceFor : Cond.code yX4_hasPlaceFor cX4_hasPlaceFor 2 (some .boolean) ∈ WA := wa (tt2 (j := 153) rfl) rfl
theorem yd_X4_hasPlaceFor : yX4_hasPlaceFor.cls ≠ "java/lang/invoke/MethodHandle" ∧ yX4_hasPlaceFor.cls ≠ "java/lang/invoke/VarHandle" ∧ (parseMethodDescriptor yX4_hasPlaceFor.desc).map (fun d => d.parameters.length) = some 1 := by decide +kernel
theorem ym_X4_hasPlaceFor : Cond.instanceMethod yX4_hasPlaceFor ∈ WA := wa (tt2 (j := 151) rfl) rfl
theorem yv_X4_hasPlaceFor : Cond.selects yX4_hasPlaceFor.cls yX4_hasPlaceFor yX4_hasPlaceFor ∈ WA := wa (tt2 (j := 152) rfl) rfl
theorem yc_X4_append : Cond.code yX4_append cX4_append 4 (some .int) ∈ WA := wa (tt2 (j := 157) rfl) rfl
theorem yd_X4_append : yX4_append.cls ≠ "java/lang/invoke/MethodHandle" ∧ yX4_append.cls ≠ "java/lang/invoke/VarHandle" ∧ (parseMethodDescriptor yX4_append.desc).map (fun d => d.parameters.length) = some 2 := by decide +kernel
theorem ym_X4_append : Cond.instanceMethod yX4_append ∈ WA := wa (tt2 (j := 155) rfl) rfl
theorem yv_X4_append : Cond.selects yX4_append.cls yX4_append yX4_append ∈ WA := wa (tt2 (j := 156) rfl) rfl
theorem yc_L_number : Cond.code yL_number cL_number 3 none ∈ WA := wa (tt2 (j := 160) rfl) rfl
theorem yd_L_number : yL_number.cls ≠ "java/lang/invoke/MethodHandle" ∧ yL_number.cls ≠ "java/lang/invoke/VarHandle" ∧ (parseMethodDescriptor yL_number.desc).map (fun d => d.parameters.length) = some 2 := by decide +kernel
theorem ys_L_number : Cond.static yL_number ∈ WA := wa (tt2 (j := 159) rfl) rfl
theorem yc_X7_house : Cond.code yX7_house cX7_house 2 (some .int) ∈ WA := wa (tt2 (j := 172) rfl) rfl
theorem yd_X7_house : yX7_house.cls ≠ "java/lang/invoke/MethodHandle" ∧ yX7_house.cls ≠ "java/lang/invoke/VarHandle" ∧ (parseMethodDescriptor yX7_house.desc).map (fun d => d.parameters.length) = some 0 := by decide +kernel
theorem ym_X7_house : Cond.instanceMethod yX7_house ∈ WA := wa (tt2 (j := 170) rfl) rfl
theorem yv_X7_house : Cond.selects yX7_house.cls yX7_house yX7_house ∈ WA := wa (tt2 (j := 171) rfl) rfl
theorem yc_X6_isFull : Cond.code yX6_isFull cX6_isFull 1 (some .boolean) ∈ WA := wa (tt2 (j := 176) rfl) rfl
theorem yd_X6_isFull : yX6_isFull.cls ≠ "java/lang/invoke/MethodHandle" ∧ yX6_isFull.cls ≠ "java/lang/invoke/VarHandle" ∧ (parseMethodDescriptor yX6_isFull.desc).map (fun d => d.parameters.length) = some 0 := by decide +kernel
theorem ym_X6_isFull : Cond.instanceMethod yX6_isFull ∈ WA := wa (tt2 (j := 174) rfl) rfl
theorem yv_X6_isFull : Cond.selects yX6_isFull.cls yX6_isFull yX6_isFull ∈ WA := wa (tt2 (j := 175) rfl) rfl
theorem yc_X4_readInto : Cond.code yX4_readInto cX4_readInto 3 (some .int) ∈ WA := wa (tt2 (j := 180) rfl) rfl
theorem yd_X4_readInto : yX4_readInto.cls ≠ "java/lang/invoke/MethodHandle" ∧ yX4_readInto.cls ≠ "java/lang/invoke/VarHandle" ∧ (parseMethodDescriptor yX4_readInto.desc).map (fun d => d.parameters.length) = some 1 := by decide +kernel
theorem ym_X4_readInto : Cond.instanceMethod yX4_readInto ∈ WA := wa (tt2 (j := 178) rfl) rfl
theorem yv_X4_readInto : Cond.selects yX4_readInto.cls yX4_readInto yX4_readInto ∈ WA := wa (tt2 (j := 179) rfl) rfl
theorem yc_X0_clear : Cond.code yX0_clear cX0_clear 2 none ∈ WA := wa (tt2 (j := 184) rfl) rfl
theorem yd_X0_clear : yX0_clear.cls ≠ "java/lang/invoke/MethodHandle" ∧ yX0_clear.cls ≠ "java/lang/invoke/VarHandle" ∧ (parseMethodDescriptor yX0_clear.desc).map (fun d => d.parameters.length) = some 0 := by decide +kernel
theorem ym_X0_clear : Cond.instanceMethod yX0_clear ∈ WA := wa (tt2 (j := 182) rfl) rfl
theorem yv_X0_clear : Cond.selects yX0_clear.cls yX0_clear yX0_clear ∈ WA := wa (tt2 (j := 183) rfl) rfl
theorem yc_X0_putNumber : Cond.code yX0_putNumber cX0_putNumber 3 none ∈ WA := wa (tt2 (j := 188) rfl) rfl
theorem yd_X0_putNumber : yX0_putNumber.cls ≠ "java/lang/invoke/MethodHandle" ∧ yX0_putNumber.cls ≠ "java/lang/invoke/VarHandle" ∧ (parseMethodDescriptor yX0_putNumber.desc).map (fun d => d.parameters.length) = some 2 := by decide +kernel
theorem ym_X0_putNumber : Cond.instanceMethod yX0_putNumber ∈ WA := wa (tt2 (j := 186) rfl) rfl
theorem yv_X0_putNumber : Cond.selects yX0_putNumber.cls yX0_putNumber yX0_putNumber ∈ WA := wa (tt2 (j := 187) rfl) rfl
theorem yc_X4_advance : Cond.code yX4_advance cX4_advance 1 none ∈ WA := wa (tt2 (j := 193) rfl) rfl
theorem yd_X4_advance : yX4_advance.cls ≠ "java/lang/invoke/MethodHandle" ∧ yX4_advance.cls ≠ "java/lang/invoke/VarHandle" ∧ (parseMethodDescriptor yX4_advance.desc).map (fun d => d.parameters.length) = some 0 := by decide +kernel
theorem ym_X4_advance : Cond.instanceMethod yX4_advance ∈ WA := wa (tt2 (j := 192) rfl) rfl
theorem yv_X4_advance : Cond.selects yX4_advance.cls yX4_advance yX4_advance ∈ WA := sel_in (q := (yX4_advance, 5)) (sp1 (j := 5) rfl)
theorem yc_X4_byteAt : Cond.code yX4_byteAt cX4_byteAt 2 (some .int) ∈ WA := wa (tt2 (j := 197) rfl) rfl
theorem yd_X4_byteAt : yX4_byteAt.cls ≠ "java/lang/invoke/MethodHandle" ∧ yX4_byteAt.cls ≠ "java/lang/invoke/VarHandle" ∧ (parseMethodDescriptor yX4_byteAt.desc).map (fun d => d.parameters.length) = some 1 := by decide +kernel
theorem ym_X4_byteAt : Cond.instanceMethod yX4_byteAt ∈ WA := wa (tt2 (j := 196) rfl) rfl
theorem yv_X4_byteAt : Cond.selects yX4_byteAt.cls yX4_byteAt yX4_byteAt ∈ WA := sel_in (q := (yX4_byteAt, 5)) (sp1 (j := 6) rfl)
theorem yc_X4_kindOf : Cond.code yX4_kindOf cX4_kindOf 1 (some .int) ∈ WA := wa (tt2 (j := 200) rfl) rfl
theorem yd_X4_kindOf : yX4_kindOf.cls ≠ "java/lang/invoke/MethodHandle" ∧ yX4_kindOf.cls ≠ "java/lang/invoke/VarHandle" ∧ (parseMethodDescriptor yX4_kindOf.desc).map (fun d => d.parameters.length) = some 1 := by decide +kernel
theorem ys_X4_kindOf : Cond.static yX4_kindOf ∈ WA := wa (tt2 (j := 199) rfl) rfl
theorem yc_X4_readStatement : Cond.code yX4_readStatement cX4_readStatement 2 (some .boolean) ∈ WA := wa (tt2 (j := 204) rfl) rfl
theorem yd_X4_readStatement : yX4_readStatement.cls ≠ "java/lang/invoke/MethodHandle" ∧ yX4_readStatement.cls ≠ "java/lang/invoke/VarHandle" ∧ (parseMethodDescriptor yX4_readStatement.desc).map (fun d => d.parameters.length) = some 1 := by decide +kernel
theorem ym_X4_readStatement : Cond.instanceMethod yX4_readStatement ∈ WA := wa (tt2 (j := 203) rfl) rfl
theorem yv_X4_readStatement : Cond.selects yX4_readStatement.cls yX4_readStatement yX4_readStatement ∈ WA := sel_in (q := (yX4_readStatement, 5)) (sp1 (j := 7) rfl)
theorem yc_X4_isWord : Cond.code yX4_isWord cX4_isWord 3 (some .boolean) ∈ WA := wa (tt2 (j := 209) rfl) rfl
theorem yd_X4_isWord : yX4_isWord.cls ≠ "java/lang/invoke/MethodHandle" ∧ yX4_isWord.cls ≠ "java/lang/invoke/VarHandle" ∧ (parseMethodDescriptor yX4_isWord.desc).map (fun d => d.parameters.length) = some 1 := by decide +kernel
theorem ym_X4_isWord : Cond.instanceMethod yX4_isWord ∈ WA := wa (tt2 (j := 208) rfl) rfl
theorem yv_X4_isWord : Cond.selects yX4_isWord.cls yX4_isWord yX4_isWord ∈ WA := sel_in (q := (yX4_isWord, 5)) (sp1 (j := 8) rfl)
theorem yc_X4_readHouseNumber : Cond.code yX4_readHouseNumber cX4_readHouseNumber 4 (some .boolean) ∈ WA := wa (tt2 (j := 215) rfl) rfl
theorem yd_X4_readHouseNumber : yX4_readHouseNumber.cls ≠ "java/lang/invoke/MethodHandle" ∧ yX4_readHouseNumber.cls ≠ "java/lang/invoke/VarHandle" ∧ (parseMethodDescriptor yX4_readHouseNumber.desc).map (fun d => d.parameters.length) = some 2 := by decide +kernel
theorem ym_X4_readHouseNumber : Cond.instanceMethod yX4_readHouseNumber ∈ WA := wa (tt2 (j := 214) rfl) rfl
theorem yv_X4_readHouseNumber : Cond.selects yX4_readHouseNumber.cls yX4_readHouseNumber yX4_readHouseNumber ∈ WA := sel_in (q := (yX4_readHouseNumber, 5)) (sp1 (j := 9) rfl)
theorem yc_X4_numberHere : Cond.code yX4_numberHere cX4_numberHere 3 (some .int) ∈ WA := wa (tt2 (j := 219) rfl) rfl
theorem yd_X4_numberHere : yX4_numberHere.cls ≠ "java/lang/invoke/MethodHandle" ∧ yX4_numberHere.cls ≠ "java/lang/invoke/VarHandle" ∧ (parseMethodDescriptor yX4_numberHere.desc).map (fun d => d.parameters.length) = some 0 := by decide +kernel
theorem ym_X4_numberHere : Cond.instanceMethod yX4_numberHere ∈ WA := wa (tt2 (j := 218) rfl) rfl
theorem yv_X4_numberHere : Cond.selects yX4_numberHere.cls yX4_numberHere yX4_numberHere ∈ WA := sel_in (q := (yX4_numberHere, 5)) (sp1 (j := 10) rfl)
theorem yc_X0_mayBe : Cond.code yX0_mayBe cX0_mayBe 2 (some .boolean) ∈ WA := wa (tt2 (j := 222) rfl) rfl
theorem yd_X0_mayBe : yX0_mayBe.cls ≠ "java/lang/invoke/MethodHandle" ∧ yX0_mayBe.cls ≠ "java/lang/invoke/VarHandle" ∧ (parseMethodDescriptor yX0_mayBe.desc).map (fun d => d.parameters.length) = some 2 := by decide +kernel
theorem ys_X0_mayBe : Cond.static yX0_mayBe ∈ WA := wa (tt2 (j := 221) rfl) rfl
theorem yc_X4_readSort : Cond.code yX4_readSort cX4_readSort 5 (some .boolean) ∈ WA := wa (tt2 (j := 232) rfl) rfl
theorem yd_X4_readSort : yX4_readSort.cls ≠ "java/lang/invoke/MethodHandle" ∧ yX4_readSort.cls ≠ "java/lang/invoke/VarHandle" ∧ (parseMethodDescriptor yX4_readSort.desc).map (fun d => d.parameters.length) = some 1 := by decide +kernel
theorem ym_X4_readSort : Cond.instanceMethod yX4_readSort ∈ WA := wa (tt2 (j := 231) rfl) rfl
theorem yv_X4_readSort : Cond.selects yX4_readSort.cls yX4_readSort yX4_readSort ∈ WA := sel_in (q := (yX4_readSort, 5)) (sp1 (j := 11) rfl)
theorem yc_X4_sortWord : Cond.code yX4_sortWord cX4_sortWord 1 (some (.object "java/lang/String")) ∈ WA := wa (tt2 (j := 235) rfl) rfl
theorem yd_X4_sortWord : yX4_sortWord.cls ≠ "java/lang/invoke/MethodHandle" ∧ yX4_sortWord.cls ≠ "java/lang/invoke/VarHandle" ∧ (parseMethodDescriptor yX4_sortWord.desc).map (fun d => d.parameters.length) = some 1 := by decide +kernel
theorem ys_X4_sortWord : Cond.static yX4_sortWord ∈ WA := wa (tt2 (j := 234) rfl) rfl
theorem yc_X4_readSortNumber : Cond.code yX4_readSortNumber cX4_readSortNumber 5 (some .boolean) ∈ WA := wa (tt3 (j := 3) rfl) rfl
theorem yd_X4_readSortNumber : yX4_readSortNumber.cls ≠ "java/lang/invoke/MethodHandle" ∧ yX4_readSortNumber.cls ≠ "java/lang/invoke/VarHandle" ∧ (parseMethodDescriptor yX4_readSortNumber.desc).map (fun d => d.parameters.length) = some 3 := by decide +kernel
theorem ym_X4_readSortNumber : Cond.instanceMethod yX4_readSortNumber ∈ WA := wa (tt3 (j := 2) rfl) rfl
theorem yv_X4_readSortNumber : Cond.selects yX4_readSortNumber.cls yX4_readSortNumber yX4_readSortNumber ∈ WA := sel_in (q := (yX4_readSortNumber, 5)) (sp1 (j := 12) rfl)
theorem yc_X0_mayBeOfSort : Cond.code yX0_mayBeOfSort cX0_mayBeOfSort 2 (some .boolean) ∈ WA := wa (tt3 (j := 6) rfl) rfl
theorem yd_X0_mayBeOfSort : yX0_mayBeOfSort.cls ≠ "java/lang/invoke/MethodHandle" ∧ yX0_mayBeOfSort.cls ≠ "java/lang/invoke/VarHandle" ∧ (parseMethodDescriptor yX0_mayBeOfSort.desc).map (fun d => d.parameters.length) = some 2 := by decide +kernel
theorem ys_X0_mayBeOfSort : Cond.static yX0_mayBeOfSort ∈ WA := wa (tt3 (j := 5) rfl) rfl
theorem yc_X0_putSortNumber : Cond.code yX0_putSortNumber cX0_putSortNumber 4 none ∈ WA := wa (tt3 (j := 10) rfl) rfl
theorem yd_X0_putSortNumber : yX0_putSortNumber.cls ≠ "java/lang/invoke/MethodHandle" ∧ yX0_putSortNumber.cls ≠ "java/lang/invoke/VarHandle" ∧ (parseMethodDescriptor yX0_putSortNumber.desc).map (fun d => d.parameters.length) = some 3 := by decide +kernel
theorem ym_X0_putSortNumber : Cond.instanceMethod yX0_putSortNumber ∈ WA := wa (tt3 (j := 8) rfl) rfl
theorem yv_X0_putSortNumber : Cond.selects yX0_putSortNumber.cls yX0_putSortNumber yX0_putSortNumber ∈ WA := wa (tt3 (j := 9) rfl) rfl
theorem yc_X4_clear : Cond.code yX4_clear cX4_clear 2 (some .int) ∈ WA := wa (tt3 (j := 14) rfl) rfl
theorem yd_X4_clear : yX4_clear.cls ≠ "java/lang/invoke/MethodHandle" ∧ yX4_clear.cls ≠ "java/lang/invoke/VarHandle" ∧ (parseMethodDescriptor yX4_clear.desc).map (fun d => d.parameters.length) = some 0 := by decide +kernel
theorem ym_X4_clear : Cond.instanceMethod yX4_clear ∈ WA := wa (tt3 (j := 12) rfl) rfl
theorem yv_X4_clear : Cond.selects yX4_clear.cls yX4_clear yX4_clear ∈ WA := wa (tt3 (j := 13) rfl) rfl
theorem yc_X6_add : Cond.code yX6_add cX6_add 3 (some .int) ∈ WA := wa (tt3 (j := 18) rfl) rfl
theorem yd_X6_add : yX6_add.cls ≠ "java/lang/invoke/MethodHandle" ∧ yX6_add.cls ≠ "java/lang/invoke/VarHandle" ∧ (parseMethodDescriptor yX6_add.desc).map (fun d => d.parameters.length) = some 1 := by decide +kernel
theorem ym_X6_add : Cond.instanceMethod yX6_add ∈ WA := wa (tt3 (j := 16) rfl) rfl
theorem yv_X6_add : Cond.selects yX6_add.cls yX6_add yX6_add ∈ WA := wa (tt3 (j := 17) rfl) rfl
theorem yc_X7_alter : Cond.code yX7_alter cX7_alter 7 (some .int) ∈ WA := wa (tt3 (j := 23) rfl) rfl
theorem yd_X7_alter : yX7_alter.cls ≠ "java/lang/invoke/MethodHandle" ∧ yX7_alter.cls ≠ "java/lang/invoke/VarHandle" ∧ (parseMethodDescriptor yX7_alter.desc).map (fun d => d.parameters.length) = some 3 := by decide +kernel
theorem ym_X7_alter : Cond.instanceMethod yX7_alter ∈ WA := wa (tt3 (j := 21) rfl) rfl
theorem yv_X7_alter : Cond.selects yX7_alter.cls yX7_alter yX7_alter ∈ WA := wa (tt3 (j := 22) rfl) rfl
theorem yc_X7_change : Cond.code yX7_change cX7_change 8 (some .int) ∈ WA := wa (tt3 (j := 29) rfl) rfl
theorem yd_X7_change : yX7_change.cls ≠ "java/lang/invoke/MethodHandle" ∧ yX7_change.cls ≠ "java/lang/invoke/VarHandle" ∧ (parseMethodDescriptor yX7_change.desc).map (fun d => d.parameters.length) = some 4 := by decide +kernel
theorem ym_X7_change : Cond.instanceMethod yX7_change ∈ WA := wa (tt3 (j := 27) rfl) rfl
theorem yv_X7_change : Cond.selects yX7_change.cls yX7_change yX7_change ∈ WA := wa (tt3 (j := 28) rfl) rfl
theorem yc_X0_hasSort : Cond.code yX0_hasSort cX0_hasSort 2 (some .boolean) ∈ WA := wa (tt3 (j := 33) rfl) rfl
theorem yd_X0_hasSort : yX0_hasSort.cls ≠ "java/lang/invoke/MethodHandle" ∧ yX0_hasSort.cls ≠ "java/lang/invoke/VarHandle" ∧ (parseMethodDescriptor yX0_hasSort.desc).map (fun d => d.parameters.length) = some 1 := by decide +kernel
theorem ym_X0_hasSort : Cond.instanceMethod yX0_hasSort ∈ WA := wa (tt3 (j := 31) rfl) rfl
theorem yv_X0_hasSort : Cond.selects yX0_hasSort.cls yX0_hasSort yX0_hasSort ∈ WA := wa (tt3 (j := 32) rfl) rfl
theorem yc_X7_row : Cond.code yX7_row cX7_row 4 (some .int) ∈ WA := wa (tt3 (j := 40) rfl) rfl
theorem yd_X7_row : yX7_row.cls ≠ "java/lang/invoke/MethodHandle" ∧ yX7_row.cls ≠ "java/lang/invoke/VarHandle" ∧ (parseMethodDescriptor yX7_row.desc).map (fun d => d.parameters.length) = some 3 := by decide +kernel
theorem ym_X7_row : Cond.instanceMethod yX7_row ∈ WA := wa (tt3 (j := 38) rfl) rfl
theorem yv_X7_row : Cond.selects yX7_row.cls yX7_row yX7_row ∈ WA := wa (tt3 (j := 39) rfl) rfl
theorem yc_X7_isShelf : Cond.code yX7_isShelf cX7_isShelf 1 (some .boolean) ∈ WA := wa (tt3 (j := 43) rfl) rfl
theorem yd_X7_isShelf : yX7_isShelf.cls ≠ "java/lang/invoke/MethodHandle" ∧ yX7_isShelf.cls ≠ "java/lang/invoke/VarHandle" ∧ (parseMethodDescriptor yX7_isShelf.desc).map (fun d => d.parameters.length) = some 1 := by decide +kernel
theorem ys_X7_isShelf : Cond.static yX7_isShelf ∈ WA := wa (tt3 (j := 42) rfl) rfl
theorem yc_X2_init : Cond.code yX2_init cX2_init 3 none ∈ WA := wa (tt3 (j := 47) rfl) rfl
theorem yd_X2_init : yX2_init.cls ≠ "java/lang/invoke/MethodHandle" ∧ yX2_init.cls ≠ "java/lang/invoke/VarHandle" ∧ (parseMethodDescriptor yX2_init.desc).map (fun d => d.parameters.length) = some 2 := by decide +kernel
theorem ym_X2_init : Cond.instanceMethod yX2_init ∈ WA := wa (tt3 (j := 46) rfl) rfl
theorem yc_X7_putOnShelf : Cond.code yX7_putOnShelf cX7_putOnShelf 4 none ∈ WA := wa (tt3 (j := 60) rfl) rfl
theorem yd_X7_putOnShelf : yX7_putOnShelf.cls ≠ "java/lang/invoke/MethodHandle" ∧ yX7_putOnShelf.cls ≠ "java/lang/invoke/VarHandle" ∧ (parseMethodDescriptor yX7_putOnShelf.desc).map (fun d => d.parameters.length) = some 3 := by decide +kernel
theorem ym_X7_putOnShelf : Cond.instanceMethod yX7_putOnShelf ∈ WA := wa (tt3 (j := 59) rfl) rfl
theorem yv_X7_putOnShelf : Cond.selects yX7_putOnShelf.cls yX7_putOnShelf yX7_putOnShelf ∈ WA := sel_in (q := (yX7_putOnShelf, 12)) (sp1 (j := 13) rfl)
theorem yc_X7_set : Cond.code yX7_set cX7_set 6 (some .int) ∈ WA := wa (tt3 (j := 64) rfl) rfl
theorem yd_X7_set : yX7_set.cls ≠ "java/lang/invoke/MethodHandle" ∧ yX7_set.cls ≠ "java/lang/invoke/VarHandle" ∧ (parseMethodDescriptor yX7_set.desc).map (fun d => d.parameters.length) = some 3 := by decide +kernel
theorem ym_X7_set : Cond.instanceMethod yX7_set ∈ WA := wa (tt3 (j := 62) rfl) rfl
theorem yv_X7_set : Cond.selects yX7_set.cls yX7_set yX7_set ∈ WA := wa (tt3 (j := 63) rfl) rfl
theorem yc_X7_lackOnShelf : Cond.code yX7_lackOnShelf cX7_lackOnShelf 2 (some .int) ∈ WA := wa (tt3 (j := 68) rfl) rfl
theorem yd_X7_lackOnShelf : yX7_lackOnShelf.cls ≠ "java/lang/invoke/MethodHandle" ∧ yX7_lackOnShelf.cls ≠ "java/lang/invoke/VarHandle" ∧ (parseMethodDescriptor yX7_lackOnShelf.desc).map (fun d => d.parameters.length) = some 1 := by decide +kernel
theorem ym_X7_lackOnShelf : Cond.instanceMethod yX7_lackOnShelf ∈ WA := wa (tt3 (j := 67) rfl) rfl
theorem yv_X7_lackOnShelf : Cond.selects yX7_lackOnShelf.cls yX7_lackOnShelf yX7_lackOnShelf ∈ WA := sel_in (q := (yX7_lackOnShelf, 12)) (sp1 (j := 14) rfl)
theorem yc_X2_hasPlace : Cond.code yX2_hasPlace cX2_hasPlace 2 (some .boolean) ∈ WA := wa (tt3 (j := 72) rfl) rfl
theorem yd_X2_hasPlace : yX2_hasPlace.cls ≠ "java/lang/invoke/MethodHandle" ∧ yX2_hasPlace.cls ≠ "java/lang/invoke/VarHandle" ∧ (parseMethodDescriptor yX2_hasPlace.desc).map (fun d => d.parameters.length) = some 1 := by decide +kernel
theorem ym_X2_hasPlace : Cond.instanceMethod yX2_hasPlace ∈ WA := wa (tt3 (j := 70) rfl) rfl
theorem yv_X2_hasPlace : Cond.selects yX2_hasPlace.cls yX2_hasPlace yX2_hasPlace ∈ WA := wa (tt3 (j := 71) rfl) rfl
theorem yc_X2_put : Cond.code yX2_put cX2_put 4 none ∈ WA := wa (tt3 (j := 76) rfl) rfl
theorem yd_X2_put : yX2_put.cls ≠ "java/lang/invoke/MethodHandle" ∧ yX2_put.cls ≠ "java/lang/invoke/VarHandle" ∧ (parseMethodDescriptor yX2_put.desc).map (fun d => d.parameters.length) = some 2 := by decide +kernel
theorem ym_X2_put : Cond.instanceMethod yX2_put ∈ WA := wa (tt3 (j := 74) rfl) rfl
theorem yv_X2_put : Cond.selects yX2_put.cls yX2_put yX2_put ∈ WA := wa (tt3 (j := 75) rfl) rfl
theorem yc_X2_lowestBits : Cond.code yX2_lowestBits cX2_lowestBits 3 (some .long) ∈ WA := wa (tt3 (j := 81) rfl) rfl
theorem yd_X2_lowestBits : yX2_lowestBits.cls ≠ "java/lang/invoke/MethodHandle" ∧ yX2_lowestBits.cls ≠ "java/lang/invoke/VarHandle" ∧ (parseMethodDescriptor yX2_lowestBits.desc).map (fun d => d.parameters.length) = some 1 := by decide +kernel
theorem ym_X2_lowestBits : Cond.instanceMethod yX2_lowestBits ∈ WA := wa (tt3 (j := 80) rfl) rfl
theorem yv_X2_lowestBits : Cond.selects yX2_lowestBits.cls yX2_lowestBits yX2_lowestBits ∈ WA := sel_in (q := (yX2_lowestBits, 2)) (sp1 (j := 15) rfl)
theorem yc_X7_rule : Cond.code yX7_rule cX7_rule 5 (some .int) ∈ WA := wa (tt3 (j := 85) rfl) rfl
theorem yd_X7_rule : yX7_rule.cls ≠ "java/lang/invoke/MethodHandle" ∧ yX7_rule.cls ≠ "java/lang/invoke/VarHandle" ∧ (parseMethodDescriptor yX7_rule.desc).map (fun d => d.parameters.length) = some 3 := by decide +kernel
theorem ym_X7_rule : Cond.instanceMethod yX7_rule ∈ WA := wa (tt3 (j := 83) rfl) rfl
theorem yv_X7_rule : Cond.selects yX7_rule.cls yX7_rule yX7_rule ∈ WA := wa (tt3 (j := 84) rfl) rfl
theorem yc_X3_mayBe : Cond.code yX3_mayBe cX3_mayBe 2 (some .boolean) ∈ WA := wa (tt3 (j := 88) rfl) rfl
theorem yd_X3_mayBe : yX3_mayBe.cls ≠ "java/lang/invoke/MethodHandle" ∧ yX3_mayBe.cls ≠ "java/lang/invoke/VarHandle" ∧ (parseMethodDescriptor yX3_mayBe.desc).map (fun d => d.parameters.length) = some 2 := by decide +kernel
theorem ys_X3_mayBe : Cond.static yX3_mayBe ∈ WA := wa (tt3 (j := 87) rfl) rfl
theorem yc_X3_init : Cond.code yX3_init cX3_init 4 none ∈ WA := wa (tt3 (j := 93) rfl) rfl
theorem yd_X3_init : yX3_init.cls ≠ "java/lang/invoke/MethodHandle" ∧ yX3_init.cls ≠ "java/lang/invoke/VarHandle" ∧ (parseMethodDescriptor yX3_init.desc).map (fun d => d.parameters.length) = some 3 := by decide +kernel
theorem ym_X3_init : Cond.instanceMethod yX3_init ∈ WA := wa (tt3 (j := 92) rfl) rfl
theorem yc_X2_twin : Cond.code yX2_twin cX2_twin 2 (some (.object "SendTheBox$Row")) ∈ WA := wa (tt3 (j := 98) rfl) rfl
theorem yd_X2_twin : yX2_twin.cls ≠ "java/lang/invoke/MethodHandle" ∧ yX2_twin.cls ≠ "java/lang/invoke/VarHandle" ∧ (parseMethodDescriptor yX2_twin.desc).map (fun d => d.parameters.length) = some 0 := by decide +kernel
theorem ym_X2_twin : Cond.instanceMethod yX2_twin ∈ WA := wa (tt3 (j := 96) rfl) rfl
theorem yv_X2_twin : Cond.selects yX2_twin.cls yX2_twin yX2_twin ∈ WA := wa (tt3 (j := 97) rfl) rfl
theorem yc_X2_take : Cond.code yX2_take cX2_take 5 none ∈ WA := wa (tt3 (j := 104) rfl) rfl
theorem yd_X2_take : yX2_take.cls ≠ "java/lang/invoke/MethodHandle" ∧ yX2_take.cls ≠ "java/lang/invoke/VarHandle" ∧ (parseMethodDescriptor yX2_take.desc).map (fun d => d.parameters.length) = some 4 := by decide +kernel
theorem ym_X2_take : Cond.instanceMethod yX2_take ∈ WA := wa (tt3 (j := 102) rfl) rfl
theorem yv_X2_take : Cond.selects yX2_take.cls yX2_take yX2_take ∈ WA := wa (tt3 (j := 103) rfl) rfl
theorem yc_X2_hasRange : Cond.code yX2_hasRange cX2_hasRange 3 (some .boolean) ∈ WA := wa (tt3 (j := 108) rfl) rfl
theorem yd_X2_hasRange : yX2_hasRange.cls ≠ "java/lang/invoke/MethodHandle" ∧ yX2_hasRange.cls ≠ "java/lang/invoke/VarHandle" ∧ (parseMethodDescriptor yX2_hasRange.desc).map (fun d => d.parameters.length) = some 2 := by decide +kernel
theorem ym_X2_hasRange : Cond.instanceMethod yX2_hasRange ∈ WA := wa (tt3 (j := 106) rfl) rfl
theorem yv_X2_hasRange : Cond.selects yX2_hasRange.cls yX2_hasRange yX2_hasRange ∈ WA := wa (tt3 (j := 107) rfl) rfl
theorem yc_X7_copy : Cond.code yX7_copy cX7_copy 8 (some .int) ∈ WA := wa (tt3 (j := 130) rfl) rfl
theorem yd_X7_copy : yX7_copy.cls ≠ "java/lang/invoke/MethodHandle" ∧ yX7_copy.cls ≠ "java/lang/invoke/VarHandle" ∧ (parseMethodDescriptor yX7_copy.desc).map (fun d => d.parameters.length) = some 5 := by decide +kernel
theorem ym_X7_copy : Cond.instanceMethod yX7_copy ∈ WA := wa (tt3 (j := 128) rfl) rfl
theorem yv_X7_copy : Cond.selects yX7_copy.cls yX7_copy yX7_copy ∈ WA := wa (tt3 (j := 129) rfl) rfl
theorem yc_X7_begin : Cond.code yX7_begin cX7_begin 5 (some .int) ∈ WA := wa (tt3 (j := 136) rfl) rfl
theorem yd_X7_begin : yX7_begin.cls ≠ "java/lang/invoke/MethodHandle" ∧ yX7_begin.cls ≠ "java/lang/invoke/VarHandle" ∧ (parseMethodDescriptor yX7_begin.desc).map (fun d => d.parameters.length) = some 2 := by decide +kernel
theorem ym_X7_begin : Cond.instanceMethod yX7_begin ∈ WA := wa (tt3 (j := 134) rfl) rfl
theorem yv_X7_begin : Cond.selects yX7_begin.cls yX7_begin yX7_begin ∈ WA := wa (tt3 (j := 135) rfl) rfl
theorem yc_X5_start : Cond.code yX5_start cX5_start 3 none ∈ WA := wa (tt3 (j := 140) rfl) rfl
theorem yd_X5_start : yX5_start.cls ≠ "java/lang/invoke/MethodHandle" ∧ yX5_start.cls ≠ "java/lang/invoke/VarHandle" ∧ (parseMethodDescriptor yX5_start.desc).map (fun d => d.parameters.length) = some 2 := by decide +kernel
theorem ym_X5_start : Cond.instanceMethod yX5_start ∈ WA := wa (tt3 (j := 138) rfl) rfl
theorem yv_X5_start : Cond.selects yX5_start.cls yX5_start yX5_start ∈ WA := wa (tt3 (j := 139) rfl) rfl
theorem yc_X7_step : Cond.code yX7_step cX7_step 3 (some .int) ∈ WA := wa (tt3 (j := 147) rfl) rfl
theorem yd_X7_step : yX7_step.cls ≠ "java/lang/invoke/MethodHandle" ∧ yX7_step.cls ≠ "java/lang/invoke/VarHandle" ∧ (parseMethodDescriptor yX7_step.desc).map (fun d => d.parameters.length) = some 1 := by decide +kernel
theorem ym_X7_step : Cond.instanceMethod yX7_step ∈ WA := wa (tt3 (j := 145) rfl) rfl
theorem yv_X7_step : Cond.selects yX7_step.cls yX7_step yX7_step ∈ WA := wa (tt3 (j := 146) rfl) rfl
theorem yc_X5_isUnderWay : Cond.code yX5_isUnderWay cX5_isUnderWay 1 (some .boolean) ∈ WA := wa (tt3 (j := 151) rfl) rfl
theorem yd_X5_isUnderWay : yX5_isUnderWay.cls ≠ "java/lang/invoke/MethodHandle" ∧ yX5_isUnderWay.cls ≠ "java/lang/invoke/VarHandle" ∧ (parseMethodDescriptor yX5_isUnderWay.desc).map (fun d => d.parameters.length) = some 0 := by decide +kernel
theorem ym_X5_isUnderWay : Cond.instanceMethod yX5_isUnderWay ∈ WA := wa (tt3 (j := 149) rfl) rfl
theorem yv_X5_isUnderWay : Cond.selects yX5_isUnderWay.cls yX5_isUnderWay yX5_isUnderWay ∈ WA := wa (tt3 (j := 150) rfl) rfl
theorem yc_X5_daysLeft : Cond.code yX5_daysLeft cX5_daysLeft 1 (some .int) ∈ WA := wa (tt3 (j := 155) rfl) rfl
theorem yd_X5_daysLeft : yX5_daysLeft.cls ≠ "java/lang/invoke/MethodHandle" ∧ yX5_daysLeft.cls ≠ "java/lang/invoke/VarHandle" ∧ (parseMethodDescriptor yX5_daysLeft.desc).map (fun d => d.parameters.length) = some 0 := by decide +kernel
theorem ym_X5_daysLeft : Cond.instanceMethod yX5_daysLeft ∈ WA := wa (tt3 (j := 153) rfl) rfl
theorem yv_X5_daysLeft : Cond.selects yX5_daysLeft.cls yX5_daysLeft yX5_daysLeft ∈ WA := wa (tt3 (j := 154) rfl) rfl
theorem yc_X1_getReadyFor : Cond.code yX1_getReadyFor cX1_getReadyFor 2 none ∈ WA := wa (tt3 (j := 159) rfl) rfl
theorem yd_X1_getReadyFor : yX1_getReadyFor.cls ≠ "java/lang/invoke/MethodHandle" ∧ yX1_getReadyFor.cls ≠ "java/lang/invoke/VarHandle" ∧ (parseMethodDescriptor yX1_getReadyFor.desc).map (fun d => d.parameters.length) = some 1 := by decide +kernel
theorem ym_X1_getReadyFor : Cond.instanceMethod yX1_getReadyFor ∈ WA := wa (tt3 (j := 157) rfl) rfl
theorem yv_X1_getReadyFor : Cond.selects yX1_getReadyFor.cls yX1_getReadyFor yX1_getReadyFor ∈ WA := wa (tt3 (j := 158) rfl) rfl
theorem yc_X1_workOut : Cond.code yX1_workOut cX1_workOut 4 none ∈ WA := wa (tt3 (j := 163) rfl) rfl
theorem yd_X1_workOut : yX1_workOut.cls ≠ "java/lang/invoke/MethodHandle" ∧ yX1_workOut.cls ≠ "java/lang/invoke/VarHandle" ∧ (parseMethodDescriptor yX1_workOut.desc).map (fun d => d.parameters.length) = some 1 := by decide +kernel
theorem ym_X1_workOut : Cond.instanceMethod yX1_workOut ∈ WA := wa (tt3 (j := 162) rfl) rfl
theorem yv_X1_workOut : Cond.selects yX1_workOut.cls yX1_workOut yX1_workOut ∈ WA := sel_in (q := (yX1_workOut, 15)) (sp2 (j := 0) rfl)
theorem yc_X1_startFromEnd : Cond.code yX1_startFromEnd cX1_startFromEnd 2 none ∈ WA := wa (tt3 (j := 168) rfl) rfl
theorem yd_X1_startFromEnd : yX1_startFromEnd.cls ≠ "java/lang/invoke/MethodHandle" ∧ yX1_startFromEnd.cls ≠ "java/lang/invoke/VarHandle" ∧ (parseMethodDescriptor yX1_startFromEnd.desc).map (fun d => d.parameters.length) = some 0 := by decide +kernel
theorem ym_X1_startFromEnd : Cond.instanceMethod yX1_startFromEnd ∈ WA := wa (tt3 (j := 167) rfl) rfl
theorem yv_X1_startFromEnd : Cond.selects yX1_startFromEnd.cls yX1_startFromEnd yX1_startFromEnd ∈ WA := sel_in (q := (yX1_startFromEnd, 15)) (sp2 (j := 1) rfl)
theorem yc_X7_put_ : Cond.code yX7_put_ cX7_put_ 4 none ∈ WA := wa (tt3 (j := 171) rfl) rfl
theorem yd_X7_put_ : yX7_put_.cls ≠ "java/lang/invoke/MethodHandle" ∧ yX7_put_.cls ≠ "java/lang/invoke/VarHandle" ∧ (parseMethodDescriptor yX7_put_.desc).map (fun d => d.parameters.length) = some 3 := by decide +kernel
theorem ys_X7_put_ : Cond.static yX7_put_ ∈ WA := wa (tt3 (j := 170) rfl) rfl
theorem yc_X1_takeCosts : Cond.code yX1_takeCosts cX1_takeCosts 3 none ∈ WA := wa (tt3 (j := 175) rfl) rfl
theorem yd_X1_takeCosts : yX1_takeCosts.cls ≠ "java/lang/invoke/MethodHandle" ∧ yX1_takeCosts.cls ≠ "java/lang/invoke/VarHandle" ∧ (parseMethodDescriptor yX1_takeCosts.desc).map (fun d => d.parameters.length) = some 1 := by decide +kernel
theorem ym_X1_takeCosts : Cond.instanceMethod yX1_takeCosts ∈ WA := wa (tt3 (j := 174) rfl) rfl
theorem yv_X1_takeCosts : Cond.selects yX1_takeCosts.cls yX1_takeCosts yX1_takeCosts ∈ WA := sel_in (q := (yX1_takeCosts, 15)) (sp2 (j := 2) rfl)
theorem yc_X1_placeOf : Cond.code yX1_placeOf cX1_placeOf 2 (some .int) ∈ WA := wa (tt3 (j := 178) rfl) rfl
theorem yd_X1_placeOf : yX1_placeOf.cls ≠ "java/lang/invoke/MethodHandle" ∧ yX1_placeOf.cls ≠ "java/lang/invoke/VarHandle" ∧ (parseMethodDescriptor yX1_placeOf.desc).map (fun d => d.parameters.length) = some 2 := by decide +kernel
theorem ys_X1_placeOf : Cond.static yX1_placeOf ∈ WA := wa (tt3 (j := 177) rfl) rfl
theorem yc_X7_at_ : Cond.code yX7_at_ cX7_at_ 2 (some .long) ∈ WA := wa (tt3 (j := 181) rfl) rfl
theorem yd_X7_at_ : yX7_at_.cls ≠ "java/lang/invoke/MethodHandle" ∧ yX7_at_.cls ≠ "java/lang/invoke/VarHandle" ∧ (parseMethodDescriptor yX7_at_.desc).map (fun d => d.parameters.length) = some 2 := by decide +kernel
theorem ys_X7_at_ : Cond.static yX7_at_ ∈ WA := wa (tt3 (j := 180) rfl) rfl
theorem yc_X1_goBackToLoad : Cond.code yX1_goBackToLoad cX1_goBackToLoad 15 none ∈ WA := wa (tt3 (j := 185) rfl) rfl
theorem yd_X1_goBackToLoad : yX1_goBackToLoad.cls ≠ "java/lang/invoke/MethodHandle" ∧ yX1_goBackToLoad.cls ≠ "java/lang/invoke/VarHandle" ∧ (parseMethodDescriptor yX1_goBackToLoad.desc).map (fun d => d.parameters.length) = some 1 := by decide +kernel
theorem ym_X1_goBackToLoad : Cond.instanceMethod yX1_goBackToLoad ∈ WA := wa (tt3 (j := 184) rfl) rfl
theorem yv_X1_goBackToLoad : Cond.selects yX1_goBackToLoad.cls yX1_goBackToLoad yX1_goBackToLoad ∈ WA := sel_in (q := (yX1_goBackToLoad, 15)) (sp2 (j := 3) rfl)
theorem yc_X7_scaleOf : Cond.code yX7_scaleOf cX7_scaleOf 2 (some .long) ∈ WA := wa (tt3 (j := 188) rfl) rfl
theorem yd_X7_scaleOf : yX7_scaleOf.cls ≠ "java/lang/invoke/MethodHandle" ∧ yX7_scaleOf.cls ≠ "java/lang/invoke/VarHandle" ∧ (parseMethodDescriptor yX7_scaleOf.desc).map (fun d => d.parameters.length) = some 2 := by decide +kernel
theorem ys_X7_scaleOf : Cond.static yX7_scaleOf ∈ WA := wa (tt3 (j := 187) rfl) rfl
theorem yc_X7_timesOf : Cond.code yX7_timesOf cX7_timesOf 1 (some .long) ∈ WA := wa (tt3 (j := 191) rfl) rfl
theorem yd_X7_timesOf : yX7_timesOf.cls ≠ "java/lang/invoke/MethodHandle" ∧ yX7_timesOf.cls ≠ "java/lang/invoke/VarHandle" ∧ (parseMethodDescriptor yX7_timesOf.desc).map (fun d => d.parameters.length) = some 1 := by decide +kernel
theorem ys_X7_timesOf : Cond.static yX7_timesOf ∈ WA := wa (tt3 (j := 190) rfl) rfl
theorem yc_X1_keepWork : Cond.code yX1_keepWork cX1_keepWork 4 none ∈ WA := wa (tt3 (j := 199) rfl) rfl
theorem yd_X1_keepWork : yX1_keepWork.cls ≠ "java/lang/invoke/MethodHandle" ∧ yX1_keepWork.cls ≠ "java/lang/invoke/VarHandle" ∧ (parseMethodDescriptor yX1_keepWork.desc).map (fun d => d.parameters.length) = some 2 := by decide +kernel
theorem ym_X1_keepWork : Cond.instanceMethod yX1_keepWork ∈ WA := wa (tt3 (j := 198) rfl) rfl
theorem yv_X1_keepWork : Cond.selects yX1_keepWork.cls yX1_keepWork yX1_keepWork ∈ WA := sel_in (q := (yX1_keepWork, 15)) (sp2 (j := 4) rfl)
theorem yc_X1_boxCost : Cond.code yX1_boxCost cX1_boxCost 2 (some .long) ∈ WA := wa (tt3 (j := 203) rfl) rfl
theorem yd_X1_boxCost : yX1_boxCost.cls ≠ "java/lang/invoke/MethodHandle" ∧ yX1_boxCost.cls ≠ "java/lang/invoke/VarHandle" ∧ (parseMethodDescriptor yX1_boxCost.desc).map (fun d => d.parameters.length) = some 1 := by decide +kernel
theorem ym_X1_boxCost : Cond.instanceMethod yX1_boxCost ∈ WA := wa (tt3 (j := 202) rfl) rfl
theorem yv_X1_boxCost : Cond.selects yX1_boxCost.cls yX1_boxCost yX1_boxCost ∈ WA := sel_in (q := (yX1_boxCost, 15)) (sp2 (j := 5) rfl)
theorem yc_X1_unitOf : Cond.code yX1_unitOf cX1_unitOf 2 (some .long) ∈ WA := wa (tt3 (j := 208) rfl) rfl
theorem yd_X1_unitOf : yX1_unitOf.cls ≠ "java/lang/invoke/MethodHandle" ∧ yX1_unitOf.cls ≠ "java/lang/invoke/VarHandle" ∧ (parseMethodDescriptor yX1_unitOf.desc).map (fun d => d.parameters.length) = some 1 := by decide +kernel
theorem ym_X1_unitOf : Cond.instanceMethod yX1_unitOf ∈ WA := wa (tt3 (j := 207) rfl) rfl
theorem yv_X1_unitOf : Cond.selects yX1_unitOf.cls yX1_unitOf yX1_unitOf ∈ WA := sel_in (q := (yX1_unitOf, 15)) (sp2 (j := 6) rfl)
theorem yc_X1_goBackBest : Cond.code yX1_goBackBest cX1_goBackBest 6 none ∈ WA := wa (tt3 (j := 213) rfl) rfl
theorem yd_X1_goBackBest : yX1_goBackBest.cls ≠ "java/lang/invoke/MethodHandle" ∧ yX1_goBackBest.cls ≠ "java/lang/invoke/VarHandle" ∧ (parseMethodDescriptor yX1_goBackBest.desc).map (fun d => d.parameters.length) = some 2 := by decide +kernel
theorem ym_X1_goBackBest : Cond.instanceMethod yX1_goBackBest ∈ WA := wa (tt3 (j := 212) rfl) rfl
theorem yv_X1_goBackBest : Cond.selects yX1_goBackBest.cls yX1_goBackBest yX1_goBackBest ∈ WA := sel_in (q := (yX1_goBackBest, 15)) (sp2 (j := 7) rfl)
theorem yc_X1_pick : Cond.code yX1_pick cX1_pick 15 (some .int) ∈ WA := wa (tt3 (j := 217) rfl) rfl
theorem yd_X1_pick : yX1_pick.cls ≠ "java/lang/invoke/MethodHandle" ∧ yX1_pick.cls ≠ "java/lang/invoke/VarHandle" ∧ (parseMethodDescriptor yX1_pick.desc).map (fun d => d.parameters.length) = some 3 := by decide +kernel
theorem ym_X1_pick : Cond.instanceMethod yX1_pick ∈ WA := wa (tt3 (j := 216) rfl) rfl
theorem yv_X1_pick : Cond.selects yX1_pick.cls yX1_pick yX1_pick ∈ WA := sel_in (q := (yX1_pick, 15)) (sp2 (j := 8) rfl)
theorem yc_X1_mix : Cond.code yX1_mix cX1_mix 11 none ∈ WA := wa (tt3 (j := 221) rfl) rfl
theorem yd_X1_mix : yX1_mix.cls ≠ "java/lang/invoke/MethodHandle" ∧ yX1_mix.cls ≠ "java/lang/invoke/VarHandle" ∧ (parseMethodDescriptor yX1_mix.desc).map (fun d => d.parameters.length) = some 3 := by decide +kernel
theorem ym_X1_mix : Cond.instanceMethod yX1_mix ∈ WA := wa (tt3 (j := 220) rfl) rfl
theorem yv_X1_mix : Cond.selects yX1_mix.cls yX1_mix yX1_mix ∈ WA := sel_in (q := (yX1_mix, 15)) (sp2 (j := 9) rfl)
theorem yc_X7_passDays : Cond.code yX7_passDays cX7_passDays 6 (some .int) ∈ WA := wa (tt3 (j := 225) rfl) rfl
theorem yd_X7_passDays : yX7_passDays.cls ≠ "java/lang/invoke/MethodHandle" ∧ yX7_passDays.cls ≠ "java/lang/invoke/VarHandle" ∧ (parseMethodDescriptor yX7_passDays.desc).map (fun d => d.parameters.length) = some 3 := by decide +kernel
theorem ym_X7_passDays : Cond.instanceMethod yX7_passDays ∈ WA := wa (tt3 (j := 224) rfl) rfl
theorem yv_X7_passDays : Cond.selects yX7_passDays.cls yX7_passDays yX7_passDays ∈ WA := sel_in (q := (yX7_passDays, 12)) (sp2 (j := 10) rfl)
theorem yc_X5_passDay : Cond.code yX5_passDay cX5_passDay 6 (some .int) ∈ WA := wa (tt3 (j := 229) rfl) rfl
theorem yd_X5_passDay : yX5_passDay.cls ≠ "java/lang/invoke/MethodHandle" ∧ yX5_passDay.cls ≠ "java/lang/invoke/VarHandle" ∧ (parseMethodDescriptor yX5_passDay.desc).map (fun d => d.parameters.length) = some 2 := by decide +kernel
theorem ym_X5_passDay : Cond.instanceMethod yX5_passDay ∈ WA := wa (tt3 (j := 227) rfl) rfl
theorem yv_X5_passDay : Cond.selects yX5_passDay.cls yX5_passDay yX5_passDay ∈ WA := wa (tt3 (j := 228) rfl) rfl
theorem yc_X6_draw : Cond.code yX6_draw cX6_draw 2 (some .int) ∈ WA := wa (tt3 (j := 233) rfl) rfl
theorem yd_X6_draw : yX6_draw.cls ≠ "java/lang/invoke/MethodHandle" ∧ yX6_draw.cls ≠ "java/lang/invoke/VarHandle" ∧ (parseMethodDescriptor yX6_draw.desc).map (fun d => d.parameters.length) = some 1 := by decide +kernel
theorem ym_X6_draw : Cond.instanceMethod yX6_draw ∈ WA := wa (tt3 (j := 231) rfl) rfl
theorem yv_X6_draw : Cond.selects yX6_draw.cls yX6_draw yX6_draw ∈ WA := wa (tt3 (j := 232) rfl) rfl
theorem yc_X1_loadBy : Cond.code yX1_loadBy cX1_loadBy 4 (some .int) ∈ WA := wa (tt3 (j := 239) rfl) rfl
theorem yd_X1_loadBy : yX1_loadBy.cls ≠ "java/lang/invoke/MethodHandle" ∧ yX1_loadBy.cls ≠ "java/lang/invoke/VarHandle" ∧ (parseMethodDescriptor yX1_loadBy.desc).map (fun d => d.parameters.length) = some 3 := by decide +kernel
theorem ym_X1_loadBy : Cond.instanceMethod yX1_loadBy ∈ WA := wa (tt3 (j := 237) rfl) rfl
theorem yv_X1_loadBy : Cond.selects yX1_loadBy.cls yX1_loadBy yX1_loadBy ∈ WA := wa (tt3 (j := 238) rfl) rfl
theorem yc_X1_loadWorkedOut : Cond.code yX1_loadWorkedOut cX1_loadWorkedOut 3 (some .int) ∈ WA := wa (tt4 (j := 3) rfl) rfl
theorem yd_X1_loadWorkedOut : yX1_loadWorkedOut.cls ≠ "java/lang/invoke/MethodHandle" ∧ yX1_loadWorkedOut.cls ≠ "java/lang/invoke/VarHandle" ∧ (parseMethodDescriptor yX1_loadWorkedOut.desc).map (fun d => d.parameters.length) = some 2 := by decide +kernel
theorem ym_X1_loadWorkedOut : Cond.instanceMethod yX1_loadWorkedOut ∈ WA := wa (tt4 (j := 2) rfl) rfl
theorem yv_X1_loadWorkedOut : Cond.selects yX1_loadWorkedOut.cls yX1_loadWorkedOut yX1_loadWorkedOut ∈ WA := sel_in (q := (yX1_loadWorkedOut, 15)) (sp2 (j := 11) rfl)
theorem yc_X1_roomOf : Cond.code yX1_roomOf cX1_roomOf 2 (some .int) ∈ WA := wa (tt4 (j := 7) rfl) rfl
theorem yd_X1_roomOf : yX1_roomOf.cls ≠ "java/lang/invoke/MethodHandle" ∧ yX1_roomOf.cls ≠ "java/lang/invoke/VarHandle" ∧ (parseMethodDescriptor yX1_roomOf.desc).map (fun d => d.parameters.length) = some 1 := by decide +kernel
theorem ym_X1_roomOf : Cond.instanceMethod yX1_roomOf ∈ WA := wa (tt4 (j := 5) rfl) rfl
theorem yv_X1_roomOf : Cond.selects yX1_roomOf.cls yX1_roomOf yX1_roomOf ∈ WA := wa (tt4 (j := 6) rfl) rfl
theorem yc_X3_fills : Cond.code yX3_fills cX3_fills 4 (some .boolean) ∈ WA := wa (tt4 (j := 11) rfl) rfl
theorem yd_X3_fills : yX3_fills.cls ≠ "java/lang/invoke/MethodHandle" ∧ yX3_fills.cls ≠ "java/lang/invoke/VarHandle" ∧ (parseMethodDescriptor yX3_fills.desc).map (fun d => d.parameters.length) = some 3 := by decide +kernel
theorem ym_X3_fills : Cond.instanceMethod yX3_fills ∈ WA := wa (tt4 (j := 9) rfl) rfl
theorem yv_X3_fills : Cond.selects yX3_fills.cls yX3_fills yX3_fills ∈ WA := wa (tt4 (j := 10) rfl) rfl
theorem yc_X3_isItsDay : Cond.code yX3_isItsDay cX3_isItsDay 2 (some .boolean) ∈ WA := wa (tt4 (j := 15) rfl) rfl
theorem yd_X3_isItsDay : yX3_isItsDay.cls ≠ "java/lang/invoke/MethodHandle" ∧ yX3_isItsDay.cls ≠ "java/lang/invoke/VarHandle" ∧ (parseMethodDescriptor yX3_isItsDay.desc).map (fun d => d.parameters.length) = some 1 := by decide +kernel
theorem ym_X3_isItsDay : Cond.instanceMethod yX3_isItsDay ∈ WA := wa (tt4 (j := 14) rfl) rfl
theorem yv_X3_isItsDay : Cond.selects yX3_isItsDay.cls yX3_isItsDay yX3_isItsDay ∈ WA := sel_in (q := (yX3_isItsDay, 4)) (sp2 (j := 12) rfl)
theorem yc_X2_valueAt : Cond.code yX2_valueAt cX2_valueAt 2 (some .long) ∈ WA := wa (tt4 (j := 19) rfl) rfl
theorem yd_X2_valueAt : yX2_valueAt.cls ≠ "java/lang/invoke/MethodHandle" ∧ yX2_valueAt.cls ≠ "java/lang/invoke/VarHandle" ∧ (parseMethodDescriptor yX2_valueAt.desc).map (fun d => d.parameters.length) = some 1 := by decide +kernel
theorem ym_X2_valueAt : Cond.instanceMethod yX2_valueAt ∈ WA := wa (tt4 (j := 17) rfl) rfl
theorem yv_X2_valueAt : Cond.selects yX2_valueAt.cls yX2_valueAt yX2_valueAt ∈ WA := wa (tt4 (j := 18) rfl) rfl
theorem yc_X5_send : Cond.code yX5_send cX5_send 3 (some .int) ∈ WA := wa (tt4 (j := 25) rfl) rfl
theorem yd_X5_send : yX5_send.cls ≠ "java/lang/invoke/MethodHandle" ∧ yX5_send.cls ≠ "java/lang/invoke/VarHandle" ∧ (parseMethodDescriptor yX5_send.desc).map (fun d => d.parameters.length) = some 1 := by decide +kernel
theorem ym_X5_send : Cond.instanceMethod yX5_send ∈ WA := wa (tt4 (j := 24) rfl) rfl
theorem yv_X5_send : Cond.selects yX5_send.cls yX5_send yX5_send ∈ WA := sel_in (q := (yX5_send, 8)) (sp2 (j := 13) rfl)
theorem yc_X5_receive : Cond.code yX5_receive cX5_receive 2 (some .int) ∈ WA := wa (tt4 (j := 33) rfl) rfl
theorem yd_X5_receive : yX5_receive.cls ≠ "java/lang/invoke/MethodHandle" ∧ yX5_receive.cls ≠ "java/lang/invoke/VarHandle" ∧ (parseMethodDescriptor yX5_receive.desc).map (fun d => d.parameters.length) = some 1 := by decide +kernel
theorem ym_X5_receive : Cond.instanceMethod yX5_receive ∈ WA := wa (tt4 (j := 32) rfl) rfl
theorem yv_X5_receive : Cond.selects yX5_receive.cls yX5_receive yX5_receive ∈ WA := sel_in (q := (yX5_receive, 8)) (sp2 (j := 14) rfl)
theorem yc_X7_weeks : Cond.code yX7_weeks cX7_weeks 8 (some .int) ∈ WA := wa (tt4 (j := 38) rfl) rfl
theorem yd_X7_weeks : yX7_weeks.cls ≠ "java/lang/invoke/MethodHandle" ∧ yX7_weeks.cls ≠ "java/lang/invoke/VarHandle" ∧ (parseMethodDescriptor yX7_weeks.desc).map (fun d => d.parameters.length) = some 3 := by decide +kernel
theorem ym_X7_weeks : Cond.instanceMethod yX7_weeks ∈ WA := wa (tt4 (j := 36) rfl) rfl
theorem yv_X7_weeks : Cond.selects yX7_weeks.cls yX7_weeks yX7_weeks ∈ WA := wa (tt4 (j := 37) rfl) rfl
theorem yc_X7_ruleFor : Cond.code yX7_ruleFor cX7_ruleFor 4 (some (.object "SendTheBox$Rule")) ∈ WA := wa (tt4 (j := 42) rfl) rfl
theorem yd_X7_ruleFor : yX7_ruleFor.cls ≠ "java/lang/invoke/MethodHandle" ∧ yX7_ruleFor.cls ≠ "java/lang/invoke/VarHandle" ∧ (parseMethodDescriptor yX7_ruleFor.desc).map (fun d => d.parameters.length) = some 2 := by decide +kernel
theorem ym_X7_ruleFor : Cond.instanceMethod yX7_ruleFor ∈ WA := wa (tt4 (j := 41) rfl) rfl
theorem yv_X7_ruleFor : Cond.selects yX7_ruleFor.cls yX7_ruleFor yX7_ruleFor ∈ WA := sel_in (q := (yX7_ruleFor, 12)) (sp2 (j := 15) rfl)
theorem yc_X7_join : Cond.code yX7_join cX7_join 5 (some .int) ∈ WA := wa (tt4 (j := 46) rfl) rfl
theorem yd_X7_join : yX7_join.cls ≠ "java/lang/invoke/MethodHandle" ∧ yX7_join.cls ≠ "java/lang/invoke/VarHandle" ∧ (parseMethodDescriptor yX7_join.desc).map (fun d => d.parameters.length) = some 2 := by decide +kernel
theorem ym_X7_join : Cond.instanceMethod yX7_join ∈ WA := wa (tt4 (j := 44) rfl) rfl
theorem yv_X7_join : Cond.selects yX7_join.cls yX7_join yX7_join ∈ WA := wa (tt4 (j := 45) rfl) rfl
theorem yc_X0_goesWith : Cond.code yX0_goesWith cX0_goesWith 2 (some .boolean) ∈ WA := wa (tt4 (j := 50) rfl) rfl
theorem yd_X0_goesWith : yX0_goesWith.cls ≠ "java/lang/invoke/MethodHandle" ∧ yX0_goesWith.cls ≠ "java/lang/invoke/VarHandle" ∧ (parseMethodDescriptor yX0_goesWith.desc).map (fun d => d.parameters.length) = some 1 := by decide +kernel
theorem ym_X0_goesWith : Cond.instanceMethod yX0_goesWith ∈ WA := wa (tt4 (j := 48) rfl) rfl
theorem yv_X0_goesWith : Cond.selects yX0_goesWith.cls yX0_goesWith yX0_goesWith ∈ WA := wa (tt4 (j := 49) rfl) rfl
theorem yc_X0_addSortsOf : Cond.code yX0_addSortsOf cX0_addSortsOf 4 none ∈ WA := wa (tt4 (j := 56) rfl) rfl
theorem yd_X0_addSortsOf : yX0_addSortsOf.cls ≠ "java/lang/invoke/MethodHandle" ∧ yX0_addSortsOf.cls ≠ "java/lang/invoke/VarHandle" ∧ (parseMethodDescriptor yX0_addSortsOf.desc).map (fun d => d.parameters.length) = some 1 := by decide +kernel
theorem ym_X0_addSortsOf : Cond.instanceMethod yX0_addSortsOf ∈ WA := wa (tt4 (j := 54) rfl) rfl
theorem yv_X0_addSortsOf : Cond.selects yX0_addSortsOf.cls yX0_addSortsOf yX0_addSortsOf ∈ WA := wa (tt4 (j := 55) rfl) rfl
theorem yc_X7_image : Cond.code yX7_image cX7_image 1 (some .int) ∈ WA := wa (tt4 (j := 61) rfl) rfl
theorem yd_X7_image : yX7_image.cls ≠ "java/lang/invoke/MethodHandle" ∧ yX7_image.cls ≠ "java/lang/invoke/VarHandle" ∧ (parseMethodDescriptor yX7_image.desc).map (fun d => d.parameters.length) = some 0 := by decide +kernel
theorem ym_X7_image : Cond.instanceMethod yX7_image ∈ WA := wa (tt4 (j := 59) rfl) rfl
theorem yv_X7_image : Cond.selects yX7_image.cls yX7_image yX7_image ∈ WA := wa (tt4 (j := 60) rfl) rfl
theorem yc_X6_become : Cond.code yX6_become cX6_become 3 none ∈ WA := wa (tt4 (j := 65) rfl) rfl
theorem yd_X6_become : yX6_become.cls ≠ "java/lang/invoke/MethodHandle" ∧ yX6_become.cls ≠ "java/lang/invoke/VarHandle" ∧ (parseMethodDescriptor yX6_become.desc).map (fun d => d.parameters.length) = some 1 := by decide +kernel
theorem ym_X6_become : Cond.instanceMethod yX6_become ∈ WA := wa (tt4 (j := 63) rfl) rfl
theorem yv_X6_become : Cond.selects yX6_become.cls yX6_become yX6_become ∈ WA := wa (tt4 (j := 64) rfl) rfl
theorem yc_X5_become : Cond.code yX5_become cX5_become 2 none ∈ WA := wa (tt4 (j := 69) rfl) rfl
theorem yd_X5_become : yX5_become.cls ≠ "java/lang/invoke/MethodHandle" ∧ yX5_become.cls ≠ "java/lang/invoke/VarHandle" ∧ (parseMethodDescriptor yX5_become.desc).map (fun d => d.parameters.length) = some 1 := by decide +kernel
theorem ym_X5_become : Cond.instanceMethod yX5_become ∈ WA := wa (tt4 (j := 67) rfl) rfl
theorem yv_X5_become : Cond.selects yX5_become.cls yX5_become yX5_become ∈ WA := wa (tt4 (j := 68) rfl) rfl
theorem yc_X7_back : Cond.code yX7_back cX7_back 1 (some .int) ∈ WA := wa (tt4 (j := 73) rfl) rfl
theorem yd_X7_back : yX7_back.cls ≠ "java/lang/invoke/MethodHandle" ∧ yX7_back.cls ≠ "java/lang/invoke/VarHandle" ∧ (parseMethodDescriptor yX7_back.desc).map (fun d => d.parameters.length) = some 0 := by decide +kernel
theorem ym_X7_back : Cond.instanceMethod yX7_back ∈ WA := wa (tt4 (j := 71) rfl) rfl
theorem yv_X7_back : Cond.selects yX7_back.cls yX7_back yX7_back ∈ WA := wa (tt4 (j := 72) rfl) rfl
theorem yc_L_holds : Cond.code yL_holds cL_holds 12 (some .boolean) ∈ WA := wa (tt4 (j := 76) rfl) rfl
theorem yd_L_holds : yL_holds.cls ≠ "java/lang/invoke/MethodHandle" ∧ yL_holds.cls ≠ "java/lang/invoke/VarHandle" ∧ (parseMethodDescriptor yL_holds.desc).map (fun d => d.parameters.length) = some 3 := by decide +kernel
theorem ys_L_holds : Cond.static yL_holds ∈ WA := wa (tt4 (j := 75) rfl) rfl
theorem yc_L_states : Cond.code yL_states cL_states 3 (some .int) ∈ WA := wa (tt4 (j := 79) rfl) rfl
theorem yd_L_states : yL_states.cls ≠ "java/lang/invoke/MethodHandle" ∧ yL_states.cls ≠ "java/lang/invoke/VarHandle" ∧ (parseMethodDescriptor yL_states.desc).map (fun d => d.parameters.length) = some 2 := by decide +kernel
theorem ys_L_states : Cond.static yL_states ∈ WA := wa (tt4 (j := 78) rfl) rfl
theorem yc_X7_best : Cond.code yX7_best cX7_best 5 (some .int) ∈ WA := wa (tt4 (j := 83) rfl) rfl
theorem yd_X7_best : yX7_best.cls ≠ "java/lang/invoke/MethodHandle" ∧ yX7_best.cls ≠ "java/lang/invoke/VarHandle" ∧ (parseMethodDescriptor yX7_best.desc).map (fun d => d.parameters.length) = some 3 := by decide +kernel
theorem ym_X7_best : Cond.instanceMethod yX7_best ∈ WA := wa (tt4 (j := 81) rfl) rfl
theorem yv_X7_best : Cond.selects yX7_best.cls yX7_best yX7_best ∈ WA := wa (tt4 (j := 82) rfl) rfl
theorem yc_X1_hasDay : Cond.code yX1_hasDay cX1_hasDay 3 (some .boolean) ∈ WA := wa (tt4 (j := 87) rfl) rfl
theorem yd_X1_hasDay : yX1_hasDay.cls ≠ "java/lang/invoke/MethodHandle" ∧ yX1_hasDay.cls ≠ "java/lang/invoke/VarHandle" ∧ (parseMethodDescriptor yX1_hasDay.desc).map (fun d => d.parameters.length) = some 2 := by decide +kernel
theorem ym_X1_hasDay : Cond.instanceMethod yX1_hasDay ∈ WA := wa (tt4 (j := 85) rfl) rfl
theorem yv_X1_hasDay : Cond.selects yX1_hasDay.cls yX1_hasDay yX1_hasDay ∈ WA := wa (tt4 (j := 86) rfl) rfl
theorem yc_X1_hasPlace : Cond.code yX1_hasPlace cX1_hasPlace 3 (some .boolean) ∈ WA := wa (tt4 (j := 91) rfl) rfl
theorem yd_X1_hasPlace : yX1_hasPlace.cls ≠ "java/lang/invoke/MethodHandle" ∧ yX1_hasPlace.cls ≠ "java/lang/invoke/VarHandle" ∧ (parseMethodDescriptor yX1_hasPlace.desc).map (fun d => d.parameters.length) = some 2 := by decide +kernel
theorem ym_X1_hasPlace : Cond.instanceMethod yX1_hasPlace ∈ WA := wa (tt4 (j := 89) rfl) rfl
theorem yv_X1_hasPlace : Cond.selects yX1_hasPlace.cls yX1_hasPlace yX1_hasPlace ∈ WA := wa (tt4 (j := 90) rfl) rfl
theorem yc_X1_bestLoad : Cond.code yX1_bestLoad cX1_bestLoad 3 (some .int) ∈ WA := wa (tt4 (j := 96) rfl) rfl
theorem yd_X1_bestLoad : yX1_bestLoad.cls ≠ "java/lang/invoke/MethodHandle" ∧ yX1_bestLoad.cls ≠ "java/lang/invoke/VarHandle" ∧ (parseMethodDescriptor yX1_bestLoad.desc).map (fun d => d.parameters.length) = some 2 := by decide +kernel
theorem ym_X1_bestLoad : Cond.instanceMethod yX1_bestLoad ∈ WA := wa (tt4 (j := 94) rfl) rfl
theorem yv_X1_bestLoad : Cond.selects yX1_bestLoad.cls yX1_bestLoad yX1_bestLoad ∈ WA := wa (tt4 (j := 95) rfl) rfl
theorem yc_X7_cost : Cond.code yX7_cost cX7_cost 5 (some .long) ∈ WA := wa (tt4 (j := 100) rfl) rfl
theorem yd_X7_cost : yX7_cost.cls ≠ "java/lang/invoke/MethodHandle" ∧ yX7_cost.cls ≠ "java/lang/invoke/VarHandle" ∧ (parseMethodDescriptor yX7_cost.desc).map (fun d => d.parameters.length) = some 3 := by decide +kernel
theorem ym_X7_cost : Cond.instanceMethod yX7_cost ∈ WA := wa (tt4 (j := 98) rfl) rfl
theorem yv_X7_cost : Cond.selects yX7_cost.cls yX7_cost yX7_cost ∈ WA := wa (tt4 (j := 99) rfl) rfl
theorem yc_X1_leastCost : Cond.code yX1_leastCost cX1_leastCost 3 (some .long) ∈ WA := wa (tt4 (j := 105) rfl) rfl
theorem yd_X1_leastCost : yX1_leastCost.cls ≠ "java/lang/invoke/MethodHandle" ∧ yX1_leastCost.cls ≠ "java/lang/invoke/VarHandle" ∧ (parseMethodDescriptor yX1_leastCost.desc).map (fun d => d.parameters.length) = some 2 := by decide +kernel
theorem ym_X1_leastCost : Cond.instanceMethod yX1_leastCost ∈ WA := wa (tt4 (j := 103) rfl) rfl
theorem yv_X1_leastCost : Cond.selects yX1_leastCost.cls yX1_leastCost yX1_leastCost ∈ WA := wa (tt4 (j := 104) rfl) rfl
theorem yc_L_sum : Cond.code yL_sum cL_sum 6 (some .int) ∈ WA := wa (tt4 (j := 108) rfl) rfl
theorem yd_L_sum : yL_sum.cls ≠ "java/lang/invoke/MethodHandle" ∧ yL_sum.cls ≠ "java/lang/invoke/VarHandle" ∧ (parseMethodDescriptor yL_sum.desc).map (fun d => d.parameters.length) = some 4 := by decide +kernel
theorem ys_L_sum : Cond.static yL_sum ∈ WA := wa (tt4 (j := 107) rfl) rfl
theorem yc_X7_of : Cond.code yX7_of cX7_of 3 (some .int) ∈ WA := wa (tt4 (j := 112) rfl) rfl
theorem yd_X7_of : yX7_of.cls ≠ "java/lang/invoke/MethodHandle" ∧ yX7_of.cls ≠ "java/lang/invoke/VarHandle" ∧ (parseMethodDescriptor yX7_of.desc).map (fun d => d.parameters.length) = some 2 := by decide +kernel
theorem ym_X7_of : Cond.instanceMethod yX7_of ∈ WA := wa (tt4 (j := 110) rfl) rfl
theorem yv_X7_of : Cond.selects yX7_of.cls yX7_of yX7_of ∈ WA := wa (tt4 (j := 111) rfl) rfl
theorem yc_X7_sortOf : Cond.code yX7_sortOf cX7_sortOf 5 (some .int) ∈ WA := wa (tt4 (j := 117) rfl) rfl
theorem yd_X7_sortOf : yX7_sortOf.cls ≠ "java/lang/invoke/MethodHandle" ∧ yX7_sortOf.cls ≠ "java/lang/invoke/VarHandle" ∧ (parseMethodDescriptor yX7_sortOf.desc).map (fun d => d.parameters.length) = some 3 := by decide +kernel
theorem ym_X7_sortOf : Cond.instanceMethod yX7_sortOf ∈ WA := wa (tt4 (j := 115) rfl) rfl
theorem yv_X7_sortOf : Cond.selects yX7_sortOf.cls yX7_sortOf yX7_sortOf ∈ WA := wa (tt4 (j := 116) rfl) rfl
theorem yc_X7_waits : Cond.code yX7_waits cX7_waits 5 (some .long) ∈ WA := wa (tt4 (j := 121) rfl) rfl
theorem yd_X7_waits : yX7_waits.cls ≠ "java/lang/invoke/MethodHandle" ∧ yX7_waits.cls ≠ "java/lang/invoke/VarHandle" ∧ (parseMethodDescriptor yX7_waits.desc).map (fun d => d.parameters.length) = some 3 := by decide +kernel
theorem ym_X7_waits : Cond.instanceMethod yX7_waits ∈ WA := wa (tt4 (j := 119) rfl) rfl
theorem yv_X7_waits : Cond.selects yX7_waits.cls yX7_waits yX7_waits ∈ WA := wa (tt4 (j := 120) rfl) rfl
theorem yc_X1_costWith : Cond.code yX1_costWith cX1_costWith 10 (some .long) ∈ WA := wa (tt4 (j := 125) rfl) rfl
theorem yd_X1_costWith : yX1_costWith.cls ≠ "java/lang/invoke/MethodHandle" ∧ yX1_costWith.cls ≠ "java/lang/invoke/VarHandle" ∧ (parseMethodDescriptor yX1_costWith.desc).map (fun d => d.parameters.length) = some 3 := by decide +kernel
theorem ym_X1_costWith : Cond.instanceMethod yX1_costWith ∈ WA := wa (tt4 (j := 123) rfl) rfl
theorem yv_X1_costWith : Cond.selects yX1_costWith.cls yX1_costWith yX1_costWith ∈ WA := wa (tt4 (j := 124) rfl) rfl
theorem yc_X7_once : Cond.code yX7_once cX7_once 5 (some .long) ∈ WA := wa (tt4 (j := 129) rfl) rfl
theorem yd_X7_once : yX7_once.cls ≠ "java/lang/invoke/MethodHandle" ∧ yX7_once.cls ≠ "java/lang/invoke/VarHandle" ∧ (parseMethodDescriptor yX7_once.desc).map (fun d => d.parameters.length) = some 3 := by decide +kernel
theorem ym_X7_once : Cond.instanceMethod yX7_once ∈ WA := wa (tt4 (j := 127) rfl) rfl
theorem yv_X7_once : Cond.selects yX7_once.cls yX7_once yX7_once ∈ WA := wa (tt4 (j := 128) rfl) rfl
theorem yc_X7_promise : Cond.code yX7_promise cX7_promise 4 (some .long) ∈ WA := wa (tt4 (j := 133) rfl) rfl
theorem yd_X7_promise : yX7_promise.cls ≠ "java/lang/invoke/MethodHandle" ∧ yX7_promise.cls ≠ "java/lang/invoke/VarHandle" ∧ (parseMethodDescriptor yX7_promise.desc).map (fun d => d.parameters.length) = some 2 := by decide +kernel
theorem ym_X7_promise : Cond.instanceMethod yX7_promise ∈ WA := wa (tt4 (j := 131) rfl) rfl
theorem yv_X7_promise : Cond.selects yX7_promise.cls yX7_promise yX7_promise ∈ WA := wa (tt4 (j := 132) rfl) rfl
theorem yc_X1_costOfPromise : Cond.code yX1_costOfPromise cX1_costOfPromise 3 (some .long) ∈ WA := wa (tt4 (j := 137) rfl) rfl
theorem yd_X1_costOfPromise : yX1_costOfPromise.cls ≠ "java/lang/invoke/MethodHandle" ∧ yX1_costOfPromise.cls ≠ "java/lang/invoke/VarHandle" ∧ (parseMethodDescriptor yX1_costOfPromise.desc).map (fun d => d.parameters.length) = some 1 := by decide +kernel
theorem ym_X1_costOfPromise : Cond.instanceMethod yX1_costOfPromise ∈ WA := wa (tt4 (j := 135) rfl) rfl
theorem yv_X1_costOfPromise : Cond.selects yX1_costOfPromise.cls yX1_costOfPromise yX1_costOfPromise ∈ WA := wa (tt4 (j := 136) rfl) rfl
theorem yc_X1_goBackPromised : Cond.code yX1_goBackPromised cX1_goBackPromised 5 none ∈ WA := wa (tt4 (j := 141) rfl) rfl
theorem yd_X1_goBackPromised : yX1_goBackPromised.cls ≠ "java/lang/invoke/MethodHandle" ∧ yX1_goBackPromised.cls ≠ "java/lang/invoke/VarHandle" ∧ (parseMethodDescriptor yX1_goBackPromised.desc).map (fun d => d.parameters.length) = some 2 := by decide +kernel
theorem ym_X1_goBackPromised : Cond.instanceMethod yX1_goBackPromised ∈ WA := wa (tt4 (j := 140) rfl) rfl
theorem yv_X1_goBackPromised : Cond.selects yX1_goBackPromised.cls yX1_goBackPromised yX1_goBackPromised ∈ WA := sel_in (q := (yX1_goBackPromised, 15)) (sp3 (j := 0) rfl)
theorem yc_X7_holds : Cond.code yX7_holds cX7_holds 4 (some .int) ∈ WA := wa (tt4 (j := 145) rfl) rfl
theorem yd_X7_holds : yX7_holds.cls ≠ "java/lang/invoke/MethodHandle" ∧ yX7_holds.cls ≠ "java/lang/invoke/VarHandle" ∧ (parseMethodDescriptor yX7_holds.desc).map (fun d => d.parameters.length) = some 1 := by decide +kernel
theorem ym_X7_holds : Cond.instanceMethod yX7_holds ∈ WA := wa (tt4 (j := 143) rfl) rfl
theorem yv_X7_holds : Cond.selects yX7_holds.cls yX7_holds yX7_holds ∈ WA := wa (tt4 (j := 144) rfl) rfl
theorem yc_X7_load : Cond.code yX7_load cX7_load 7 (some .int) ∈ WA := wa (tt4 (j := 149) rfl) rfl
theorem yd_X7_load : yX7_load.cls ≠ "java/lang/invoke/MethodHandle" ∧ yX7_load.cls ≠ "java/lang/invoke/VarHandle" ∧ (parseMethodDescriptor yX7_load.desc).map (fun d => d.parameters.length) = some 4 := by decide +kernel
theorem ym_X7_load : Cond.instanceMethod yX7_load ∈ WA := wa (tt4 (j := 147) rfl) rfl
theorem yv_X7_load : Cond.selects yX7_load.cls yX7_load yX7_load ∈ WA := wa (tt4 (j := 148) rfl) rfl
theorem yc_X7_lose : Cond.code yX7_lose cX7_lose 7 (some .long) ∈ WA := wa (tt4 (j := 154) rfl) rfl
theorem yd_X7_lose : yX7_lose.cls ≠ "java/lang/invoke/MethodHandle" ∧ yX7_lose.cls ≠ "java/lang/invoke/VarHandle" ∧ (parseMethodDescriptor yX7_lose.desc).map (fun d => d.parameters.length) = some 4 := by decide +kernel
theorem ym_X7_lose : Cond.instanceMethod yX7_lose ∈ WA := wa (tt4 (j := 152) rfl) rfl
theorem yv_X7_lose : Cond.selects yX7_lose.cls yX7_lose yX7_lose ∈ WA := wa (tt4 (j := 153) rfl) rfl
theorem yc_X1_costBy : Cond.code yX1_costBy cX1_costBy 8 (some .long) ∈ WA := wa (tt4 (j := 158) rfl) rfl
theorem yd_X1_costBy : yX1_costBy.cls ≠ "java/lang/invoke/MethodHandle" ∧ yX1_costBy.cls ≠ "java/lang/invoke/VarHandle" ∧ (parseMethodDescriptor yX1_costBy.desc).map (fun d => d.parameters.length) = some 3 := by decide +kernel
theorem ym_X1_costBy : Cond.instanceMethod yX1_costBy ∈ WA := wa (tt4 (j := 156) rfl) rfl
theorem yv_X1_costBy : Cond.selects yX1_costBy.cls yX1_costBy yX1_costBy ∈ WA := wa (tt4 (j := 157) rfl) rfl
theorem yc_X7_mean : Cond.code yX7_mean cX7_mean 7 (some .long) ∈ WA := wa (tt4 (j := 163) rfl) rfl
theorem yd_X7_mean : yX7_mean.cls ≠ "java/lang/invoke/MethodHandle" ∧ yX7_mean.cls ≠ "java/lang/invoke/VarHandle" ∧ (parseMethodDescriptor yX7_mean.desc).map (fun d => d.parameters.length) = some 4 := by decide +kernel
theorem ym_X7_mean : Cond.instanceMethod yX7_mean ∈ WA := wa (tt4 (j := 161) rfl) rfl
theorem yv_X7_mean : Cond.selects yX7_mean.cls yX7_mean yX7_mean ∈ WA := wa (tt4 (j := 162) rfl) rfl
theorem yc_X7_reach : Cond.code yX7_reach cX7_reach 6 (some .int) ∈ WA := wa (tt4 (j := 167) rfl) rfl
theorem yd_X7_reach : yX7_reach.cls ≠ "java/lang/invoke/MethodHandle" ∧ yX7_reach.cls ≠ "java/lang/invoke/VarHandle" ∧ (parseMethodDescriptor yX7_reach.desc).map (fun d => d.parameters.length) = some 3 := by decide +kernel
theorem ym_X7_reach : Cond.instanceMethod yX7_reach ∈ WA := wa (tt4 (j := 165) rfl) rfl
theorem yv_X7_reach : Cond.selects yX7_reach.cls yX7_reach yX7_reach ∈ WA := wa (tt4 (j := 166) rfl) rfl
theorem yc_X1_statesBy : Cond.code yX1_statesBy cX1_statesBy 5 (some .int) ∈ WA := wa (tt4 (j := 171) rfl) rfl
theorem yd_X1_statesBy : yX1_statesBy.cls ≠ "java/lang/invoke/MethodHandle" ∧ yX1_statesBy.cls ≠ "java/lang/invoke/VarHandle" ∧ (parseMethodDescriptor yX1_statesBy.desc).map (fun d => d.parameters.length) = some 2 := by decide +kernel
theorem ym_X1_statesBy : Cond.instanceMethod yX1_statesBy ∈ WA := wa (tt4 (j := 169) rfl) rfl
theorem yv_X1_statesBy : Cond.selects yX1_statesBy.cls yX1_statesBy yX1_statesBy ∈ WA := wa (tt4 (j := 170) rfl) rfl
theorem yc_X1_spread : Cond.code yX1_spread cX1_spread 4 none ∈ WA := wa (tt4 (j := 175) rfl) rfl
theorem yd_X1_spread : yX1_spread.cls ≠ "java/lang/invoke/MethodHandle" ∧ yX1_spread.cls ≠ "java/lang/invoke/VarHandle" ∧ (parseMethodDescriptor yX1_spread.desc).map (fun d => d.parameters.length) = some 2 := by decide +kernel
theorem ym_X1_spread : Cond.instanceMethod yX1_spread ∈ WA := wa (tt4 (j := 174) rfl) rfl
theorem yv_X1_spread : Cond.selects yX1_spread.cls yX1_spread yX1_spread ∈ WA := sel_in (q := (yX1_spread, 15)) (sp3 (j := 1) rfl)
theorem yc_X1_startSpread : Cond.code yX1_startSpread cX1_startSpread 2 none ∈ WA := wa (tt4 (j := 179) rfl) rfl
theorem yd_X1_startSpread : yX1_startSpread.cls ≠ "java/lang/invoke/MethodHandle" ∧ yX1_startSpread.cls ≠ "java/lang/invoke/VarHandle" ∧ (parseMethodDescriptor yX1_startSpread.desc).map (fun d => d.parameters.length) = some 0 := by decide +kernel
theorem ym_X1_startSpread : Cond.instanceMethod yX1_startSpread ∈ WA := wa (tt4 (j := 178) rfl) rfl
theorem yv_X1_startSpread : Cond.selects yX1_startSpread.cls yX1_startSpread yX1_startSpread ∈ WA := sel_in (q := (yX1_startSpread, 15)) (sp3 (j := 2) rfl)
theorem yc_X1_spreadLoad : Cond.code yX1_spreadLoad cX1_spreadLoad 13 (some .long) ∈ WA := wa (tt4 (j := 183) rfl) rfl
theorem yd_X1_spreadLoad : yX1_spreadLoad.cls ≠ "java/lang/invoke/MethodHandle" ∧ yX1_spreadLoad.cls ≠ "java/lang/invoke/VarHandle" ∧ (parseMethodDescriptor yX1_spreadLoad.desc).map (fun d => d.parameters.length) = some 2 := by decide +kernel
theorem ym_X1_spreadLoad : Cond.instanceMethod yX1_spreadLoad ∈ WA := wa (tt4 (j := 182) rfl) rfl
theorem yv_X1_spreadLoad : Cond.selects yX1_spreadLoad.cls yX1_spreadLoad yX1_spreadLoad ∈ WA := sel_in (q := (yX1_spreadLoad, 15)) (sp3 (j := 3) rfl)
theorem yc_X1_spreadWhatComes : Cond.code yX1_spreadWhatComes cX1_spreadWhatComes 8 none ∈ WA := wa (tt4 (j := 187) rfl) rfl
theorem yd_X1_spreadWhatComes : yX1_spreadWhatComes.cls ≠ "java/lang/invoke/MethodHandle" ∧ yX1_spreadWhatComes.cls ≠ "java/lang/invoke/VarHandle" ∧ (parseMethodDescriptor yX1_spreadWhatComes.desc).map (fun d => d.parameters.length) = some 0 := by decide +kernel
theorem ym_X1_spreadWhatComes : Cond.instanceMethod yX1_spreadWhatComes ∈ WA := wa (tt4 (j := 186) rfl) rfl
theorem yv_X1_spreadWhatComes : Cond.selects yX1_spreadWhatComes.cls yX1_spreadWhatComes yX1_spreadWhatComes ∈ WA := sel_in (q := (yX1_spreadWhatComes, 15)) (sp3 (j := 4) rfl)
theorem yc_X7_boy : Cond.code yX7_boy cX7_boy 10 (some .int) ∈ WA := wa (tt4 (j := 191) rfl) rfl
theorem yd_X7_boy : yX7_boy.cls ≠ "java/lang/invoke/MethodHandle" ∧ yX7_boy.cls ≠ "java/lang/invoke/VarHandle" ∧ (parseMethodDescriptor yX7_boy.desc).map (fun d => d.parameters.length) = some 1 := by decide +kernel
theorem ym_X7_boy : Cond.instanceMethod yX7_boy ∈ WA := wa (tt4 (j := 189) rfl) rfl
theorem yv_X7_boy : Cond.selects yX7_boy.cls yX7_boy yX7_boy ∈ WA := wa (tt4 (j := 190) rfl) rfl
theorem yc_X7_boxes : Cond.code yX7_boxes cX7_boxes 5 (some .long) ∈ WA := wa (tt4 (j := 195) rfl) rfl
theorem yd_X7_boxes : yX7_boxes.cls ≠ "java/lang/invoke/MethodHandle" ∧ yX7_boxes.cls ≠ "java/lang/invoke/VarHandle" ∧ (parseMethodDescriptor yX7_boxes.desc).map (fun d => d.parameters.length) = some 2 := by decide +kernel
theorem ym_X7_boxes : Cond.instanceMethod yX7_boxes ∈ WA := wa (tt4 (j := 193) rfl) rfl
theorem yv_X7_boxes : Cond.selects yX7_boxes.cls yX7_boxes yX7_boxes ∈ WA := wa (tt4 (j := 194) rfl) rfl
theorem yc_X1_boxesBy : Cond.code yX1_boxesBy cX1_boxesBy 5 (some .long) ∈ WA := wa (tt4 (j := 199) rfl) rfl
theorem yd_X1_boxesBy : yX1_boxesBy.cls ≠ "java/lang/invoke/MethodHandle" ∧ yX1_boxesBy.cls ≠ "java/lang/invoke/VarHandle" ∧ (parseMethodDescriptor yX1_boxesBy.desc).map (fun d => d.parameters.length) = some 1 := by decide +kernel
theorem ym_X1_boxesBy : Cond.instanceMethod yX1_boxesBy ∈ WA := wa (tt4 (j := 197) rfl) rfl
theorem yv_X1_boxesBy : Cond.selects yX1_boxesBy.cls yX1_boxesBy yX1_boxesBy ∈ WA := wa (tt4 (j := 198) rfl) rfl
theorem yc_X7_scale : Cond.code yX7_scale cX7_scale 4 (some .long) ∈ WA := wa (tt4 (j := 203) rfl) rfl
theorem yd_X7_scale : yX7_scale.cls ≠ "java/lang/invoke/MethodHandle" ∧ yX7_scale.cls ≠ "java/lang/invoke/VarHandle" ∧ (parseMethodDescriptor yX7_scale.desc).map (fun d => d.parameters.length) = some 2 := by decide +kernel
theorem ym_X7_scale : Cond.instanceMethod yX7_scale ∈ WA := wa (tt4 (j := 201) rfl) rfl
theorem yv_X7_scale : Cond.selects yX7_scale.cls yX7_scale yX7_scale ∈ WA := wa (tt4 (j := 202) rfl) rfl
theorem yc_L_refusals : Cond.code yL_refusals cL_refusals 3 (some .int) ∈ WA := wa (tt4 (j := 208) rfl) rfl
theorem yd_L_refusals : yL_refusals.cls ≠ "java/lang/invoke/MethodHandle" ∧ yL_refusals.cls ≠ "java/lang/invoke/VarHandle" ∧ (parseMethodDescriptor yL_refusals.desc).map (fun d => d.parameters.length) = some 1 := by decide +kernel
theorem ys_L_refusals : Cond.static yL_refusals ∈ WA := wa (tt4 (j := 207) rfl) rfl
theorem mL_169 : MI RL 169 yX7_init cX7_init 2 0 := ⟨⟨wa (tt1 (j := 17) rfl) rfl, yc_X7_init, yi_RX7, yd_X7_init, by decide⟩, ym_X7_init, rfl⟩
theorem mX7_9 : MI RX7 9 yX6_init cX6_init 2 0 := ⟨⟨wa (tt1 (j := 25) rfl) rfl, yc_X6_init, yi_RX6, yd_X6_init, by decide⟩, ym_X6_init, rfl⟩
theorem mL_59 : MV RL 59 yX7_houseOf cX7_houseOf 4 (some .int) 2 7 := ⟨⟨wa (tt1 (j := 219) rfl) rfl, yc_X7_houseOf, yi_RX7, yd_X7_houseOf, by decide⟩, ym_X7_houseOf, yv_X7_houseOf, ⟨_, _, rfl⟩, by decide⟩
theorem mX7_156 : MV RX7 156 yX6_houseAt cX6_houseAt 2 (some (.object "SendTheBox$House")) 1 6 := ⟨⟨wa (tt1 (j := 223) rfl) rfl, yc_X6_houseAt, yi_RX6, yd_X6_houseAt, by decide⟩, ym_X6_houseAt, yv_X6_houseAt, ⟨_, _, rfl⟩, by decide⟩
theorem mX7_74 : MV RX7 74 yX7_refuse cX7_refuse 3 (some .int) 1 7 := ⟨⟨wa (tt1 (j := 227) rfl) rfl, yc_X7_refuse, yi_RX7, yd_X7_refuse, by decide⟩, ym_X7_refuse, yv_X7_refuse, ⟨_, _, rfl⟩, by decide⟩
theorem mX7_160 : MV RX7 160 yX0_number cX0_number 2 (some .int) 1 0 := ⟨⟨wa (tt1 (j := 231) rfl) rfl, yc_X0_number, yi_RX0, yd_X0_number, by decide⟩, ym_X0_number, yv_X0_number, ⟨_, _, rfl⟩, by decide⟩
theorem mL_141 : MV RL 141 yX7_fill cX7_fill 4 (some .int) 2 7 := ⟨⟨wa (tt1 (j := 235) rfl) rfl, yc_X7_fill, yi_RX7, yd_X7_fill, by decide⟩, ym_X7_fill, yv_X7_fill, ⟨_, _, rfl⟩, by decide⟩
theorem mX7_183 : MV RX7 183 yX7_planOf cX7_planOf 4 (some (.object "SendTheBox$Plan")) 1 7 := ⟨⟨wa (tt1 (j := 239) rfl) rfl, yc_X7_planOf, yi_RX7, yd_X7_planOf, by decide⟩, ym_X7_planOf, yv_X7_planOf, ⟨_, _, rfl⟩, by decide⟩
theorem mX7_292 : MV RX7 292 yX1_turnTo cX1_turnTo 3 none 1 1 := ⟨⟨wa (tt2 (j := 3) rfl) rfl, yc_X1_turnTo, yi_RX1, yd_X1_turnTo, by decide⟩, ym_X1_turnTo, yv_X1_turnTo, ⟨_, _, rfl⟩, by decide⟩
theorem mX1_54 : MV RX1 54 yX0_isLike cX0_isLike 3 (some .boolean) 1 0 := ⟨⟨wa (tt2 (j := 7) rfl) rfl, yc_X0_isLike, yi_RX0, yd_X0_isLike, by decide⟩, ym_X0_isLike, yv_X0_isLike, ⟨_, _, rfl⟩, by decide⟩
theorem mX1_58 : MV RX1 58 yX0_become cX0_become 3 none 1 0 := ⟨⟨wa (tt2 (j := 14) rfl) rfl, yc_X0_become, yi_RX0, yd_X0_become, by decide⟩, ym_X0_become, yv_X0_become, ⟨_, _, rfl⟩, by decide⟩
theorem mX1_62 : MV RX1 62 yX0_days cX0_days 1 (some .int) 0 0 := ⟨⟨wa (tt2 (j := 18) rfl) rfl, yc_X0_days, yi_RX0, yd_X0_days, by decide⟩, ym_X0_days, yv_X0_days, ⟨_, _, rfl⟩, by decide⟩
theorem mX0_31 : MV RX0 31 yX0_number cX0_number 2 (some .int) 1 0 := ⟨⟨wa (tt2 (j := 22) rfl) rfl, yc_X0_number, yi_RX0, yd_X0_number, by decide⟩, ym_X0_number, yv_X0_number, ⟨_, _, rfl⟩, by decide⟩
theorem mX1_68 : MV RX1 68 yX0_sorts cX0_sorts 1 (some .int) 0 0 := ⟨⟨wa (tt2 (j := 23) rfl) rfl, yc_X0_sorts, yi_RX0, yd_X0_sorts, by decide⟩, ym_X0_sorts, yv_X0_sorts, ⟨_, _, rfl⟩, by decide⟩
theorem mX1_73 : MV RX1 73 yX0_states cX0_states 1 (some .int) 0 0 := ⟨⟨wa (tt2 (j := 27) rfl) rfl, yc_X0_states, yi_RX0, yd_X0_states, by decide⟩, ym_X0_states, yv_X0_states, ⟨_, _, rfl⟩, by decide⟩
theorem mX0_35 : MV RX0 35 yX0_sorts cX0_sorts 1 (some .int) 0 0 := ⟨⟨wa (tt2 (j := 31) rfl) rfl, yc_X0_sorts, yi_RX0, yd_X0_sorts, by decide⟩, ym_X0_sorts, yv_X0_sorts, ⟨_, _, rfl⟩, by decide⟩
theorem mX1_78 : MV RX1 78 yX0_sumOf cX0_sumOf 5 (some .int) 2 0 := ⟨⟨wa (tt2 (j := 35) rfl) rfl, yc_X0_sumOf, yi_RX0, yd_X0_sumOf, by decide⟩, ym_X0_sumOf, yv_X0_sumOf, ⟨_, _, rfl⟩, by decide⟩
theorem mX0_45 : MV RX0 45 yX0_sortNumber cX0_sortNumber 3 (some .int) 2 0 := ⟨⟨wa (tt2 (j := 42) rfl) rfl, yc_X0_sortNumber, yi_RX0, yd_X0_sortNumber, by decide⟩, ym_X0_sortNumber, yv_X0_sortNumber, ⟨_, _, rfl⟩, by decide⟩
theorem mX0_27 : MS RX0 27 yX0_placeOf cX0_placeOf 2 (some .int) 2 := ⟨⟨wa (tt2 (j := 46) rfl) rfl, yc_X0_placeOf, yi_RX0, yd_X0_placeOf, by decide⟩, ys_X0_placeOf⟩
theorem mX1_86 : MV RX1 86 yX0_fillFor cX0_fillFor 8 (some .int) 1 0 := ⟨⟨wa (tt2 (j := 52) rfl) rfl, yc_X0_fillFor, yi_RX0, yd_X0_fillFor, by decide⟩, ym_X0_fillFor, yv_X0_fillFor, ⟨_, _, rfl⟩, by decide⟩
theorem mX0_55 : MS RX0 55 yJ9_min_7cf53 cJ9_min_7cf53 2 (some .int) 2 := ⟨⟨wa (tt2 (j := 56) rfl) rfl, yc_J9_min_7cf53, yi_RJ9, yd_J9_min_7cf53, by decide⟩, ys_J9_min_7cf53⟩
theorem mX7_187 : MV RX7 187 yX1_hasState cX1_hasState 2 (some .boolean) 1 1 := ⟨⟨wa (tt2 (j := 59) rfl) rfl, yc_X1_hasState, yi_RX1, yd_X1_hasState, by decide⟩, ym_X1_hasState, yv_X1_hasState, ⟨_, _, rfl⟩, by decide⟩
theorem mX7_214 : MV RX7 214 yX1_fillOf cX1_fillOf 2 (some .int) 1 1 := ⟨⟨wa (tt2 (j := 63) rfl) rfl, yc_X1_fillOf, yi_RX1, yd_X1_fillOf, by decide⟩, ym_X1_fillOf, yv_X1_fillOf, ⟨_, _, rfl⟩, by decide⟩
theorem mL_69 : MV RL 69 yX7_status cX7_status 3 (some .int) 1 7 := ⟨⟨wa (tt2 (j := 68) rfl) rfl, yc_X7_status, yi_RX7, yd_X7_status, by decide⟩, ym_X7_status, yv_X7_status, ⟨_, _, rfl⟩, by decide⟩
theorem mX7_353 : MV RX7 353 yX7_shelvesInUse cX7_shelvesInUse 3 (some .int) 0 7 := ⟨⟨wa (tt2 (j := 72) rfl) rfl, yc_X7_shelvesInUse, yi_RX7, yd_X7_shelvesInUse, by decide⟩, ym_X7_shelvesInUse, yv_X7_shelvesInUse, ⟨_, _, rfl⟩, by decide⟩
theorem mX7_85 : MV RX7 85 yX7_rowAt cX7_rowAt 2 (some (.object "SendTheBox$Row")) 1 7 := ⟨⟨wa (tt2 (j := 76) rfl) rfl, yc_X7_rowAt, yi_RX7, yd_X7_rowAt, by decide⟩, ym_X7_rowAt, yv_X7_rowAt, ⟨_, _, rfl⟩, by decide⟩
theorem mX7_99 : MV RX7 99 yX7_ruleAt cX7_ruleAt 2 (some (.object "SendTheBox$Rule")) 1 7 := ⟨⟨wa (tt2 (j := 80) rfl) rfl, yc_X7_ruleAt, yi_RX7, yd_X7_ruleAt, by decide⟩, ym_X7_ruleAt, yv_X7_ruleAt, ⟨_, _, rfl⟩, by decide⟩
theorem mL_24 : MS RL 24 yL_cell cL_cell 2 (some .int) 2 := ⟨⟨wa (tt2 (j := 84) rfl) rfl, yc_L_cell, yi_RL, yd_L_cell, by decide⟩, ys_L_cell⟩
theorem mL_170 : MS RL 170 yL_act cL_act 6 none 3 := ⟨⟨wa (tt2 (j := 88) rfl) rfl, yc_L_act, yi_RL, yd_L_act, by decide⟩, ys_L_act⟩
theorem mL_73 : MS RL 73 yL_build cL_build 8 (some .int) 5 := ⟨⟨wa (tt2 (j := 91) rfl) rfl, yc_L_build, yi_RL, yd_L_build, by decide⟩, ys_L_build⟩
theorem mL_32 : MS RL 32 yL_tell cL_tell 3 none 2 := ⟨⟨wa (tt2 (j := 95) rfl) rfl, yc_L_tell, yi_RL, yd_L_tell, by decide⟩, ys_L_tell⟩
theorem mL_7 : cW RL 7 yJ0_length_8abf5 cJ0_length_8abf5 1 (some .int) 0 := ⟨wa (tt2 (j := 98) rfl) rfl, yc_J0_length_8abf5, yi_RJ0, yd_J0_length_8abf5, by decide⟩
theorem mJ0_335 : cW RJ0 335 yJ0_coder_7d493 cJ0_coder_7d493 1 (some .byte) 0 := ⟨wa (tt2 (j := 102) rfl) rfl, yc_J0_coder_7d493, yi_RJ0, yd_J0_coder_7d493, by decide⟩
theorem mL_13 : cW RL 13 yJ0_charAt_5068e cJ0_charAt_5068e 2 (some .char) 1 := ⟨wa (tt2 (j := 108) rfl) rfl, yc_J0_charAt_5068e, yi_RJ0, yd_J0_charAt_5068e, by decide⟩
theorem mJ0_492 : cW RJ0 492 yJ0_isLatin1_aae02 cJ0_isLatin1_aae02 1 (some .boolean) 0 := ⟨wa (tt2 (j := 112) rfl) rfl, yc_J0_isLatin1_aae02, yi_RJ0, yd_J0_isLatin1_aae02, by decide⟩
theorem mJ0_495 : MS RJ0 495 yJ1_charAt_3b067 cJ1_charAt_3b067 2 (some .char) 2 := ⟨⟨wa (tt2 (j := 116) rfl) rfl, yc_J1_charAt_3b067, yi_RJ1, yd_J1_charAt_3b067, by decide⟩, ys_J1_charAt_3b067⟩
theorem mJ1_9 : MS RJ1 9 yJ0_checkIndex_df160 cJ0_checkIndex_df160 2 none 2 := ⟨⟨wa (tt2 (j := 119) rfl) rfl, yc_J0_checkIndex_df160, yi_RJ0, yd_J0_checkIndex_df160, by decide⟩, ys_J0_checkIndex_df160⟩
theorem mJ0_1059 : MS RJ0 1059 yJ3_checkIndex_8e157 cJ3_checkIndex_8e157 3 (some .int) 3 := ⟨⟨wa (tt2 (j := 124) rfl) rfl, yc_J3_checkIndex_8e157, yi_RJ3, yd_J3_checkIndex_8e157, by decide⟩, ys_J3_checkIndex_8e157⟩
theorem mJ0_498 : MS RJ0 498 yJ2_charAt_3b067 cJ2_charAt_3b067 2 (some .char) 2 := ⟨⟨wa (tt2 (j := 127) rfl) rfl, yc_J2_charAt_3b067, yi_RJ2, yd_J2_charAt_3b067, by decide⟩, ys_J2_charAt_3b067⟩
theorem mJ2_67 : MS RJ2 67 yJ2_checkIndex_2214a cJ2_checkIndex_2214a 2 none 2 := ⟨⟨wa (tt2 (j := 130) rfl) rfl, yc_J2_checkIndex_2214a, yi_RJ2, yd_J2_checkIndex_2214a, by decide⟩, ys_J2_checkIndex_2214a⟩
theorem mJ2_48 : MS RJ2 48 yJ2_length_9d52b cJ2_length_9d52b 1 (some .int) 1 := ⟨⟨wa (tt2 (j := 133) rfl) rfl, yc_J2_length_9d52b, yi_RJ2, yd_J2_length_9d52b, by decide⟩, ys_J2_length_9d52b⟩
theorem mJ2_414 : MS RJ2 414 yJ0_checkIndex_df160 cJ0_checkIndex_df160 2 none 2 := ⟨⟨wa (tt2 (j := 136) rfl) rfl, yc_J0_checkIndex_df160, yi_RJ0, yd_J0_checkIndex_df160, by decide⟩, ys_J0_checkIndex_df160⟩
theorem mJ2_71 : MS RJ2 71 yJ2_getChar_3b067 cJ2_getChar_3b067 2 (some .char) 2 := ⟨⟨wa (tt2 (j := 137) rfl) rfl, yc_J2_getChar_3b067, yi_RJ2, yd_J2_getChar_3b067, by decide⟩, ys_J2_getChar_3b067⟩
theorem mL_17 : MV RL 17 yX7_feed cX7_feed 3 (some .int) 2 7 := ⟨⟨wa (tt2 (j := 146) rfl) rfl, yc_X7_feed, yi_RX7, yd_X7_feed, by decide⟩, ym_X7_feed, yv_X7_feed, ⟨_, _, rfl⟩, by decide⟩
theorem mX7_134 : MV RX7 134 yX4_hasPlaceFor cX4_hasPlaceFor 2 (some .boolean) 1 4 := ⟨⟨wa (tt2 (j := 150) rfl) rfl, yc_X4_hasPlaceFor, yi_RX4, yd_X4_hasPlaceFor, by decide⟩, ym_X4_hasPlaceFor, yv_X4_hasPlaceFor, ⟨_, _, rfl⟩, by decide⟩
theorem mX7_137 : MV RX7 137 yX4_append cX4_append 4 (some .int) 2 4 := ⟨⟨wa (tt2 (j := 154) rfl) rfl, yc_X4_append, yi_RX4, yd_X4_append, by decide⟩, ym_X4_append, yv_X4_append, ⟨_, _, rfl⟩, by decide⟩
theorem mL_36 : MS RL 36 yL_number cL_number 3 none 2 := ⟨⟨wa (tt2 (j := 158) rfl) rfl, yc_L_number, yi_RL, yd_L_number, by decide⟩, ys_L_number⟩
theorem mL_56 : MV RL 56 yX7_house cX7_house 2 (some .int) 0 7 := ⟨⟨wa (tt2 (j := 169) rfl) rfl, yc_X7_house, yi_RX7, yd_X7_house, by decide⟩, ym_X7_house, yv_X7_house, ⟨_, _, rfl⟩, by decide⟩
theorem mX7_145 : MV RX7 145 yX6_isFull cX6_isFull 1 (some .boolean) 0 6 := ⟨⟨wa (tt2 (j := 173) rfl) rfl, yc_X6_isFull, yi_RX6, yd_X6_isFull, by decide⟩, ym_X6_isFull, yv_X6_isFull, ⟨_, _, rfl⟩, by decide⟩
theorem mX7_149 : MV RX7 149 yX4_readInto cX4_readInto 3 (some .int) 1 4 := ⟨⟨wa (tt2 (j := 177) rfl) rfl, yc_X4_readInto, yi_RX4, yd_X4_readInto, by decide⟩, ym_X4_readInto, yv_X4_readInto, ⟨_, _, rfl⟩, by decide⟩
theorem mX4_19 : MV RX4 19 yX0_clear cX0_clear 2 none 0 0 := ⟨⟨wa (tt2 (j := 181) rfl) rfl, yc_X0_clear, yi_RX0, yd_X0_clear, by decide⟩, ym_X0_clear, yv_X0_clear, ⟨_, _, rfl⟩, by decide⟩
theorem mX0_15 : MV RX0 15 yX0_putNumber cX0_putNumber 3 none 2 0 := ⟨⟨wa (tt2 (j := 185) rfl) rfl, yc_X0_putNumber, yi_RX0, yd_X0_putNumber, by decide⟩, ym_X0_putNumber, yv_X0_putNumber, ⟨_, _, rfl⟩, by decide⟩
theorem mX4_27 : MV RX4 27 yX4_advance cX4_advance 1 none 0 4 := ⟨⟨wa (tt2 (j := 190) rfl) rfl, yc_X4_advance, yi_RX4, yd_X4_advance, by decide⟩, ym_X4_advance, yv_X4_advance, ⟨_, _, rfl⟩, by decide⟩
theorem mX4_99 : MV RX4 99 yX4_byteAt cX4_byteAt 2 (some .int) 1 4 := ⟨⟨wa (tt2 (j := 194) rfl) rfl, yc_X4_byteAt, yi_RX4, yd_X4_byteAt, by decide⟩, ym_X4_byteAt, yv_X4_byteAt, ⟨_, _, rfl⟩, by decide⟩
theorem mX4_103 : MS RX4 103 yX4_kindOf cX4_kindOf 1 (some .int) 1 := ⟨⟨wa (tt2 (j := 198) rfl) rfl, yc_X4_kindOf, yi_RX4, yd_X4_kindOf, by decide⟩, ys_X4_kindOf⟩
theorem mX4_30 : MV RX4 30 yX4_readStatement cX4_readStatement 2 (some .boolean) 1 4 := ⟨⟨wa (tt2 (j := 201) rfl) rfl, yc_X4_readStatement, yi_RX4, yd_X4_readStatement, by decide⟩, ym_X4_readStatement, yv_X4_readStatement, ⟨_, _, rfl⟩, by decide⟩
theorem mX4_46 : MV RX4 46 yX4_isWord cX4_isWord 3 (some .boolean) 1 4 := ⟨⟨wa (tt2 (j := 206) rfl) rfl, yc_X4_isWord, yi_RX4, yd_X4_isWord, by decide⟩, ym_X4_isWord, yv_X4_isWord, ⟨_, _, rfl⟩, by decide⟩
theorem mX4_106 : cW RX4 106 yJ0_length_8abf5 cJ0_length_8abf5 1 (some .int) 0 := ⟨wa (tt2 (j := 210) rfl) rfl, yc_J0_length_8abf5, yi_RJ0, yd_J0_length_8abf5, by decide⟩
theorem mX4_111 : cW RX4 111 yJ0_charAt_5068e cJ0_charAt_5068e 2 (some .char) 1 := ⟨wa (tt2 (j := 211) rfl) rfl, yc_J0_charAt_5068e, yi_RJ0, yd_J0_charAt_5068e, by decide⟩
theorem mX4_50 : MV RX4 50 yX4_readHouseNumber cX4_readHouseNumber 4 (some .boolean) 2 4 := ⟨⟨wa (tt2 (j := 212) rfl) rfl, yc_X4_readHouseNumber, yi_RX4, yd_X4_readHouseNumber, by decide⟩, ym_X4_readHouseNumber, yv_X4_readHouseNumber, ⟨_, _, rfl⟩, by decide⟩
theorem mX4_65 : MV RX4 65 yX4_numberHere cX4_numberHere 3 (some .int) 0 4 := ⟨⟨wa (tt2 (j := 216) rfl) rfl, yc_X4_numberHere, yi_RX4, yd_X4_numberHere, by decide⟩, ym_X4_numberHere, yv_X4_numberHere, ⟨_, _, rfl⟩, by decide⟩
theorem mX4_68 : MS RX4 68 yX0_mayBe cX0_mayBe 2 (some .boolean) 2 := ⟨⟨wa (tt2 (j := 220) rfl) rfl, yc_X0_mayBe, yi_RX0, yd_X0_mayBe, by decide⟩, ys_X0_mayBe⟩
theorem mX4_72 : MV RX4 72 yX0_putNumber cX0_putNumber 3 none 2 0 := ⟨⟨wa (tt2 (j := 223) rfl) rfl, yc_X0_putNumber, yi_RX0, yd_X0_putNumber, by decide⟩, ym_X0_putNumber, yv_X0_putNumber, ⟨_, _, rfl⟩, by decide⟩
theorem mX4_40 : MV RX4 40 yX0_sorts cX0_sorts 1 (some .int) 0 0 := ⟨⟨wa (tt2 (j := 228) rfl) rfl, yc_X0_sorts, yi_RX0, yd_X0_sorts, by decide⟩, ym_X0_sorts, yv_X0_sorts, ⟨_, _, rfl⟩, by decide⟩
theorem mX4_62 : MV RX4 62 yX4_readSort cX4_readSort 5 (some .boolean) 1 4 := ⟨⟨wa (tt2 (j := 229) rfl) rfl, yc_X4_readSort, yi_RX4, yd_X4_readSort, by decide⟩, ym_X4_readSort, yv_X4_readSort, ⟨_, _, rfl⟩, by decide⟩
theorem mX4_76 : MS RX4 76 yX4_sortWord cX4_sortWord 1 (some (.object "java/lang/String")) 1 := ⟨⟨wa (tt2 (j := 233) rfl) rfl, yc_X4_sortWord, yi_RX4, yd_X4_sortWord, by decide⟩, ys_X4_sortWord⟩
theorem mX4_80 : MV RX4 80 yX4_readSortNumber cX4_readSortNumber 5 (some .boolean) 3 4 := ⟨⟨wa (tt3 (j := 0) rfl) rfl, yc_X4_readSortNumber, yi_RX4, yd_X4_readSortNumber, by decide⟩, ym_X4_readSortNumber, yv_X4_readSortNumber, ⟨_, _, rfl⟩, by decide⟩
theorem mX4_84 : MS RX4 84 yX0_mayBeOfSort cX0_mayBeOfSort 2 (some .boolean) 2 := ⟨⟨wa (tt3 (j := 4) rfl) rfl, yc_X0_mayBeOfSort, yi_RX0, yd_X0_mayBeOfSort, by decide⟩, ys_X0_mayBeOfSort⟩
theorem mX4_87 : MV RX4 87 yX0_putSortNumber cX0_putSortNumber 4 none 3 0 := ⟨⟨wa (tt3 (j := 7) rfl) rfl, yc_X0_putSortNumber, yi_RX0, yd_X0_putSortNumber, by decide⟩, ym_X0_putSortNumber, yv_X0_putSortNumber, ⟨_, _, rfl⟩, by decide⟩
theorem mX7_141 : MV RX7 141 yX4_clear cX4_clear 2 (some .int) 0 4 := ⟨⟨wa (tt3 (j := 11) rfl) rfl, yc_X4_clear, yi_RX4, yd_X4_clear, by decide⟩, ym_X4_clear, yv_X4_clear, ⟨_, _, rfl⟩, by decide⟩
theorem mX7_153 : MV RX7 153 yX6_add cX6_add 3 (some .int) 1 6 := ⟨⟨wa (tt3 (j := 15) rfl) rfl, yc_X6_add, yi_RX6, yd_X6_add, by decide⟩, ym_X6_add, yv_X6_add, ⟨_, _, rfl⟩, by decide⟩
theorem mX6_36 : MV RX6 36 yX0_become cX0_become 3 none 1 0 := ⟨⟨wa (tt3 (j := 19) rfl) rfl, yc_X0_become, yi_RX0, yd_X0_become, by decide⟩, ym_X0_become, yv_X0_become, ⟨_, _, rfl⟩, by decide⟩
theorem mL_77 : MV RL 77 yX7_alter cX7_alter 7 (some .int) 3 7 := ⟨⟨wa (tt3 (j := 20) rfl) rfl, yc_X7_alter, yi_RX7, yd_X7_alter, by decide⟩, ym_X7_alter, yv_X7_alter, ⟨_, _, rfl⟩, by decide⟩
theorem mX7_169 : MS RX7 169 yX0_mayBe cX0_mayBe 2 (some .boolean) 2 := ⟨⟨wa (tt3 (j := 24) rfl) rfl, yc_X0_mayBe, yi_RX0, yd_X0_mayBe, by decide⟩, ys_X0_mayBe⟩
theorem mX7_170 : MV RX7 170 yX0_putNumber cX0_putNumber 3 none 2 0 := ⟨⟨wa (tt3 (j := 25) rfl) rfl, yc_X0_putNumber, yi_RX0, yd_X0_putNumber, by decide⟩, ym_X0_putNumber, yv_X0_putNumber, ⟨_, _, rfl⟩, by decide⟩
theorem mL_80 : MV RL 80 yX7_change cX7_change 8 (some .int) 4 7 := ⟨⟨wa (tt3 (j := 26) rfl) rfl, yc_X7_change, yi_RX7, yd_X7_change, by decide⟩, ym_X7_change, yv_X7_change, ⟨_, _, rfl⟩, by decide⟩
theorem mX7_163 : MV RX7 163 yX0_hasSort cX0_hasSort 2 (some .boolean) 1 0 := ⟨⟨wa (tt3 (j := 30) rfl) rfl, yc_X0_hasSort, yi_RX0, yd_X0_hasSort, by decide⟩, ym_X0_hasSort, yv_X0_hasSort, ⟨_, _, rfl⟩, by decide⟩
theorem mX7_173 : MS RX7 173 yX0_mayBeOfSort cX0_mayBeOfSort 2 (some .boolean) 2 := ⟨⟨wa (tt3 (j := 34) rfl) rfl, yc_X0_mayBeOfSort, yi_RX0, yd_X0_mayBeOfSort, by decide⟩, ys_X0_mayBeOfSort⟩
theorem mX7_166 : MV RX7 166 yX0_sortNumber cX0_sortNumber 3 (some .int) 2 0 := ⟨⟨wa (tt3 (j := 35) rfl) rfl, yc_X0_sortNumber, yi_RX0, yd_X0_sortNumber, by decide⟩, ym_X0_sortNumber, yv_X0_sortNumber, ⟨_, _, rfl⟩, by decide⟩
theorem mX7_176 : MV RX7 176 yX0_putSortNumber cX0_putSortNumber 4 none 3 0 := ⟨⟨wa (tt3 (j := 36) rfl) rfl, yc_X0_putSortNumber, yi_RX0, yd_X0_putSortNumber, by decide⟩, ym_X0_putSortNumber, yv_X0_putSortNumber, ⟨_, _, rfl⟩, by decide⟩
theorem mL_84 : MV RL 84 yX7_row cX7_row 4 (some .int) 3 7 := ⟨⟨wa (tt3 (j := 37) rfl) rfl, yc_X7_row, yi_RX7, yd_X7_row, by decide⟩, ym_X7_row, yv_X7_row, ⟨_, _, rfl⟩, by decide⟩
theorem mX7_70 : MS RX7 70 yX7_isShelf cX7_isShelf 1 (some .boolean) 1 := ⟨⟨wa (tt3 (j := 41) rfl) rfl, yc_X7_isShelf, yi_RX7, yd_X7_isShelf, by decide⟩, ys_X7_isShelf⟩
theorem mX7_78 : MI RX7 78 yX2_init cX2_init 3 2 := ⟨⟨wa (tt3 (j := 45) rfl) rfl, yc_X2_init, yi_RX2, yd_X2_init, by decide⟩, ym_X2_init, rfl⟩
theorem mX7_81 : MV RX7 81 yX7_putOnShelf cX7_putOnShelf 4 none 3 7 := ⟨⟨wa (tt3 (j := 57) rfl) rfl, yc_X7_putOnShelf, yi_RX7, yd_X7_putOnShelf, by decide⟩, ym_X7_putOnShelf, yv_X7_putOnShelf, ⟨_, _, rfl⟩, by decide⟩
theorem mL_87 : MV RL 87 yX7_set cX7_set 6 (some .int) 3 7 := ⟨⟨wa (tt3 (j := 61) rfl) rfl, yc_X7_set, yi_RX7, yd_X7_set, by decide⟩, ym_X7_set, yv_X7_set, ⟨_, _, rfl⟩, by decide⟩
theorem mX7_89 : MV RX7 89 yX7_lackOnShelf cX7_lackOnShelf 2 (some .int) 1 7 := ⟨⟨wa (tt3 (j := 65) rfl) rfl, yc_X7_lackOnShelf, yi_RX7, yd_X7_lackOnShelf, by decide⟩, ym_X7_lackOnShelf, yv_X7_lackOnShelf, ⟨_, _, rfl⟩, by decide⟩
theorem mX7_92 : MV RX7 92 yX2_hasPlace cX2_hasPlace 2 (some .boolean) 1 2 := ⟨⟨wa (tt3 (j := 69) rfl) rfl, yc_X2_hasPlace, yi_RX2, yd_X2_hasPlace, by decide⟩, ym_X2_hasPlace, yv_X2_hasPlace, ⟨_, _, rfl⟩, by decide⟩
theorem mX7_95 : MV RX7 95 yX2_put cX2_put 4 none 2 2 := ⟨⟨wa (tt3 (j := 73) rfl) rfl, yc_X2_put, yi_RX2, yd_X2_put, by decide⟩, ym_X2_put, yv_X2_put, ⟨_, _, rfl⟩, by decide⟩
theorem mX2_23 : MV RX2 23 yX2_hasPlace cX2_hasPlace 2 (some .boolean) 1 2 := ⟨⟨wa (tt3 (j := 77) rfl) rfl, yc_X2_hasPlace, yi_RX2, yd_X2_hasPlace, by decide⟩, ym_X2_hasPlace, yv_X2_hasPlace, ⟨_, _, rfl⟩, by decide⟩
theorem mX2_27 : MV RX2 27 yX2_lowestBits cX2_lowestBits 3 (some .long) 1 2 := ⟨⟨wa (tt3 (j := 78) rfl) rfl, yc_X2_lowestBits, yi_RX2, yd_X2_lowestBits, by decide⟩, ym_X2_lowestBits, yv_X2_lowestBits, ⟨_, _, rfl⟩, by decide⟩
theorem mL_91 : MV RL 91 yX7_rule cX7_rule 5 (some .int) 3 7 := ⟨⟨wa (tt3 (j := 82) rfl) rfl, yc_X7_rule, yi_RX7, yd_X7_rule, by decide⟩, ym_X7_rule, yv_X7_rule, ⟨_, _, rfl⟩, by decide⟩
theorem mX7_122 : MS RX7 122 yX3_mayBe cX3_mayBe 2 (some .boolean) 2 := ⟨⟨wa (tt3 (j := 86) rfl) rfl, yc_X3_mayBe, yi_RX3, yd_X3_mayBe, by decide⟩, ys_X3_mayBe⟩
theorem mX7_125 : MI RX7 125 yX3_init cX3_init 4 3 := ⟨⟨wa (tt3 (j := 91) rfl) rfl, yc_X3_init, yi_RX3, yd_X3_init, by decide⟩, ym_X3_init, rfl⟩
theorem mX3_21 : MV RX3 21 yX2_twin cX2_twin 2 (some (.object "SendTheBox$Row")) 0 2 := ⟨⟨wa (tt3 (j := 95) rfl) rfl, yc_X2_twin, yi_RX2, yd_X2_twin, by decide⟩, ym_X2_twin, yv_X2_twin, ⟨_, _, rfl⟩, by decide⟩
theorem mX2_41 : MI RX2 41 yX2_init cX2_init 3 2 := ⟨⟨wa (tt3 (j := 100) rfl) rfl, yc_X2_init, yi_RX2, yd_X2_init, by decide⟩, ym_X2_init, rfl⟩
theorem mX2_44 : MV RX2 44 yX2_take cX2_take 5 none 4 2 := ⟨⟨wa (tt3 (j := 101) rfl) rfl, yc_X2_take, yi_RX2, yd_X2_take, by decide⟩, ym_X2_take, yv_X2_take, ⟨_, _, rfl⟩, by decide⟩
theorem mX2_31 : MV RX2 31 yX2_hasRange cX2_hasRange 3 (some .boolean) 2 2 := ⟨⟨wa (tt3 (j := 105) rfl) rfl, yc_X2_hasRange, yi_RX2, yd_X2_hasRange, by decide⟩, ym_X2_hasRange, yv_X2_hasRange, ⟨_, _, rfl⟩, by decide⟩
theorem mL_94 : MV RL 94 yX7_copy cX7_copy 8 (some .int) 5 7 := ⟨⟨wa (tt3 (j := 127) rfl) rfl, yc_X7_copy, yi_RX7, yd_X7_copy, by decide⟩, ym_X7_copy, yv_X7_copy, ⟨_, _, rfl⟩, by decide⟩
theorem mX7_107 : MV RX7 107 yX2_hasRange cX2_hasRange 3 (some .boolean) 2 2 := ⟨⟨wa (tt3 (j := 131) rfl) rfl, yc_X2_hasRange, yi_RX2, yd_X2_hasRange, by decide⟩, ym_X2_hasRange, yv_X2_hasRange, ⟨_, _, rfl⟩, by decide⟩
theorem mX7_111 : MV RX7 111 yX2_take cX2_take 5 none 4 2 := ⟨⟨wa (tt3 (j := 132) rfl) rfl, yc_X2_take, yi_RX2, yd_X2_take, by decide⟩, ym_X2_take, yv_X2_take, ⟨_, _, rfl⟩, by decide⟩
theorem mL_98 : MV RL 98 yX7_begin cX7_begin 5 (some .int) 2 7 := ⟨⟨wa (tt3 (j := 133) rfl) rfl, yc_X7_begin, yi_RX7, yd_X7_begin, by decide⟩, ym_X7_begin, yv_X7_begin, ⟨_, _, rfl⟩, by decide⟩
theorem mX7_310 : MV RX7 310 yX5_start cX5_start 3 none 2 5 := ⟨⟨wa (tt3 (j := 137) rfl) rfl, yc_X5_start, yi_RX5, yd_X5_start, by decide⟩, ym_X5_start, yv_X5_start, ⟨_, _, rfl⟩, by decide⟩
theorem mX5_18 : MV RX5 18 yX0_become cX0_become 3 none 1 0 := ⟨⟨wa (tt3 (j := 141) rfl) rfl, yc_X0_become, yi_RX0, yd_X0_become, by decide⟩, ym_X0_become, yv_X0_become, ⟨_, _, rfl⟩, by decide⟩
theorem mX5_26 : MV RX5 26 yX0_days cX0_days 1 (some .int) 0 0 := ⟨⟨wa (tt3 (j := 142) rfl) rfl, yc_X0_days, yi_RX0, yd_X0_days, by decide⟩, ym_X0_days, yv_X0_days, ⟨_, _, rfl⟩, by decide⟩
theorem mX7_193 : MV RX7 193 yX0_days cX0_days 1 (some .int) 0 0 := ⟨⟨wa (tt3 (j := 143) rfl) rfl, yc_X0_days, yi_RX0, yd_X0_days, by decide⟩, ym_X0_days, yv_X0_days, ⟨_, _, rfl⟩, by decide⟩
theorem mL_101 : MV RL 101 yX7_step cX7_step 3 (some .int) 1 7 := ⟨⟨wa (tt3 (j := 144) rfl) rfl, yc_X7_step, yi_RX7, yd_X7_step, by decide⟩, ym_X7_step, yv_X7_step, ⟨_, _, rfl⟩, by decide⟩
theorem mX7_314 : MV RX7 314 yX5_isUnderWay cX5_isUnderWay 1 (some .boolean) 0 5 := ⟨⟨wa (tt3 (j := 148) rfl) rfl, yc_X5_isUnderWay, yi_RX5, yd_X5_isUnderWay, by decide⟩, ym_X5_isUnderWay, yv_X5_isUnderWay, ⟨_, _, rfl⟩, by decide⟩
theorem mX7_317 : MV RX7 317 yX5_daysLeft cX5_daysLeft 1 (some .int) 0 5 := ⟨⟨wa (tt3 (j := 152) rfl) rfl, yc_X5_daysLeft, yi_RX5, yd_X5_daysLeft, by decide⟩, ym_X5_daysLeft, yv_X5_daysLeft, ⟨_, _, rfl⟩, by decide⟩
theorem mX7_325 : MV RX7 325 yX1_getReadyFor cX1_getReadyFor 2 none 1 1 := ⟨⟨wa (tt3 (j := 156) rfl) rfl, yc_X1_getReadyFor, yi_RX1, yd_X1_getReadyFor, by decide⟩, ym_X1_getReadyFor, yv_X1_getReadyFor, ⟨_, _, rfl⟩, by decide⟩
theorem mX1_102 : MV RX1 102 yX1_workOut cX1_workOut 4 none 1 1 := ⟨⟨wa (tt3 (j := 160) rfl) rfl, yc_X1_workOut, yi_RX1, yd_X1_workOut, by decide⟩, ym_X1_workOut, yv_X1_workOut, ⟨_, _, rfl⟩, by decide⟩
theorem mX1_129 : MS RX1 129 yJ9_min_7cf53 cJ9_min_7cf53 2 (some .int) 2 := ⟨⟨wa (tt3 (j := 164) rfl) rfl, yc_J9_min_7cf53, yi_RJ9, yd_J9_min_7cf53, by decide⟩, ys_J9_min_7cf53⟩
theorem mX1_134 : MV RX1 134 yX1_startFromEnd cX1_startFromEnd 2 none 0 1 := ⟨⟨wa (tt3 (j := 165) rfl) rfl, yc_X1_startFromEnd, yi_RX1, yd_X1_startFromEnd, by decide⟩, ym_X1_startFromEnd, yv_X1_startFromEnd, ⟨_, _, rfl⟩, by decide⟩
theorem mX1_137 : MV RX1 137 yX1_takeCosts cX1_takeCosts 3 none 1 1 := ⟨⟨wa (tt3 (j := 172) rfl) rfl, yc_X1_takeCosts, yi_RX1, yd_X1_takeCosts, by decide⟩, ym_X1_takeCosts, yv_X1_takeCosts, ⟨_, _, rfl⟩, by decide⟩
theorem mX1_106 : MS RX1 106 yX1_placeOf cX1_placeOf 2 (some .int) 2 := ⟨⟨wa (tt3 (j := 176) rfl) rfl, yc_X1_placeOf, yi_RX1, yd_X1_placeOf, by decide⟩, ys_X1_placeOf⟩
theorem mX1_140 : MV RX1 140 yX1_goBackToLoad cX1_goBackToLoad 15 none 1 1 := ⟨⟨wa (tt3 (j := 182) rfl) rfl, yc_X1_goBackToLoad, yi_RX1, yd_X1_goBackToLoad, by decide⟩, ym_X1_goBackToLoad, yv_X1_goBackToLoad, ⟨_, _, rfl⟩, by decide⟩
theorem mX7_295 : MS RX7 295 yX7_timesOf cX7_timesOf 1 (some .long) 1 := ⟨⟨wa (tt3 (j := 189) rfl) rfl, yc_X7_timesOf, yi_RX7, yd_X7_timesOf, by decide⟩, ys_X7_timesOf⟩
theorem mX1_167 : MV RX1 167 yX0_sortNumber cX0_sortNumber 3 (some .int) 2 0 := ⟨⟨wa (tt3 (j := 193) rfl) rfl, yc_X0_sortNumber, yi_RX0, yd_X0_sortNumber, by decide⟩, ym_X0_sortNumber, yv_X0_sortNumber, ⟨_, _, rfl⟩, by decide⟩
theorem mX1_143 : MV RX1 143 yX1_keepWork cX1_keepWork 4 none 2 1 := ⟨⟨wa (tt3 (j := 196) rfl) rfl, yc_X1_keepWork, yi_RX1, yd_X1_keepWork, by decide⟩, ym_X1_keepWork, yv_X1_keepWork, ⟨_, _, rfl⟩, by decide⟩
theorem mX1_123 : MV RX1 123 yX1_boxCost cX1_boxCost 2 (some .long) 1 1 := ⟨⟨wa (tt3 (j := 200) rfl) rfl, yc_X1_boxCost, yi_RX1, yd_X1_boxCost, by decide⟩, ym_X1_boxCost, yv_X1_boxCost, ⟨_, _, rfl⟩, by decide⟩
theorem mX1_120 : MV RX1 120 yX0_number cX0_number 2 (some .int) 1 0 := ⟨⟨wa (tt3 (j := 204) rfl) rfl, yc_X0_number, yi_RX0, yd_X0_number, by decide⟩, ym_X0_number, yv_X0_number, ⟨_, _, rfl⟩, by decide⟩
theorem mX1_157 : MV RX1 157 yX1_unitOf cX1_unitOf 2 (some .long) 1 1 := ⟨⟨wa (tt3 (j := 205) rfl) rfl, yc_X1_unitOf, yi_RX1, yd_X1_unitOf, by decide⟩, ym_X1_unitOf, yv_X1_unitOf, ⟨_, _, rfl⟩, by decide⟩
theorem mX1_147 : MV RX1 147 yX1_goBackBest cX1_goBackBest 6 none 2 1 := ⟨⟨wa (tt3 (j := 210) rfl) rfl, yc_X1_goBackBest, yi_RX1, yd_X1_goBackBest, by decide⟩, ym_X1_goBackBest, yv_X1_goBackBest, ⟨_, _, rfl⟩, by decide⟩
theorem mX1_173 : MV RX1 173 yX1_pick cX1_pick 15 (some .int) 3 1 := ⟨⟨wa (tt3 (j := 214) rfl) rfl, yc_X1_pick, yi_RX1, yd_X1_pick, by decide⟩, ym_X1_pick, yv_X1_pick, ⟨_, _, rfl⟩, by decide⟩
theorem mX1_177 : MV RX1 177 yX1_mix cX1_mix 11 none 3 1 := ⟨⟨wa (tt3 (j := 218) rfl) rfl, yc_X1_mix, yi_RX1, yd_X1_mix, by decide⟩, ym_X1_mix, yv_X1_mix, ⟨_, _, rfl⟩, by decide⟩
theorem mX7_329 : MV RX7 329 yX7_passDays cX7_passDays 6 (some .int) 3 7 := ⟨⟨wa (tt3 (j := 222) rfl) rfl, yc_X7_passDays, yi_RX7, yd_X7_passDays, by decide⟩, ym_X7_passDays, yv_X7_passDays, ⟨_, _, rfl⟩, by decide⟩
theorem mX7_334 : MV RX7 334 yX5_passDay cX5_passDay 6 (some .int) 2 5 := ⟨⟨wa (tt3 (j := 226) rfl) rfl, yc_X5_passDay, yi_RX5, yd_X5_passDay, by decide⟩, ym_X5_passDay, yv_X5_passDay, ⟨_, _, rfl⟩, by decide⟩
theorem mX5_49 : MV RX5 49 yX6_draw cX6_draw 2 (some .int) 1 6 := ⟨⟨wa (tt3 (j := 230) rfl) rfl, yc_X6_draw, yi_RX6, yd_X6_draw, by decide⟩, ym_X6_draw, yv_X6_draw, ⟨_, _, rfl⟩, by decide⟩
theorem mX5_55 : MV RX5 55 yX0_number cX0_number 2 (some .int) 1 0 := ⟨⟨wa (tt3 (j := 235) rfl) rfl, yc_X0_number, yi_RX0, yd_X0_number, by decide⟩, ym_X0_number, yv_X0_number, ⟨_, _, rfl⟩, by decide⟩
theorem mX5_58 : MV RX5 58 yX1_loadBy cX1_loadBy 4 (some .int) 3 1 := ⟨⟨wa (tt3 (j := 236) rfl) rfl, yc_X1_loadBy, yi_RX1, yd_X1_loadBy, by decide⟩, ym_X1_loadBy, yv_X1_loadBy, ⟨_, _, rfl⟩, by decide⟩
theorem mX1_112 : MV RX1 112 yX1_loadWorkedOut cX1_loadWorkedOut 3 (some .int) 2 1 := ⟨⟨wa (tt4 (j := 0) rfl) rfl, yc_X1_loadWorkedOut, yi_RX1, yd_X1_loadWorkedOut, by decide⟩, ym_X1_loadWorkedOut, yv_X1_loadWorkedOut, ⟨_, _, rfl⟩, by decide⟩
theorem mX1_181 : MV RX1 181 yX1_roomOf cX1_roomOf 2 (some .int) 1 1 := ⟨⟨wa (tt4 (j := 4) rfl) rfl, yc_X1_roomOf, yi_RX1, yd_X1_roomOf, by decide⟩, ym_X1_roomOf, yv_X1_roomOf, ⟨_, _, rfl⟩, by decide⟩
theorem mX1_184 : MV RX1 184 yX3_fills cX3_fills 4 (some .boolean) 3 3 := ⟨⟨wa (tt4 (j := 8) rfl) rfl, yc_X3_fills, yi_RX3, yd_X3_fills, by decide⟩, ym_X3_fills, yv_X3_fills, ⟨_, _, rfl⟩, by decide⟩
theorem mX3_39 : MV RX3 39 yX3_isItsDay cX3_isItsDay 2 (some .boolean) 1 3 := ⟨⟨wa (tt4 (j := 12) rfl) rfl, yc_X3_isItsDay, yi_RX3, yd_X3_isItsDay, by decide⟩, ym_X3_isItsDay, yv_X3_isItsDay, ⟨_, _, rfl⟩, by decide⟩
theorem mX3_42 : MV RX3 42 yX2_valueAt cX2_valueAt 2 (some .long) 1 2 := ⟨⟨wa (tt4 (j := 16) rfl) rfl, yc_X2_valueAt, yi_RX2, yd_X2_valueAt, by decide⟩, ym_X2_valueAt, yv_X2_valueAt, ⟨_, _, rfl⟩, by decide⟩
theorem mX1_187 : MV RX1 187 yX1_fillOf cX1_fillOf 2 (some .int) 1 1 := ⟨⟨wa (tt4 (j := 21) rfl) rfl, yc_X1_fillOf, yi_RX1, yd_X1_fillOf, by decide⟩, ym_X1_fillOf, yv_X1_fillOf, ⟨_, _, rfl⟩, by decide⟩
theorem mX5_64 : MV RX5 64 yX5_send cX5_send 3 (some .int) 1 5 := ⟨⟨wa (tt4 (j := 22) rfl) rfl, yc_X5_send, yi_RX5, yd_X5_send, by decide⟩, ym_X5_send, yv_X5_send, ⟨_, _, rfl⟩, by decide⟩
theorem mX5_71 : MV RX5 71 yX0_sorts cX0_sorts 1 (some .int) 0 0 := ⟨⟨wa (tt4 (j := 26) rfl) rfl, yc_X0_sorts, yi_RX0, yd_X0_sorts, by decide⟩, ym_X0_sorts, yv_X0_sorts, ⟨_, _, rfl⟩, by decide⟩
theorem mX5_67 : MV RX5 67 yX0_sumOf cX0_sumOf 5 (some .int) 2 0 := ⟨⟨wa (tt4 (j := 28) rfl) rfl, yc_X0_sumOf, yi_RX0, yd_X0_sumOf, by decide⟩, ym_X0_sumOf, yv_X0_sumOf, ⟨_, _, rfl⟩, by decide⟩
theorem mX5_74 : MV RX5 74 yX0_sortNumber cX0_sortNumber 3 (some .int) 2 0 := ⟨⟨wa (tt4 (j := 29) rfl) rfl, yc_X0_sortNumber, yi_RX0, yd_X0_sortNumber, by decide⟩, ym_X0_sortNumber, yv_X0_sortNumber, ⟨_, _, rfl⟩, by decide⟩
theorem mX5_77 : MV RX5 77 yX5_receive cX5_receive 2 (some .int) 1 5 := ⟨⟨wa (tt4 (j := 30) rfl) rfl, yc_X5_receive, yi_RX5, yd_X5_receive, by decide⟩, ym_X5_receive, yv_X5_receive, ⟨_, _, rfl⟩, by decide⟩
theorem mL_104 : MV RL 104 yX7_weeks cX7_weeks 8 (some .int) 3 7 := ⟨⟨wa (tt4 (j := 35) rfl) rfl, yc_X7_weeks, yi_RX7, yd_X7_weeks, by decide⟩, ym_X7_weeks, yv_X7_weeks, ⟨_, _, rfl⟩, by decide⟩
theorem mX7_245 : MV RX7 245 yX7_ruleFor cX7_ruleFor 4 (some (.object "SendTheBox$Rule")) 2 7 := ⟨⟨wa (tt4 (j := 39) rfl) rfl, yc_X7_ruleFor, yi_RX7, yd_X7_ruleFor, by decide⟩, ym_X7_ruleFor, yv_X7_ruleFor, ⟨_, _, rfl⟩, by decide⟩
theorem mL_107 : MV RL 107 yX7_join cX7_join 5 (some .int) 2 7 := ⟨⟨wa (tt4 (j := 43) rfl) rfl, yc_X7_join, yi_RX7, yd_X7_join, by decide⟩, ym_X7_join, yv_X7_join, ⟨_, _, rfl⟩, by decide⟩
theorem mX7_278 : MV RX7 278 yX0_goesWith cX0_goesWith 2 (some .boolean) 1 0 := ⟨⟨wa (tt4 (j := 47) rfl) rfl, yc_X0_goesWith, yi_RX0, yd_X0_goesWith, by decide⟩, ym_X0_goesWith, yv_X0_goesWith, ⟨_, _, rfl⟩, by decide⟩
theorem mX0_48 : MV RX0 48 yX0_days cX0_days 1 (some .int) 0 0 := ⟨⟨wa (tt4 (j := 51) rfl) rfl, yc_X0_days, yi_RX0, yd_X0_days, by decide⟩, ym_X0_days, yv_X0_days, ⟨_, _, rfl⟩, by decide⟩
theorem mX7_282 : MV RX7 282 yX0_become cX0_become 3 none 1 0 := ⟨⟨wa (tt4 (j := 52) rfl) rfl, yc_X0_become, yi_RX0, yd_X0_become, by decide⟩, ym_X0_become, yv_X0_become, ⟨_, _, rfl⟩, by decide⟩
theorem mX7_286 : MV RX7 286 yX0_addSortsOf cX0_addSortsOf 4 none 1 0 := ⟨⟨wa (tt4 (j := 53) rfl) rfl, yc_X0_addSortsOf, yi_RX0, yd_X0_addSortsOf, by decide⟩, ym_X0_addSortsOf, yv_X0_addSortsOf, ⟨_, _, rfl⟩, by decide⟩
theorem mX0_51 : MV RX0 51 yX0_putSortNumber cX0_putSortNumber 4 none 3 0 := ⟨⟨wa (tt4 (j := 57) rfl) rfl, yc_X0_putSortNumber, yi_RX0, yd_X0_putSortNumber, by decide⟩, ym_X0_putSortNumber, yv_X0_putSortNumber, ⟨_, _, rfl⟩, by decide⟩
theorem mL_110 : MV RL 110 yX7_image cX7_image 1 (some .int) 0 7 := ⟨⟨wa (tt4 (j := 58) rfl) rfl, yc_X7_image, yi_RX7, yd_X7_image, by decide⟩, ym_X7_image, yv_X7_image, ⟨_, _, rfl⟩, by decide⟩
theorem mX7_338 : MV RX7 338 yX6_become cX6_become 3 none 1 6 := ⟨⟨wa (tt4 (j := 62) rfl) rfl, yc_X6_become, yi_RX6, yd_X6_become, by decide⟩, ym_X6_become, yv_X6_become, ⟨_, _, rfl⟩, by decide⟩
theorem mX6_32 : MV RX6 32 yX5_become cX5_become 2 none 1 5 := ⟨⟨wa (tt4 (j := 66) rfl) rfl, yc_X5_become, yi_RX5, yd_X5_become, by decide⟩, ym_X5_become, yv_X5_become, ⟨_, _, rfl⟩, by decide⟩
theorem mL_113 : MV RL 113 yX7_back cX7_back 1 (some .int) 0 7 := ⟨⟨wa (tt4 (j := 70) rfl) rfl, yc_X7_back, yi_RX7, yd_X7_back, by decide⟩, ym_X7_back, yv_X7_back, ⟨_, _, rfl⟩, by decide⟩
theorem mL_178 : MS RL 178 yL_holds cL_holds 12 (some .boolean) 3 := ⟨⟨wa (tt4 (j := 74) rfl) rfl, yc_L_holds, yi_RL, yd_L_holds, by decide⟩, ys_L_holds⟩
theorem mL_116 : MS RL 116 yL_states cL_states 3 (some .int) 2 := ⟨⟨wa (tt4 (j := 77) rfl) rfl, yc_L_states, yi_RL, yd_L_states, by decide⟩, ys_L_states⟩
theorem mL_120 : MV RL 120 yX7_best cX7_best 5 (some .int) 3 7 := ⟨⟨wa (tt4 (j := 80) rfl) rfl, yc_X7_best, yi_RX7, yd_X7_best, by decide⟩, ym_X7_best, yv_X7_best, ⟨_, _, rfl⟩, by decide⟩
theorem mX7_208 : MV RX7 208 yX1_hasDay cX1_hasDay 3 (some .boolean) 2 1 := ⟨⟨wa (tt4 (j := 84) rfl) rfl, yc_X1_hasDay, yi_RX1, yd_X1_hasDay, by decide⟩, ym_X1_hasDay, yv_X1_hasDay, ⟨_, _, rfl⟩, by decide⟩
theorem mX1_94 : MV RX1 94 yX1_hasPlace cX1_hasPlace 3 (some .boolean) 2 1 := ⟨⟨wa (tt4 (j := 88) rfl) rfl, yc_X1_hasPlace, yi_RX1, yd_X1_hasPlace, by decide⟩, ym_X1_hasPlace, yv_X1_hasPlace, ⟨_, _, rfl⟩, by decide⟩
theorem mX1_90 : MV RX1 90 yX1_hasState cX1_hasState 2 (some .boolean) 1 1 := ⟨⟨wa (tt4 (j := 92) rfl) rfl, yc_X1_hasState, yi_RX1, yd_X1_hasState, by decide⟩, ym_X1_hasState, yv_X1_hasState, ⟨_, _, rfl⟩, by decide⟩
theorem mX7_211 : MV RX7 211 yX1_bestLoad cX1_bestLoad 3 (some .int) 2 1 := ⟨⟨wa (tt4 (j := 93) rfl) rfl, yc_X1_bestLoad, yi_RX1, yd_X1_bestLoad, by decide⟩, ym_X1_bestLoad, yv_X1_bestLoad, ⟨_, _, rfl⟩, by decide⟩
theorem mL_123 : MV RL 123 yX7_cost cX7_cost 5 (some .long) 3 7 := ⟨⟨wa (tt4 (j := 97) rfl) rfl, yc_X7_cost, yi_RX7, yd_X7_cost, by decide⟩, ym_X7_cost, yv_X7_cost, ⟨_, _, rfl⟩, by decide⟩
theorem mX7_203 : MV RX7 203 yX1_hasPlace cX1_hasPlace 3 (some .boolean) 2 1 := ⟨⟨wa (tt4 (j := 101) rfl) rfl, yc_X1_hasPlace, yi_RX1, yd_X1_hasPlace, by decide⟩, ym_X1_hasPlace, yv_X1_hasPlace, ⟨_, _, rfl⟩, by decide⟩
theorem mX7_205 : MV RX7 205 yX1_leastCost cX1_leastCost 3 (some .long) 2 1 := ⟨⟨wa (tt4 (j := 102) rfl) rfl, yc_X1_leastCost, yi_RX1, yd_X1_leastCost, by decide⟩, ym_X1_leastCost, yv_X1_leastCost, ⟨_, _, rfl⟩, by decide⟩
theorem mL_127 : MS RL 127 yL_sum cL_sum 6 (some .int) 4 := ⟨⟨wa (tt4 (j := 106) rfl) rfl, yc_L_sum, yi_RL, yd_L_sum, by decide⟩, ys_L_sum⟩
theorem mL_62 : MV RL 62 yX7_of cX7_of 3 (some .int) 2 7 := ⟨⟨wa (tt4 (j := 109) rfl) rfl, yc_X7_of, yi_RX7, yd_X7_of, by decide⟩, ym_X7_of, yv_X7_of, ⟨_, _, rfl⟩, by decide⟩
theorem mX7_180 : MS RX7 180 yX7_standing cX7_standing 2 (some .int) 2 := ⟨⟨wa (tt4 (j := 113) rfl) rfl, yc_X7_standing, yi_RX7, yd_X7_standing, by decide⟩, ys_X7_standing⟩
theorem mL_65 : MV RL 65 yX7_sortOf cX7_sortOf 5 (some .int) 3 7 := ⟨⟨wa (tt4 (j := 114) rfl) rfl, yc_X7_sortOf, yi_RX7, yd_X7_sortOf, by decide⟩, ym_X7_sortOf, yv_X7_sortOf, ⟨_, _, rfl⟩, by decide⟩
theorem mL_131 : MV RL 131 yX7_waits cX7_waits 5 (some .long) 3 7 := ⟨⟨wa (tt4 (j := 118) rfl) rfl, yc_X7_waits, yi_RX7, yd_X7_waits, by decide⟩, ym_X7_waits, yv_X7_waits, ⟨_, _, rfl⟩, by decide⟩
theorem mX7_217 : MV RX7 217 yX1_costWith cX1_costWith 10 (some .long) 3 1 := ⟨⟨wa (tt4 (j := 122) rfl) rfl, yc_X1_costWith, yi_RX1, yd_X1_costWith, by decide⟩, ym_X1_costWith, yv_X1_costWith, ⟨_, _, rfl⟩, by decide⟩
theorem mL_134 : MV RL 134 yX7_once cX7_once 5 (some .long) 3 7 := ⟨⟨wa (tt4 (j := 126) rfl) rfl, yc_X7_once, yi_RX7, yd_X7_once, by decide⟩, ym_X7_once, yv_X7_once, ⟨_, _, rfl⟩, by decide⟩
theorem mL_137 : MV RL 137 yX7_promise cX7_promise 4 (some .long) 2 7 := ⟨⟨wa (tt4 (j := 130) rfl) rfl, yc_X7_promise, yi_RX7, yd_X7_promise, by decide⟩, ym_X7_promise, yv_X7_promise, ⟨_, _, rfl⟩, by decide⟩
theorem mX7_225 : MV RX7 225 yX1_costOfPromise cX1_costOfPromise 3 (some .long) 1 1 := ⟨⟨wa (tt4 (j := 134) rfl) rfl, yc_X1_costOfPromise, yi_RX1, yd_X1_costOfPromise, by decide⟩, ym_X1_costOfPromise, yv_X1_costOfPromise, ⟨_, _, rfl⟩, by decide⟩
theorem mX1_194 : MV RX1 194 yX1_goBackPromised cX1_goBackPromised 5 none 2 1 := ⟨⟨wa (tt4 (j := 138) rfl) rfl, yc_X1_goBackPromised, yi_RX1, yd_X1_goBackPromised, by decide⟩, ym_X1_goBackPromised, yv_X1_goBackPromised, ⟨_, _, rfl⟩, by decide⟩
theorem mL_144 : MV RL 144 yX7_holds cX7_holds 4 (some .int) 1 7 := ⟨⟨wa (tt4 (j := 142) rfl) rfl, yc_X7_holds, yi_RX7, yd_X7_holds, by decide⟩, ym_X7_holds, yv_X7_holds, ⟨_, _, rfl⟩, by decide⟩
theorem mL_147 : MV RL 147 yX7_load cX7_load 7 (some .int) 4 7 := ⟨⟨wa (tt4 (j := 146) rfl) rfl, yc_X7_load, yi_RX7, yd_X7_load, by decide⟩, ym_X7_load, yv_X7_load, ⟨_, _, rfl⟩, by decide⟩
theorem mX7_249 : MV RX7 249 yX1_loadBy cX1_loadBy 4 (some .int) 3 1 := ⟨⟨wa (tt4 (j := 150) rfl) rfl, yc_X1_loadBy, yi_RX1, yd_X1_loadBy, by decide⟩, ym_X1_loadBy, yv_X1_loadBy, ⟨_, _, rfl⟩, by decide⟩
theorem mL_150 : MV RL 150 yX7_lose cX7_lose 7 (some .long) 4 7 := ⟨⟨wa (tt4 (j := 151) rfl) rfl, yc_X7_lose, yi_RX7, yd_X7_lose, by decide⟩, ym_X7_lose, yv_X7_lose, ⟨_, _, rfl⟩, by decide⟩
theorem mX7_253 : MV RX7 253 yX1_costBy cX1_costBy 8 (some .long) 3 1 := ⟨⟨wa (tt4 (j := 155) rfl) rfl, yc_X1_costBy, yi_RX1, yd_X1_costBy, by decide⟩, ym_X1_costBy, yv_X1_costBy, ⟨_, _, rfl⟩, by decide⟩
theorem mX1_190 : MV RX1 190 yX1_loadBy cX1_loadBy 4 (some .int) 3 1 := ⟨⟨wa (tt4 (j := 159) rfl) rfl, yc_X1_loadBy, yi_RX1, yd_X1_loadBy, by decide⟩, ym_X1_loadBy, yv_X1_loadBy, ⟨_, _, rfl⟩, by decide⟩
theorem mL_154 : MV RL 154 yX7_mean cX7_mean 7 (some .long) 4 7 := ⟨⟨wa (tt4 (j := 160) rfl) rfl, yc_X7_mean, yi_RX7, yd_X7_mean, by decide⟩, ym_X7_mean, yv_X7_mean, ⟨_, _, rfl⟩, by decide⟩
theorem mL_157 : MV RL 157 yX7_reach cX7_reach 6 (some .int) 3 7 := ⟨⟨wa (tt4 (j := 164) rfl) rfl, yc_X7_reach, yi_RX7, yd_X7_reach, by decide⟩, ym_X7_reach, yv_X7_reach, ⟨_, _, rfl⟩, by decide⟩
theorem mX7_260 : MV RX7 260 yX1_statesBy cX1_statesBy 5 (some .int) 2 1 := ⟨⟨wa (tt4 (j := 168) rfl) rfl, yc_X1_statesBy, yi_RX1, yd_X1_statesBy, by decide⟩, ym_X1_statesBy, yv_X1_statesBy, ⟨_, _, rfl⟩, by decide⟩
theorem mX1_222 : MV RX1 222 yX1_spread cX1_spread 4 none 2 1 := ⟨⟨wa (tt4 (j := 172) rfl) rfl, yc_X1_spread, yi_RX1, yd_X1_spread, by decide⟩, ym_X1_spread, yv_X1_spread, ⟨_, _, rfl⟩, by decide⟩
theorem mX1_226 : MV RX1 226 yX1_startSpread cX1_startSpread 2 none 0 1 := ⟨⟨wa (tt4 (j := 176) rfl) rfl, yc_X1_startSpread, yi_RX1, yd_X1_startSpread, by decide⟩, ym_X1_startSpread, yv_X1_startSpread, ⟨_, _, rfl⟩, by decide⟩
theorem mX1_229 : MV RX1 229 yX1_spreadLoad cX1_spreadLoad 13 (some .long) 2 1 := ⟨⟨wa (tt4 (j := 180) rfl) rfl, yc_X1_spreadLoad, yi_RX1, yd_X1_spreadLoad, by decide⟩, ym_X1_spreadLoad, yv_X1_spreadLoad, ⟨_, _, rfl⟩, by decide⟩
theorem mX1_233 : MV RX1 233 yX1_spreadWhatComes cX1_spreadWhatComes 8 none 0 1 := ⟨⟨wa (tt4 (j := 184) rfl) rfl, yc_X1_spreadWhatComes, yi_RX1, yd_X1_spreadWhatComes, by decide⟩, ym_X1_spreadWhatComes, yv_X1_spreadWhatComes, ⟨_, _, rfl⟩, by decide⟩
theorem mL_160 : MV RL 160 yX7_boy cX7_boy 10 (some .int) 1 7 := ⟨⟨wa (tt4 (j := 188) rfl) rfl, yc_X7_boy, yi_RX7, yd_X7_boy, by decide⟩, ym_X7_boy, yv_X7_boy, ⟨_, _, rfl⟩, by decide⟩
theorem mL_163 : MV RL 163 yX7_boxes cX7_boxes 5 (some .long) 2 7 := ⟨⟨wa (tt4 (j := 192) rfl) rfl, yc_X7_boxes, yi_RX7, yd_X7_boxes, by decide⟩, ym_X7_boxes, yv_X7_boxes, ⟨_, _, rfl⟩, by decide⟩
theorem mX7_268 : MV RX7 268 yX1_boxesBy cX1_boxesBy 5 (some .long) 1 1 := ⟨⟨wa (tt4 (j := 196) rfl) rfl, yc_X1_boxesBy, yi_RX1, yd_X1_boxesBy, by decide⟩, ym_X1_boxesBy, yv_X1_boxesBy, ⟨_, _, rfl⟩, by decide⟩
theorem mL_166 : MV RL 166 yX7_scale cX7_scale 4 (some .long) 2 7 := ⟨⟨wa (tt4 (j := 200) rfl) rfl, yc_X7_scale, yi_RX7, yd_X7_scale, by decide⟩, ym_X7_scale, yv_X7_scale, ⟨_, _, rfl⟩, by decide⟩
theorem mX7_196 : MV RX7 196 yX0_sorts cX0_sorts 1 (some .int) 0 0 := ⟨⟨wa (tt4 (j := 204) rfl) rfl, yc_X0_sorts, yi_RX0, yd_X0_sorts, by decide⟩, ym_X0_sorts, yv_X0_sorts, ⟨_, _, rfl⟩, by decide⟩
theorem mX7_199 : MS RX7 199 yX7_scaleOf cX7_scaleOf 2 (some .long) 2 := ⟨⟨wa (tt4 (j := 205) rfl) rfl, yc_X7_scaleOf, yi_RX7, yd_X7_scaleOf, by decide⟩, ys_X7_scaleOf⟩
theorem mL_174 : MS RL 174 yL_refusals cL_refusals 3 (some .int) 1 := ⟨⟨wa (tt4 (j := 206) rfl) rfl, yc_L_refusals, yi_RL, yd_L_refusals, by decide⟩, ys_L_refusals⟩
theorem mX6_23 : MIN RX6 23 yX5_init cX5_init 1 0 := ⟨⟨"SendTheBox", ⟨wn (tt1 (j := 33) rfl) rfl, yc_X5_init, yi_RX5, yd_X5_init, by decide⟩⟩, ym_X5_init, rfl⟩
theorem mX5_11 : MIN RX5 11 yX0_init cX0_init 1 0 := ⟨⟨"SendTheBox", ⟨wn (tt1 (j := 39) rfl) rfl, yc_X0_init, yi_RX0, yd_X0_init, by decide⟩⟩, ym_X0_init, rfl⟩
theorem mX6_28 : MIN RX6 28 yX0_init cX0_init 1 0 := ⟨⟨"SendTheBox", ⟨wn (tt1 (j := 75) rfl) rfl, yc_X0_init, yi_RX0, yd_X0_init, by decide⟩⟩, ym_X0_init, rfl⟩
theorem mX7_21 : MIN RX7 21 yX4_init cX4_init 1 0 := ⟨⟨"SendTheBox", ⟨wn (tt1 (j := 94) rfl) rfl, yc_X4_init, yi_RX4, yd_X4_init, by decide⟩⟩, ym_X4_init, rfl⟩
theorem mX7_48 : MIN RX7 48 yX1_init cX1_init 1 0 := ⟨⟨"SendTheBox", ⟨wn (tt1 (j := 123) rfl) rfl, yc_X1_init, yi_RX1, yd_X1_init, by decide⟩⟩, ym_X1_init, rfl⟩
theorem mX1_11 : MIN RX1 11 yX0_init cX0_init 1 0 := ⟨⟨"SendTheBox", ⟨wn (tt1 (j := 128) rfl) rfl, yc_X0_init, yi_RX0, yd_X0_init, by decide⟩⟩, ym_X0_init, rfl⟩
theorem mX7_58 : MIN RX7 58 yX0_init cX0_init 1 0 := ⟨⟨"SendTheBox", ⟨wn (tt1 (j := 179) rfl) rfl, yc_X0_init, yi_RX0, yd_X0_init, by decide⟩⟩, ym_X0_init, rfl⟩
theorem mX7_65 : MIN RX7 65 yX5_init cX5_init 1 0 := ⟨⟨"SendTheBox", ⟨wn (tt1 (j := 181) rfl) rfl, yc_X5_init, yi_RX5, yd_X5_init, by decide⟩⟩, ym_X5_init, rfl⟩
theorem mX0_19 : MSN RX0 19 yX7_at cX7_at 2 (some .int) 2 := ⟨⟨"SendTheBox", ⟨wn (tt2 (j := 11) rfl) rfl, yc_X7_at, yi_RX7, yd_X7_at, by decide⟩⟩, ys_X7_at⟩
theorem mX0_39 : MSN RX0 39 yX7_oneOf cX7_oneOf 1 (some .int) 1 := ⟨⟨"SendTheBox", ⟨wn (tt2 (j := 32) rfl) rfl, yc_X7_oneOf, yi_RX7, yd_X7_oneOf, by decide⟩⟩, ys_X7_oneOf⟩
theorem mX0_42 : MSN RX0 42 yX7_standing cX7_standing 2 (some .int) 2 := ⟨⟨"SendTheBox", ⟨wn (tt2 (j := 39) rfl) rfl, yc_X7_standing, yi_RX7, yd_X7_standing, by decide⟩⟩, ys_X7_standing⟩
theorem mX1_82 : MSN RX1 82 yX7_put cX7_put 3 none 3 := ⟨⟨"SendTheBox", ⟨wn (tt2 (j := 49) rfl) rfl, yc_X7_put, yi_RX7, yd_X7_put, by decide⟩⟩, ys_X7_put⟩
theorem mX1_98 : MSN RX1 98 yX7_at cX7_at 2 (some .int) 2 := ⟨⟨"SendTheBox", ⟨wn (tt2 (j := 67) rfl) rfl, yc_X7_at, yi_RX7, yd_X7_at, by decide⟩⟩, ys_X7_at⟩
theorem mX0_23 : MSN RX0 23 yX7_put cX7_put 3 none 3 := ⟨⟨"SendTheBox", ⟨wn (tt2 (j := 189) rfl) rfl, yc_X7_put, yi_RX7, yd_X7_put, by decide⟩⟩, ys_X7_put⟩
theorem mX3_31 : MSN RX3 31 yX7_isShelf cX7_isShelf 1 (some .boolean) 1 := ⟨⟨"SendTheBox", ⟨wn (tt3 (j := 89) rfl) rfl, yc_X7_isShelf, yi_RX7, yd_X7_isShelf, by decide⟩⟩, ys_X7_isShelf⟩
theorem mX1_151 : MSN RX1 151 yX7_put_ cX7_put_ 4 none 3 := ⟨⟨"SendTheBox", ⟨wn (tt3 (j := 169) rfl) rfl, yc_X7_put_, yi_RX7, yd_X7_put_, by decide⟩⟩, ys_X7_put_⟩
theorem mX1_109 : MSN RX1 109 yX7_at_ cX7_at_ 2 (some .long) 2 := ⟨⟨"SendTheBox", ⟨wn (tt3 (j := 179) rfl) rfl, yc_X7_at_, yi_RX7, yd_X7_at_, by decide⟩⟩, ys_X7_at_⟩
theorem mX1_160 : MSN RX1 160 yX7_scaleOf cX7_scaleOf 2 (some .long) 2 := ⟨⟨"SendTheBox", ⟨wn (tt3 (j := 186) rfl) rfl, yc_X7_scaleOf, yi_RX7, yd_X7_scaleOf, by decide⟩⟩, ys_X7_scaleOf⟩
theorem mX1_164 : MSN RX1 164 yX7_oneOf cX7_oneOf 1 (some .int) 1 := ⟨⟨"SendTheBox", ⟨wn (tt3 (j := 192) rfl) rfl, yc_X7_oneOf, yi_RX7, yd_X7_oneOf, by decide⟩⟩, ys_X7_oneOf⟩
theorem mX1_170 : MSN RX1 170 yX7_standing cX7_standing 2 (some .int) 2 := ⟨⟨"SendTheBox", ⟨wn (tt3 (j := 194) rfl) rfl, yc_X7_standing, yi_RX7, yd_X7_standing, by decide⟩⟩, ys_X7_standing⟩
theorem mX1_154 : MSN RX1 154 yX7_timesOf cX7_timesOf 1 (some .long) 1 := ⟨⟨"SendTheBox", ⟨wn (tt3 (j := 209) rfl) rfl, yc_X7_timesOf, yi_RX7, yd_X7_timesOf, by decide⟩⟩, ys_X7_timesOf⟩
theorem mX2_19 : MSN RX2 19 yX7_at_ cX7_at_ 2 (some .long) 2 := ⟨⟨"SendTheBox", ⟨wn (tt4 (j := 20) rfl) rfl, yc_X7_at_, yi_RX7, yd_X7_at_, by decide⟩⟩, ys_X7_at_⟩
theorem mX5_80 : MSN RX5 80 yX7_standing cX7_standing 2 (some .int) 2 := ⟨⟨"SendTheBox", ⟨wn (tt4 (j := 27) rfl) rfl, yc_X7_standing, yi_RX7, yd_X7_standing, by decide⟩⟩, ys_X7_standing⟩
theorem mX5_83 : MSN RX5 83 yX7_oneOf cX7_oneOf 1 (some .int) 1 := ⟨⟨"SendTheBox", ⟨wn (tt4 (j := 34) rfl) rfl, yc_X7_oneOf, yi_RX7, yd_X7_oneOf, by decide⟩⟩, ys_X7_oneOf⟩
theorem kcL_23 : Cond.constant RL 23 (nI 65535) ∈ WA := wa (tt2 (j := 87) rfl) rfl
theorem kcX6_39 : Cond.constant RX6 39 (nI 1103515245) ∈ WA := wa (tt3 (j := 234) rfl) rfl
theorem klX1_127 : Cond.constantLong RX1 127 (lN 4) ∈ WA := wa (tt3 (j := 195) rfl) rfl
theorem kkL_18 : Cond.classLink RL 18 "SendTheBox" ∈ WA := wa (tt1 (j := 15) rfl) rfl
theorem kkX7_7 : Cond.classLink RX7 7 "SendTheBox$World" ∈ WA := wa (tt1 (j := 23) rfl) rfl
theorem kkX6_9 : Cond.classLink RX6 9 "SendTheBox$House" ∈ WA := wa (tt1 (j := 29) rfl) rfl
theorem kkX6_21 : Cond.classLink RX6 21 "SendTheBox$Week" ∈ WA := wa (tt1 (j := 31) rfl) rfl
theorem kkX5_9 : Cond.classLink RX5 9 "SendTheBox$House" ∈ WA := wa (tt1 (j := 37) rfl) rfl
theorem kkX7_19 : Cond.classLink RX7 19 "SendTheBox$Tape" ∈ WA := wa (tt1 (j := 92) rfl) rfl
theorem kkX7_26 : Cond.classLink RX7 26 "SendTheBox$Row" ∈ WA := wa (tt1 (j := 116) rfl) rfl
theorem kkX7_32 : Cond.classLink RX7 32 "SendTheBox$Rule" ∈ WA := wa (tt1 (j := 118) rfl) rfl
theorem kkX7_42 : Cond.classLink RX7 42 "SendTheBox$Plan" ∈ WA := wa (tt1 (j := 120) rfl) rfl
theorem kkX1_9 : Cond.classLink RX1 9 "SendTheBox$House" ∈ WA := wa (tt1 (j := 127) rfl) rfl
theorem kkX7_56 : Cond.classLink RX7 56 "SendTheBox$House" ∈ WA := wa (tt1 (j := 178) rfl) rfl
theorem kkX7_63 : Cond.classLink RX7 63 "SendTheBox$Week" ∈ WA := wa (tt1 (j := 180) rfl) rfl
theorem kkX2_10 : Cond.classLink RX2 10 "SendTheBox$Row" ∈ WA := wa (tt3 (j := 99) rfl) rfl
theorem ka_int : Cond.arrayClass .int ∈ WA := wa (tt1 (j := 47) rfl) rfl
theorem ka_byte : Cond.arrayClass .byte ∈ WA := wa (tt1 (j := 115) rfl) rfl
theorem ka_long : Cond.arrayClass .long ∈ WA := wa (tt1 (j := 177) rfl) rfl
theorem koX7_1 : Cond.methodLink RX7 1 objectInit ∈ WA := wa (tt1 (j := 20) rfl) rfl
theorem koX6_3 : Cond.methodLink RX6 3 objectInit ∈ WA := wa (tt1 (j := 28) rfl) rfl
theorem koX5_3 : Cond.methodLink RX5 3 objectInit ∈ WA := wa (tt1 (j := 36) rfl) rfl
theorem koX0_3 : Cond.methodLink RX0 3 objectInit ∈ WA := wa (tt1 (j := 42) rfl) rfl
theorem koX4_3 : Cond.methodLink RX4 3 objectInit ∈ WA := wa (tt1 (j := 97) rfl) rfl
theorem koX1_3 : Cond.methodLink RX1 3 objectInit ∈ WA := wa (tt1 (j := 126) rfl) rfl
theorem koX2_3 : Cond.methodLink RX2 3 objectInit ∈ WA := wa (tt3 (j := 48) rfl) rfl
theorem koX3_3 : Cond.methodLink RX3 3 objectInit ∈ WA := wa (tt3 (j := 94) rfl) rfl
theorem ko_i : Cond.instanceMethod objectInit ∈ WA := wa (tt1 (j := 21) rfl) rfl
theorem ko_c : Cond.code objectInit ⟨#[0xb1]⟩ 1 none ∈ WA := wa (tt1 (j := 22) rfl) rfl
