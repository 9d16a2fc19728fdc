abbrev M00 : MoT := (fun _ => 0, fun _ => 0, fun _ => -9, 0, 0, 0)
set_option maxHeartbeats 800000 in
set_option maxRecDepth 100000 in
theorem c_X4_init (l : Launch) (G : mvG) (x ci : Nat) : KA l yX4_init cX4_init 1 { frames := 1, cells := 0, slots := 0, locals := 12 } G [.ref x] [gOb x ci []] (fun (u : Unit) => True) (fun (u : Unit) => [gObj x ci]) := by
  refine KA.mk (by decide +kernel) rfl [some (.ref x)] (Nat.le_of_ble_eq_true rfl) rfl (fun C X Y Z hC => ?_)
  subst hC
  refine V_aload_n X dX4_init_0 rfl ?_
  refine V_objInit X kw_1_173 kw_1_23 kw_1_24 dX4_init_1 (Nat.le_of_ble_eq_true rfl) (Nat.le_of_ble_eq_true rfl) ?_
  show V C 0 0 [gOb x ci []] 4 [some (.ref x)] []
  refine V_sel (gs' := [gOb x ci []]) [0] rfl (by decide) ?_
  exact V_aret X Y () trivial (Nat.le_of_ble_eq_true rfl) (Nat.le_of_ble_eq_true rfl) rfl dX4_init_4
set_option maxHeartbeats 800000 in
set_option maxRecDepth 100000 in
theorem c_X0_init (l : Launch) (G : mvG) (x ci : Nat) : KA l yX0_init cX0_init 1 { frames := 2, cells := 0, slots := 0, locals := 32 } G [.ref x] [gOb x ci []] (fun (u : Unit) => True) (fun (u : Unit) => [gObj x ci]) := by
  refine KA.mk (by decide +kernel) rfl [some (.ref x)] (Nat.le_of_ble_eq_true rfl) rfl (fun C X Y Z hC => ?_)
  subst hC
  refine V_aload_n X dX0_init_0 rfl ?_
  refine V_callI (i := 0) (rm := { frames := 1, cells := 0, slots := 0, locals := 12 }) X Z.2 (c_X4_init (Cl C) G x ci) mi_X4_init (Or.inr ⟨_, kw_1_181⟩) rfl kw_1_171 dX0_init_1 rfl ⟨Nat.le_of_ble_eq_true rfl, Nat.le_of_ble_eq_true rfl⟩ ⟨Nat.le_of_ble_eq_true rfl, Nat.le_of_ble_eq_true rfl⟩ (Nat.le_of_ble_eq_true rfl) (fun u1 hu1 => ?_)
  show V C 0 0 [[], gOb x ci []] 4 [some (.ref x)] []
  refine V_sel (gs' := [gOb x ci []]) [1] rfl (by decide) ?_
  exact V_aret X Y () trivial (Nat.le_of_ble_eq_true rfl) (Nat.le_of_ble_eq_true rfl) rfl dX0_init_4
set_option maxHeartbeats 800000 in
set_option maxRecDepth 100000 in
theorem c_X2_init (l : Launch) (G : mvG) (x ci : Nat) : KA l yX2_init cX2_init 1 { frames := 2, cells := 0, slots := 0, locals := 32 } G [.ref x] [gOb x ci []] (fun (u : Unit) => True) (fun (u : Unit) => [gObj x ci]) := by
  refine KA.mk (by decide +kernel) rfl [some (.ref x)] (Nat.le_of_ble_eq_true rfl) rfl (fun C X Y Z hC => ?_)
  subst hC
  refine V_aload_n X dX2_init_0 rfl ?_
  refine V_callI (i := 0) (rm := { frames := 1, cells := 0, slots := 0, locals := 12 }) X Z.2 (c_X4_init (Cl C) G x ci) mi_X4_init (Or.inr ⟨_, kw_1_188⟩) rfl kw_1_171 dX2_init_1 rfl ⟨Nat.le_of_ble_eq_true rfl, Nat.le_of_ble_eq_true rfl⟩ ⟨Nat.le_of_ble_eq_true rfl, Nat.le_of_ble_eq_true rfl⟩ (Nat.le_of_ble_eq_true rfl) (fun u1 hu1 => ?_)
  show V C 0 0 [[], gOb x ci []] 4 [some (.ref x)] []
  refine V_sel (gs' := [gOb x ci []]) [1] rfl (by decide) ?_
  exact V_aret X Y () trivial (Nat.le_of_ble_eq_true rfl) (Nat.le_of_ble_eq_true rfl) rfl dX2_init_4
set_option maxHeartbeats 800000 in
set_option maxRecDepth 100000 in
theorem c_X9_init (l : Launch) (G : mvG) (x ci : Nat) : KA l yX9_init cX9_init 1 { frames := 2, cells := 0, slots := 0, locals := 32 } G [.ref x] [gOb x ci []] (fun (u : Unit) => True) (fun (u : Unit) => [gObj x ci]) := by
  refine KA.mk (by decide +kernel) rfl [some (.ref x)] (Nat.le_of_ble_eq_true rfl) rfl (fun C X Y Z hC => ?_)
  subst hC
  refine V_aload_n X dX9_init_0 rfl ?_
  refine V_callI (i := 0) (rm := { frames := 1, cells := 0, slots := 0, locals := 12 }) X Z.2 (c_X4_init (Cl C) G x ci) mi_X4_init (Or.inr ⟨_, kw_1_209⟩) rfl kw_1_171 dX9_init_1 rfl ⟨Nat.le_of_ble_eq_true rfl, Nat.le_of_ble_eq_true rfl⟩ ⟨Nat.le_of_ble_eq_true rfl, Nat.le_of_ble_eq_true rfl⟩ (Nat.le_of_ble_eq_true rfl) (fun u1 hu1 => ?_)
  show V C 0 0 [[], gOb x ci []] 4 [some (.ref x)] []
  refine V_sel (gs' := [gOb x ci []]) [1] rfl (by decide) ?_
  exact V_aret X Y () trivial (Nat.le_of_ble_eq_true rfl) (Nat.le_of_ble_eq_true rfl) rfl dX9_init_4
set_option maxHeartbeats 800000 in
set_option maxRecDepth 100000 in
theorem c_X8_init (l : Launch) (G : mvG) (x ci : Nat) : KA l yX8_init cX8_init 1 { frames := 3, cells := 0, slots := 0, locals := 52 } G [.ref x] [gOb x ci []] (fun (u : Unit) => True) (fun (u : Unit) => [gObj x ci]) := by
  refine KA.mk (by decide +kernel) rfl [some (.ref x)] (Nat.le_of_ble_eq_true rfl) rfl (fun C X Y Z hC => ?_)
  subst hC
  refine V_aload_n X dX8_init_0 rfl ?_
  refine V_callI (i := 0) (rm := { frames := 2, cells := 0, slots := 0, locals := 32 }) X Z.2 (c_X0_init (Cl C) G x ci) mi_X0_init (Or.inr ⟨_, kw_1_195⟩) rfl kw_1_179 dX8_init_1 rfl ⟨Nat.le_of_ble_eq_true rfl, Nat.le_of_ble_eq_true rfl⟩ ⟨Nat.le_of_ble_eq_true rfl, Nat.le_of_ble_eq_true rfl⟩ (Nat.le_of_ble_eq_true rfl) (fun u1 hu1 => ?_)
  show V C 0 0 [[], gOb x ci []] 4 [some (.ref x)] []
  refine V_sel (gs' := [gOb x ci []]) [1] rfl (by decide) ?_
  exact V_aret X Y () trivial (Nat.le_of_ble_eq_true rfl) (Nat.le_of_ble_eq_true rfl) rfl dX8_init_4
set_option maxHeartbeats 800000 in
set_option maxRecDepth 100000 in
theorem c_X10_init (l : Launch) (G : mvG) (x ci : Nat) : KA l yX10_init cX10_init 1 { frames := 3, cells := 0, slots := 0, locals := 52 } G [.ref x] [gOb x ci []] (fun (u : Unit) => True) (fun (u : Unit) => [gObj x ci]) := by
  refine KA.mk (by decide +kernel) rfl [some (.ref x)] (Nat.le_of_ble_eq_true rfl) rfl (fun C X Y Z hC => ?_)
  subst hC
  refine V_aload_n X dX10_init_0 rfl ?_
  refine V_callI (i := 0) (rm := { frames := 2, cells := 0, slots := 0, locals := 32 }) X Z.2 (c_X2_init (Cl C) G x ci) mi_X2_init (Or.inr ⟨_, kw_1_202⟩) rfl kw_1_186 dX10_init_1 rfl ⟨Nat.le_of_ble_eq_true rfl, Nat.le_of_ble_eq_true rfl⟩ ⟨Nat.le_of_ble_eq_true rfl, Nat.le_of_ble_eq_true rfl⟩ (Nat.le_of_ble_eq_true rfl) (fun u1 hu1 => ?_)
  show V C 0 0 [[], gOb x ci []] 4 [some (.ref x)] []
  refine V_sel (gs' := [gOb x ci []]) [1] rfl (by decide) ?_
  exact V_aret X Y () trivial (Nat.le_of_ble_eq_true rfl) (Nat.le_of_ble_eq_true rfl) rfl dX10_init_4
set_option maxHeartbeats 800000 in
set_option maxRecDepth 100000 in
theorem c_X7_init (l : Launch) (G : mvG) (x : Nat) : KA l yX7_init cX7_init 1 { frames := 1, cells := 2, slots := 10, locals := 12 } G [.ref x] [gOb x 7 [.null, .null, .int (nI 0), .int (nI 0)]] (fun (u : Nat → Nat) => u 0 = x) (fun (u : Nat → Nat) => [gRoll G u (nF (fun _ => 0)) (nF (fun _ => 0)) (nI 0) (nI 1)]) := by
  refine KA.mk (by decide +kernel) rfl [some (.ref x)] (Nat.le_of_ble_eq_true rfl) rfl (fun C X Y Z hC => ?_)
  subst hC
  refine V_aload_n X dX7_init_0 rfl ?_
  refine V_objInit X kw_1_36 kw_1_23 kw_1_24 dX7_init_1 (Nat.le_of_ble_eq_true rfl) (Nat.le_of_ble_eq_true rfl) ?_
  show V C 0 0 [gOb x 7 [.null, .null, .int (nI 0), .int (nI 0)]] 4 [some (.ref x)] []
  refine V_aload_n X dX7_init_4 rfl ?_
  refine V_iconst X (nI 5) dX7_init_5 (by decide) ?_
  refine V_newa (aty := .int) (ty := .int) (f := nF (fun _ => 0)) 0 X rfl rfl (fun _ _ h => h) kw_1_55 rfl (by decide) (Nat.le_of_ble_eq_true rfl) (fun _ => rfl) dX7_init_6 (Nat.le_of_ble_eq_true rfl) (Nat.le_of_ble_eq_true rfl) (fun q6 => ?_)
  show V C 1 5 [gOb x 7 [.null, .null, .int (nI 0), .int (nI 0)], gAr G q6 0 5 (nF (fun _ => 0))] 8 [some (.ref x)] [.ref q6, .ref x]
  refine V_putF X Z fl_X7_9 rfl kw_1_37 0 0 rfl rfl rfl rfl (Nat.le_of_ble_eq_true rfl) dX7_init_8 ?_
  show V C 1 5 [gOb x 7 [.ref q6, .null, .int (nI 0), .int (nI 0)], gAr G q6 0 5 (nF (fun _ => 0))] 11 [some (.ref x)] []
  refine V_aload_n X dX7_init_11 rfl ?_
  refine V_iconst X (nI 5) dX7_init_12 (by decide) ?_
  refine V_newa (aty := .int) (ty := .int) (f := nF (fun _ => 0)) 0 X rfl rfl (fun _ _ h => h) kw_1_55 rfl (by decide) (Nat.le_of_ble_eq_true rfl) (fun _ => rfl) dX7_init_13 (Nat.le_of_ble_eq_true rfl) (Nat.le_of_ble_eq_true rfl) (fun q13 => ?_)
  show V C 2 10 [gOb x 7 [.ref q6, .null, .int (nI 0), .int (nI 0)], gAr G q6 0 5 (nF (fun _ => 0)), gAr G q13 0 5 (nF (fun _ => 0))] 15 [some (.ref x)] [.ref q13, .ref x]
  refine V_putF X Z fl_X7_15 rfl kw_1_38 0 0 rfl rfl rfl rfl (Nat.le_of_ble_eq_true rfl) dX7_init_15 ?_
  show V C 2 10 [gOb x 7 [.ref q6, .ref q13, .int (nI 0), .int (nI 0)], gAr G q6 0 5 (nF (fun _ => 0)), gAr G q13 0 5 (nF (fun _ => 0))] 18 [some (.ref x)] []
  refine V_aload_n X dX7_init_18 rfl ?_
  refine V_iconst X (nI 1) dX7_init_19 (by decide) ?_
  refine V_put X fl_X7_18 0 0 rfl rfl rfl rfl (Nat.le_of_ble_eq_true rfl) dX7_init_20 ?_
  show V C 2 10 [gOb x 7 [.ref q6, .ref q13, .int (nI 0), .int (nI 1)], gAr G q6 0 5 (nF (fun _ => 0)), gAr G q13 0 5 (nF (fun _ => 0))] 23 [some (.ref x)] []
  exact V_aret X Y (fun j => [x, q6, q13].getD j 0) rfl (Nat.le_of_ble_eq_true rfl) (Nat.le_of_ble_eq_true rfl) rfl dX7_init_23
set_option maxHeartbeats 800000 in
set_option maxRecDepth 100000 in
theorem c_X1_init (l : Launch) (G : mvG) (x : Nat) : KA l yX1_init cX1_init 1 { frames := 1, cells := 2, slots := 12, locals := 12 } G [.ref x] [gOb x 1 [.null, .null, .int (nI 0)]] (fun (u : Nat → Nat) => u 0 = x) (fun (u : Nat → Nat) => [gFind G u (nF (fun _ => 0)) (nF (fun _ => 0)) (nI 0)]) := by
  refine KA.mk (by decide +kernel) rfl [some (.ref x)] (Nat.le_of_ble_eq_true rfl) rfl (fun C X Y Z hC => ?_)
  subst hC
  refine V_aload_n X dX1_init_0 rfl ?_
  refine V_objInit X kw_1_155 kw_1_23 kw_1_24 dX1_init_1 (Nat.le_of_ble_eq_true rfl) (Nat.le_of_ble_eq_true rfl) ?_
  show V C 0 0 [gOb x 1 [.null, .null, .int (nI 0)]] 4 [some (.ref x)] []
  refine V_aload_n X dX1_init_4 rfl ?_
  refine V_bipush X (nI 6) dX1_init_5 (by decide) ?_
  refine V_newa (aty := .int) (ty := .int) (f := nF (fun _ => 0)) 0 X rfl rfl (fun _ _ h => h) kw_1_55 rfl (by decide) (Nat.le_of_ble_eq_true rfl) (fun _ => rfl) dX1_init_7 (Nat.le_of_ble_eq_true rfl) (Nat.le_of_ble_eq_true rfl) (fun q7 => ?_)
  show V C 1 6 [gOb x 1 [.null, .null, .int (nI 0)], gAr G q7 0 6 (nF (fun _ => 0))] 9 [some (.ref x)] [.ref q7, .ref x]
  refine V_putF X Z fl_X1_9 rfl kw_1_156 0 0 rfl rfl rfl rfl (Nat.le_of_ble_eq_true rfl) dX1_init_9 ?_
  show V C 1 6 [gOb x 1 [.ref q7, .null, .int (nI 0)], gAr G q7 0 6 (nF (fun _ => 0))] 12 [some (.ref x)] []
  refine V_aload_n X dX1_init_12 rfl ?_
  refine V_bipush X (nI 6) dX1_init_13 (by decide) ?_
  refine V_newa (aty := .int) (ty := .int) (f := nF (fun _ => 0)) 0 X rfl rfl (fun _ _ h => h) kw_1_55 rfl (by decide) (Nat.le_of_ble_eq_true rfl) (fun _ => rfl) dX1_init_15 (Nat.le_of_ble_eq_true rfl) (Nat.le_of_ble_eq_true rfl) (fun q15 => ?_)
  show V C 2 12 [gOb x 1 [.ref q7, .null, .int (nI 0)], gAr G q7 0 6 (nF (fun _ => 0)), gAr G q15 0 6 (nF (fun _ => 0))] 17 [some (.ref x)] [.ref q15, .ref x]
  refine V_putF X Z fl_X1_15 rfl kw_1_157 0 0 rfl rfl rfl rfl (Nat.le_of_ble_eq_true rfl) dX1_init_17 ?_
  show V C 2 12 [gOb x 1 [.ref q7, .ref q15, .int (nI 0)], gAr G q7 0 6 (nF (fun _ => 0)), gAr G q15 0 6 (nF (fun _ => 0))] 20 [some (.ref x)] []
  exact V_aret X Y (fun j => [x, q7, q15].getD j 0) rfl (Nat.le_of_ble_eq_true rfl) (Nat.le_of_ble_eq_true rfl) rfl dX1_init_20
set_option maxHeartbeats 800000 in
set_option maxRecDepth 100000 in
theorem c_X3_init (l : Launch) (G : mvG) (x : Nat) : KA l yX3_init cX3_init 1 { frames := 2, cells := 3, slots := 77, locals := 43 } G [.ref x] [gOb x 3 [.null, .null, .null, .int (nI 0), .int (nI 0), .int (nI 0)]] (fun (u : Nat → Nat) => u 0 = x) (fun (u : Nat → Nat) => [gMoT G u M00]) := by
  refine KA.mk (by decide +kernel) rfl [some (.ref x)] (Nat.le_of_ble_eq_true rfl) rfl (fun C X Y Z hC => ?_)
  subst hC
  refine V_aload_n X dX3_init_0 rfl ?_
  refine V_objInit X kw_1_61 kw_1_23 kw_1_24 dX3_init_1 (Nat.le_of_ble_eq_true rfl) (Nat.le_of_ble_eq_true rfl) ?_
  show V C 0 0 [gOb x 3 [.null, .null, .null, .int (nI 0), .int (nI 0), .int (nI 0)]] 4 [some (.ref x)] []
  refine V_aload_n X dX3_init_4 rfl ?_
  refine V_iconst X (nI 5) dX3_init_5 (by decide) ?_
  refine V_newa (aty := .int) (ty := .int) (f := nF (fun _ => 0)) 0 X rfl rfl (fun _ _ h => h) kw_1_55 rfl (by decide) (Nat.le_of_ble_eq_true rfl) (fun _ => rfl) dX3_init_6 (Nat.le_of_ble_eq_true rfl) (Nat.le_of_ble_eq_true rfl) (fun q6 => ?_)
  show V C 1 5 [gOb x 3 [.null, .null, .null, .int (nI 0), .int (nI 0), .int (nI 0)], gAr G q6 0 5 (nF (fun _ => 0))] 8 [some (.ref x)] [.ref q6, .ref x]
  refine V_putF X Z fl_X3_9 rfl kw_1_69 0 0 rfl rfl rfl rfl (Nat.le_of_ble_eq_true rfl) dX3_init_8 ?_
  show V C 1 5 [gOb x 3 [.ref q6, .null, .null, .int (nI 0), .int (nI 0), .int (nI 0)], gAr G q6 0 5 (nF (fun _ => 0))] 11 [some (.ref x)] []
  refine V_aload_n X dX3_init_11 rfl ?_
  refine V_bipush X (nI 36) dX3_init_12 (by decide) ?_
  refine V_newa (aty := .int) (ty := .int) (f := nF (fun _ => 0)) 0 X rfl rfl (fun _ _ h => h) kw_1_55 rfl (by decide) (Nat.le_of_ble_eq_true rfl) (fun _ => rfl) dX3_init_14 (Nat.le_of_ble_eq_true rfl) (Nat.le_of_ble_eq_true rfl) (fun q14 => ?_)
  show V C 2 41 [gOb x 3 [.ref q6, .null, .null, .int (nI 0), .int (nI 0), .int (nI 0)], gAr G q6 0 5 (nF (fun _ => 0)), gAr G q14 0 36 (nF (fun _ => 0))] 16 [some (.ref x)] [.ref q14, .ref x]
  refine V_putF X Z fl_X3_15 rfl kw_1_70 0 0 rfl rfl rfl rfl (Nat.le_of_ble_eq_true rfl) dX3_init_16 ?_
  show V C 2 41 [gOb x 3 [.ref q6, .ref q14, .null, .int (nI 0), .int (nI 0), .int (nI 0)], gAr G q6 0 5 (nF (fun _ => 0)), gAr G q14 0 36 (nF (fun _ => 0))] 19 [some (.ref x)] []
  refine V_aload_n X dX3_init_19 rfl ?_
  refine V_bipush X (nI 36) dX3_init_20 (by decide) ?_
  refine V_newa (aty := .int) (ty := .int) (f := nF (fun _ => 0)) 0 X rfl rfl (fun _ _ h => h) kw_1_55 rfl (by decide) (Nat.le_of_ble_eq_true rfl) (fun _ => rfl) dX3_init_22 (Nat.le_of_ble_eq_true rfl) (Nat.le_of_ble_eq_true rfl) (fun q22 => ?_)
  show V C 3 77 [gOb x 3 [.ref q6, .ref q14, .null, .int (nI 0), .int (nI 0), .int (nI 0)], gAr G q6 0 5 (nF (fun _ => 0)), gAr G q14 0 36 (nF (fun _ => 0)), gAr G q22 0 36 (nF (fun _ => 0))] 24 [some (.ref x)] [.ref q22, .ref x]
  refine V_putF X Z fl_X3_18 rfl kw_1_71 0 0 rfl rfl rfl rfl (Nat.le_of_ble_eq_true rfl) dX3_init_24 ?_
  show V C 3 77 [gOb x 3 [.ref q6, .ref q14, .ref q22, .int (nI 0), .int (nI 0), .int (nI 0)], gAr G q6 0 5 (nF (fun _ => 0)), gAr G q14 0 36 (nF (fun _ => 0)), gAr G q22 0 36 (nF (fun _ => 0))] 27 [some (.ref x)] []
  refine V_aload_n X dX3_init_27 rfl ?_
  refine V_flat (gs' := [gMo G (fun j => [x, q6, q14, q22].getD j 0) (nF (fun _ => 0)) (nF (fun _ => 0)) (nF (fun _ => 0)) (nI 0) (nI 0) (nI 0)]) rfl ?_
  refine V_callVR (rest := []) X (c_X3_reset (Cl C) G (fun j => [x, q6, q14, q22].getD j 0) (fun _ => 0) (fun _ => 0) (nF (fun _ => 0)) 0 0 0) mi_X3_reset kw_1_62 kw_1_63 kw_1_64 dX3_init_28 [0] rfl (by decide) 0 0 rfl rfl rfl rfl rfl rfl ⟨Nat.le_of_ble_eq_true rfl, Nat.le_of_ble_eq_true rfl⟩ (Nat.le_of_ble_eq_true rfl) ⟨Nat.le_of_ble_eq_true rfl, Nat.le_of_ble_eq_true rfl⟩ (fun _ _ => ?_)
  show V C 3 77 [gMoT G (fun j => [x, q6, q14, q22].getD j 0) M00] 31 [some (.ref x)] []
  exact V_aret X Y (fun j => [x, q6, q14, q22].getD j 0) rfl (Nat.le_of_ble_eq_true rfl) (Nat.le_of_ble_eq_true rfl) rfl dX3_init_31
set_option maxHeartbeats 800000 in
set_option maxRecDepth 100000 in
theorem c_X5_init (l : Launch) (G : mvG) (x : Nat) : KA l yX5_init cX5_init 2 { frames := 3, cells := 41, slots := 840, locals := 63 } G [.ref x] [gOb x 5 [.null, .int (nI 0), .int (nI 0)]] (fun (u : (Nat → Nat) × (Nat → Nat → Nat)) => u.1 0 = x) (fun (u : (Nat → Nat) × (Nat → Nat → Nat)) => [gPast G u.1 (fun j => u.2 j 0) (nI 0) (nI 0), gMoT G (u.2 0) M00, gMoT G (u.2 1) M00, gMoT G (u.2 2) M00, gMoT G (u.2 3) M00, gMoT G (u.2 4) M00, gMoT G (u.2 5) M00, gMoT G (u.2 6) M00, gMoT G (u.2 7) M00, gMoT G (u.2 8) M00, gMoT G (u.2 9) M00]) := by
  refine KA.mk (by decide +kernel) rfl [some (.ref x), none] (Nat.le_of_ble_eq_true rfl) rfl (fun C X Y Z hC => ?_)
  subst hC
  refine V_aload_n X dX5_init_0 rfl ?_
  refine V_objInit X kw_1_135 kw_1_23 kw_1_24 dX5_init_1 (Nat.le_of_ble_eq_true rfl) (Nat.le_of_ble_eq_true rfl) ?_
  show V C 0 0 [gOb x 5 [.null, .int (nI 0), .int (nI 0)]] 4 [some (.ref x), none] []
  refine V_aload_n X dX5_init_4 rfl ?_
  refine V_bipush X (nI 10) dX5_init_5 (by decide) ?_
  refine V_anew (Cn := "MudMoot$Moment") 3 X rfl kw_1_136 Z.2.1 rfl (by decide) (Nat.le_of_ble_eq_true rfl) dX5_init_7 (Nat.le_of_ble_eq_true rfl) (Nat.le_of_ble_eq_true rfl) (fun q7 => ?_)
  show V C 1 10 [gOb x 5 [.null, .int (nI 0), .int (nI 0)], gRf G q7 3 10 (fun _ => none)] 10 [some (.ref x), none] [.ref q7, .ref x]
  refine V_putF X Z fl_X5_11 rfl kw_1_139 0 0 rfl rfl rfl rfl (Nat.le_of_ble_eq_true rfl) dX5_init_10 ?_
  show V C 1 10 [gOb x 5 [.ref q7, .int (nI 0), .int (nI 0)], gRf G q7 3 10 (fun _ => none)] 13 [some (.ref x), none] []
  refine V_iconst X (nI 0) dX5_init_13 (by decide) ?_
  refine V_istore_n X dX5_init_14 (by decide) rfl ?_
  show V C 1 10 [gOb x 5 [.ref q7, .int (nI 0), .int (nI 0)], gRf G q7 3 10 (fun _ => none)] 15 [some (.ref x), some (.int (nI 0))] []
  refine V_iload_n X dX5_init_15 rfl ?_
  refine V_aload_n X dX5_init_16 rfl ?_
  refine V_get X fl_X5_11 0 0 rfl rfl rfl dX5_init_17 ?_
  refine V_alen X (t0 := 3) 1 0 (nI 10) rfl rfl rfl rfl dX5_init_20 ?_
  refine V_icmp_geN X 43 dX5_init_21 (by decide) (by decide) (by decide) (fun z => absurd z (by decide)) (fun _ => ?_)
  refine V_aload_n X dX5_init_24 rfl ?_
  refine V_get X fl_X5_11 0 0 rfl rfl rfl dX5_init_25 ?_
  refine V_iload_n X dX5_init_28 rfl ?_
  refine V_new (ci := 3) (fs := [.null, .null, .null, .int (nI 0), .int (nI 0), .int (nI 0)]) tyX3 X rfl inX3 tyX3_ok (fun j hj => by rcases (show j = 0 ∨ j = 1 ∨ j = 2 ∨ j = 3 ∨ j = 4 ∨ j = 5 by omega) with rfl | rfl | rfl | rfl | rfl | rfl <;> rfl) kw_1_136 kw_1_57 kw_1_4 dX5_init_29 (Nat.le_of_ble_eq_true rfl) (Nat.le_of_ble_eq_true rfl) (fun q29_1 => ?_)
  show V C 2 16 [gOb x 5 [.ref q7, .int (nI 0), .int (nI 0)], gRf G q7 3 10 (fun _ => none), gOb q29_1 3 [.null, .null, .null, .int (nI 0), .int (nI 0), .int (nI 0)]] 32 [some (.ref x), some (.int (nI 0))] [.ref q29_1, .int (nI 0), .ref q7]
  refine V_dup X dX5_init_32 rfl ?_
  refine V_callI (i := 2) (rm := { frames := 2, cells := 3, slots := 77, locals := 43 }) X Z.2 (c_X3_init (Cl C) G q29_1) mi_X3_init (Or.inl kw_1_138) rfl kw_1_59 dX5_init_33 rfl ⟨Nat.le_of_ble_eq_true rfl, Nat.le_of_ble_eq_true rfl⟩ ⟨Nat.le_of_ble_eq_true rfl, Nat.le_of_ble_eq_true rfl⟩ (Nat.le_of_ble_eq_true rfl) (fun u2 hu2 => ?_)
  have hu2 : u2 0 = q29_1 := hu2
  subst hu2
  show V C 5 93 [gOb x 5 [.ref q7, .int (nI 0), .int (nI 0)], gRf G q7 3 10 (fun _ => none), [], gMoT G u2 M00] 36 [some (.ref x), some (.int (nI 0))] [.ref (u2 0), .int (nI 0), .ref q7]
  refine V_astO (E := "MudMoot$Moment") 3 0 X 1 0 3 0 rfl rfl rfl rfl rfl rfl (Or.inl rfl) (by decide) (by decide) dX5_init_36 ?_
  show V C 5 93 [gOb x 5 [.ref q7, .int (nI 0), .int (nI 0)], gRf G q7 3 10 (va_up (fun _ => none) 0 (some (u2 0))), [], gMoT G u2 M00] 37 [some (.ref x), some (.int (nI 0))] []
  refine V_iincN (c := 1) X dX5_init_37 rfl (by decide) rfl ?_
  show V C 5 93 [gOb x 5 [.ref q7, .int (nI 0), .int (nI 0)], gRf G q7 3 10 (va_up (fun _ => none) 0 (some (u2 0))), [], gMoT G u2 M00] 40 [some (.ref x), some (.int (nI 1))] []
  refine V_goto X 15 dX5_init_40 (by decide) ?_
  refine V_iload_n X dX5_init_15 rfl ?_
  refine V_aload_n X dX5_init_16 rfl ?_
  refine V_get X fl_X5_11 0 0 rfl rfl rfl dX5_init_17 ?_
  refine V_alen X (t0 := 3) 1 0 (nI 10) rfl rfl rfl rfl dX5_init_20 ?_
  refine V_icmp_geN X 43 dX5_init_21 (by decide) (by decide) (by decide) (fun z => absurd z (by decide)) (fun _ => ?_)
  refine V_aload_n X dX5_init_24 rfl ?_
  refine V_get X fl_X5_11 0 0 rfl rfl rfl dX5_init_25 ?_
  refine V_iload_n X dX5_init_28 rfl ?_
  refine V_new (ci := 3) (fs := [.null, .null, .null, .int (nI 0), .int (nI 0), .int (nI 0)]) tyX3 X rfl inX3 tyX3_ok (fun j hj => by rcases (show j = 0 ∨ j = 1 ∨ j = 2 ∨ j = 3 ∨ j = 4 ∨ j = 5 by omega) with rfl | rfl | rfl | rfl | rfl | rfl <;> rfl) kw_1_136 kw_1_57 kw_1_4 dX5_init_29 (Nat.le_of_ble_eq_true rfl) (Nat.le_of_ble_eq_true rfl) (fun q29_3 => ?_)
  show V C 6 99 [gOb x 5 [.ref q7, .int (nI 0), .int (nI 0)], gRf G q7 3 10 (va_up (fun _ => none) 0 (some (u2 0))), [], gMoT G u2 M00, gOb q29_3 3 [.null, .null, .null, .int (nI 0), .int (nI 0), .int (nI 0)]] 32 [some (.ref x), some (.int (nI 1))] [.ref q29_3, .int (nI 1), .ref q7]
  refine V_dup X dX5_init_32 rfl ?_
  refine V_callI (i := 4) (rm := { frames := 2, cells := 3, slots := 77, locals := 43 }) X Z.2 (c_X3_init (Cl C) G q29_3) mi_X3_init (Or.inl kw_1_138) rfl kw_1_59 dX5_init_33 rfl ⟨Nat.le_of_ble_eq_true rfl, Nat.le_of_ble_eq_true rfl⟩ ⟨Nat.le_of_ble_eq_true rfl, Nat.le_of_ble_eq_true rfl⟩ (Nat.le_of_ble_eq_true rfl) (fun u4 hu4 => ?_)
  have hu4 : u4 0 = q29_3 := hu4
  subst hu4
  show V C 9 176 [gOb x 5 [.ref q7, .int (nI 0), .int (nI 0)], gRf G q7 3 10 (va_up (fun _ => none) 0 (some (u2 0))), [], gMoT G u2 M00, [], gMoT G u4 M00] 36 [some (.ref x), some (.int (nI 1))] [.ref (u4 0), .int (nI 1), .ref q7]
  refine V_astO (E := "MudMoot$Moment") 3 1 X 1 0 5 0 rfl rfl rfl rfl rfl rfl (Or.inl rfl) (by decide) (by decide) dX5_init_36 ?_
  show V C 9 176 [gOb x 5 [.ref q7, .int (nI 0), .int (nI 0)], gRf G q7 3 10 (va_up (va_up (fun _ => none) 0 (some (u2 0))) 1 (some (u4 0))), [], gMoT G u2 M00, [], gMoT G u4 M00] 37 [some (.ref x), some (.int (nI 1))] []
  refine V_iincN (c := 1) X dX5_init_37 rfl (by decide) rfl ?_
  show V C 9 176 [gOb x 5 [.ref q7, .int (nI 0), .int (nI 0)], gRf G q7 3 10 (va_up (va_up (fun _ => none) 0 (some (u2 0))) 1 (some (u4 0))), [], gMoT G u2 M00, [], gMoT G u4 M00] 40 [some (.ref x), some (.int (nI 2))] []
  refine V_goto X 15 dX5_init_40 (by decide) ?_
  refine V_iload_n X dX5_init_15 rfl ?_
  refine V_aload_n X dX5_init_16 rfl ?_
  refine V_get X fl_X5_11 0 0 rfl rfl rfl dX5_init_17 ?_
  refine V_alen X (t0 := 3) 1 0 (nI 10) rfl rfl rfl rfl dX5_init_20 ?_
  refine V_icmp_geN X 43 dX5_init_21 (by decide) (by decide) (by decide) (fun z => absurd z (by decide)) (fun _ => ?_)
  refine V_aload_n X dX5_init_24 rfl ?_
  refine V_get X fl_X5_11 0 0 rfl rfl rfl dX5_init_25 ?_
  refine V_iload_n X dX5_init_28 rfl ?_
  refine V_new (ci := 3) (fs := [.null, .null, .null, .int (nI 0), .int (nI 0), .int (nI 0)]) tyX3 X rfl inX3 tyX3_ok (fun j hj => by rcases (show j = 0 ∨ j = 1 ∨ j = 2 ∨ j = 3 ∨ j = 4 ∨ j = 5 by omega) with rfl | rfl | rfl | rfl | rfl | rfl <;> rfl) kw_1_136 kw_1_57 kw_1_4 dX5_init_29 (Nat.le_of_ble_eq_true rfl) (Nat.le_of_ble_eq_true rfl) (fun q29_5 => ?_)
  show V C 10 182 [gOb x 5 [.ref q7, .int (nI 0), .int (nI 0)], gRf G q7 3 10 (va_up (va_up (fun _ => none) 0 (some (u2 0))) 1 (some (u4 0))), [], gMoT G u2 M00, [], gMoT G u4 M00, gOb q29_5 3 [.null, .null, .null, .int (nI 0), .int (nI 0), .int (nI 0)]] 32 [some (.ref x), some (.int (nI 2))] [.ref q29_5, .int (nI 2), .ref q7]
  refine V_dup X dX5_init_32 rfl ?_
  refine V_callI (i := 6) (rm := { frames := 2, cells := 3, slots := 77, locals := 43 }) X Z.2 (c_X3_init (Cl C) G q29_5) mi_X3_init (Or.inl kw_1_138) rfl kw_1_59 dX5_init_33 rfl ⟨Nat.le_of_ble_eq_true rfl, Nat.le_of_ble_eq_true rfl⟩ ⟨Nat.le_of_ble_eq_true rfl, Nat.le_of_ble_eq_true rfl⟩ (Nat.le_of_ble_eq_true rfl) (fun u6 hu6 => ?_)
  have hu6 : u6 0 = q29_5 := hu6
  subst hu6
  show V C 13 259 [gOb x 5 [.ref q7, .int (nI 0), .int (nI 0)], gRf G q7 3 10 (va_up (va_up (fun _ => none) 0 (some (u2 0))) 1 (some (u4 0))), [], gMoT G u2 M00, [], gMoT G u4 M00, [], gMoT G u6 M00] 36 [some (.ref x), some (.int (nI 2))] [.ref (u6 0), .int (nI 2), .ref q7]
  refine V_astO (E := "MudMoot$Moment") 3 2 X 1 0 7 0 rfl rfl rfl rfl rfl rfl (Or.inl rfl) (by decide) (by decide) dX5_init_36 ?_
  show V C 13 259 [gOb x 5 [.ref q7, .int (nI 0), .int (nI 0)], gRf G q7 3 10 (va_up (va_up (va_up (fun _ => none) 0 (some (u2 0))) 1 (some (u4 0))) 2 (some (u6 0))), [], gMoT G u2 M00, [], gMoT G u4 M00, [], gMoT G u6 M00] 37 [some (.ref x), some (.int (nI 2))] []
  refine V_iincN (c := 1) X dX5_init_37 rfl (by decide) rfl ?_
  show V C 13 259 [gOb x 5 [.ref q7, .int (nI 0), .int (nI 0)], gRf G q7 3 10 (va_up (va_up (va_up (fun _ => none) 0 (some (u2 0))) 1 (some (u4 0))) 2 (some (u6 0))), [], gMoT G u2 M00, [], gMoT G u4 M00, [], gMoT G u6 M00] 40 [some (.ref x), some (.int (nI 3))] []
  refine V_goto X 15 dX5_init_40 (by decide) ?_
  refine V_iload_n X dX5_init_15 rfl ?_
  refine V_aload_n X dX5_init_16 rfl ?_
  refine V_get X fl_X5_11 0 0 rfl rfl rfl dX5_init_17 ?_
  refine V_alen X (t0 := 3) 1 0 (nI 10) rfl rfl rfl rfl dX5_init_20 ?_
  refine V_icmp_geN X 43 dX5_init_21 (by decide) (by decide) (by decide) (fun z => absurd z (by decide)) (fun _ => ?_)
  refine V_aload_n X dX5_init_24 rfl ?_
  refine V_get X fl_X5_11 0 0 rfl rfl rfl dX5_init_25 ?_
  refine V_iload_n X dX5_init_28 rfl ?_
  refine V_new (ci := 3) (fs := [.null, .null, .null, .int (nI 0), .int (nI 0), .int (nI 0)]) tyX3 X rfl inX3 tyX3_ok (fun j hj => by rcases (show j = 0 ∨ j = 1 ∨ j = 2 ∨ j = 3 ∨ j = 4 ∨ j = 5 by omega) with rfl | rfl | rfl | rfl | rfl | rfl <;> rfl) kw_1_136 kw_1_57 kw_1_4 dX5_init_29 (Nat.le_of_ble_eq_true rfl) (Nat.le_of_ble_eq_true rfl) (fun q29_7 => ?_)
  show V C 14 265 [gOb x 5 [.ref q7, .int (nI 0), .int (nI 0)], gRf G q7 3 10 (va_up (va_up (va_up (fun _ => none) 0 (some (u2 0))) 1 (some (u4 0))) 2 (some (u6 0))), [], gMoT G u2 M00, [], gMoT G u4 M00, [], gMoT G u6 M00, gOb q29_7 3 [.null, .null, .null, .int (nI 0), .int (nI 0), .int (nI 0)]] 32 [some (.ref x), some (.int (nI 3))] [.ref q29_7, .int (nI 3), .ref q7]
  refine V_dup X dX5_init_32 rfl ?_
  refine V_callI (i := 8) (rm := { frames := 2, cells := 3, slots := 77, locals := 43 }) X Z.2 (c_X3_init (Cl C) G q29_7) mi_X3_init (Or.inl kw_1_138) rfl kw_1_59 dX5_init_33 rfl ⟨Nat.le_of_ble_eq_true rfl, Nat.le_of_ble_eq_true rfl⟩ ⟨Nat.le_of_ble_eq_true rfl, Nat.le_of_ble_eq_true rfl⟩ (Nat.le_of_ble_eq_true rfl) (fun u8 hu8 => ?_)
  have hu8 : u8 0 = q29_7 := hu8
  subst hu8
  show V C 17 342 [gOb x 5 [.ref q7, .int (nI 0), .int (nI 0)], gRf G q7 3 10 (va_up (va_up (va_up (fun _ => none) 0 (some (u2 0))) 1 (some (u4 0))) 2 (some (u6 0))), [], gMoT G u2 M00, [], gMoT G u4 M00, [], gMoT G u6 M00, [], gMoT G u8 M00] 36 [some (.ref x), some (.int (nI 3))] [.ref (u8 0), .int (nI 3), .ref q7]
  refine V_astO (E := "MudMoot$Moment") 3 3 X 1 0 9 0 rfl rfl rfl rfl rfl rfl (Or.inl rfl) (by decide) (by decide) dX5_init_36 ?_
  show V C 17 342 [gOb x 5 [.ref q7, .int (nI 0), .int (nI 0)], gRf G q7 3 10 (va_up (va_up (va_up (va_up (fun _ => none) 0 (some (u2 0))) 1 (some (u4 0))) 2 (some (u6 0))) 3 (some (u8 0))), [], gMoT G u2 M00, [], gMoT G u4 M00, [], gMoT G u6 M00, [], gMoT G u8 M00] 37 [some (.ref x), some (.int (nI 3))] []
  refine V_iincN (c := 1) X dX5_init_37 rfl (by decide) rfl ?_
  show V C 17 342 [gOb x 5 [.ref q7, .int (nI 0), .int (nI 0)], gRf G q7 3 10 (va_up (va_up (va_up (va_up (fun _ => none) 0 (some (u2 0))) 1 (some (u4 0))) 2 (some (u6 0))) 3 (some (u8 0))), [], gMoT G u2 M00, [], gMoT G u4 M00, [], gMoT G u6 M00, [], gMoT G u8 M00] 40 [some (.ref x), some (.int (nI 4))] []
  refine V_goto X 15 dX5_init_40 (by decide) ?_
  refine V_iload_n X dX5_init_15 rfl ?_
  refine V_aload_n X dX5_init_16 rfl ?_
  refine V_get X fl_X5_11 0 0 rfl rfl rfl dX5_init_17 ?_
  refine V_alen X (t0 := 3) 1 0 (nI 10) rfl rfl rfl rfl dX5_init_20 ?_
  refine V_icmp_geN X 43 dX5_init_21 (by decide) (by decide) (by decide) (fun z => absurd z (by decide)) (fun _ => ?_)
  refine V_aload_n X dX5_init_24 rfl ?_
  refine V_get X fl_X5_11 0 0 rfl rfl rfl dX5_init_25 ?_
  refine V_iload_n X dX5_init_28 rfl ?_
  refine V_new (ci := 3) (fs := [.null, .null, .null, .int (nI 0), .int (nI 0), .int (nI 0)]) tyX3 X rfl inX3 tyX3_ok (fun j hj => by rcases (show j = 0 ∨ j = 1 ∨ j = 2 ∨ j = 3 ∨ j = 4 ∨ j = 5 by omega) with rfl | rfl | rfl | rfl | rfl | rfl <;> rfl) kw_1_136 kw_1_57 kw_1_4 dX5_init_29 (Nat.le_of_ble_eq_true rfl) (Nat.le_of_ble_eq_true rfl) (fun q29_9 => ?_)
  show V C 18 348 [gOb x 5 [.ref q7, .int (nI 0), .int (nI 0)], gRf G q7 3 10 (va_up (va_up (va_up (va_up (fun _ => none) 0 (some (u2 0))) 1 (some (u4 0))) 2 (some (u6 0))) 3 (some (u8 0))), [], gMoT G u2 M00, [], gMoT G u4 M00, [], gMoT G u6 M00, [], gMoT G u8 M00, gOb q29_9 3 [.null, .null, .null, .int (nI 0), .int (nI 0), .int (nI 0)]] 32 [some (.ref x), some (.int (nI 4))] [.ref q29_9, .int (nI 4), .ref q7]
  refine V_dup X dX5_init_32 rfl ?_
  refine V_callI (i := 10) (rm := { frames := 2, cells := 3, slots := 77, locals := 43 }) X Z.2 (c_X3_init (Cl C) G q29_9) mi_X3_init (Or.inl kw_1_138) rfl kw_1_59 dX5_init_33 rfl ⟨Nat.le_of_ble_eq_true rfl, Nat.le_of_ble_eq_true rfl⟩ ⟨Nat.le_of_ble_eq_true rfl, Nat.le_of_ble_eq_true rfl⟩ (Nat.le_of_ble_eq_true rfl) (fun u10 hu10 => ?_)
  have hu10 : u10 0 = q29_9 := hu10
  subst hu10
  show V C 21 425 [gOb x 5 [.ref q7, .int (nI 0), .int (nI 0)], gRf G q7 3 10 (va_up (va_up (va_up (va_up (fun _ => none) 0 (some (u2 0))) 1 (some (u4 0))) 2 (some (u6 0))) 3 (some (u8 0))), [], gMoT G u2 M00, [], gMoT G u4 M00, [], gMoT G u6 M00, [], gMoT G u8 M00, [], gMoT G u10 M00] 36 [some (.ref x), some (.int (nI 4))] [.ref (u10 0), .int (nI 4), .ref q7]
  refine V_astO (E := "MudMoot$Moment") 3 4 X 1 0 11 0 rfl rfl rfl rfl rfl rfl (Or.inl rfl) (by decide) (by decide) dX5_init_36 ?_
  show V C 21 425 [gOb x 5 [.ref q7, .int (nI 0), .int (nI 0)], gRf G q7 3 10 (va_up (va_up (va_up (va_up (va_up (fun _ => none) 0 (some (u2 0))) 1 (some (u4 0))) 2 (some (u6 0))) 3 (some (u8 0))) 4 (some (u10 0))), [], gMoT G u2 M00, [], gMoT G u4 M00, [], gMoT G u6 M00, [], gMoT G u8 M00, [], gMoT G u10 M00] 37 [some (.ref x), some (.int (nI 4))] []
  refine V_iincN (c := 1) X dX5_init_37 rfl (by decide) rfl ?_
  show V C 21 425 [gOb x 5 [.ref q7, .int (nI 0), .int (nI 0)], gRf G q7 3 10 (va_up (va_up (va_up (va_up (va_up (fun _ => none) 0 (some (u2 0))) 1 (some (u4 0))) 2 (some (u6 0))) 3 (some (u8 0))) 4 (some (u10 0))), [], gMoT G u2 M00, [], gMoT G u4 M00, [], gMoT G u6 M00, [], gMoT G u8 M00, [], gMoT G u10 M00] 40 [some (.ref x), some (.int (nI 5))] []
  refine V_goto X 15 dX5_init_40 (by decide) ?_
  refine V_iload_n X dX5_init_15 rfl ?_
  refine V_aload_n X dX5_init_16 rfl ?_
  refine V_get X fl_X5_11 0 0 rfl rfl rfl dX5_init_17 ?_
  refine V_alen X (t0 := 3) 1 0 (nI 10) rfl rfl rfl rfl dX5_init_20 ?_
  refine V_icmp_geN X 43 dX5_init_21 (by decide) (by decide) (by decide) (fun z => absurd z (by decide)) (fun _ => ?_)
  refine V_aload_n X dX5_init_24 rfl ?_
  refine V_get X fl_X5_11 0 0 rfl rfl rfl dX5_init_25 ?_
  refine V_iload_n X dX5_init_28 rfl ?_
  refine V_new (ci := 3) (fs := [.null, .null, .null, .int (nI 0), .int (nI 0), .int (nI 0)]) tyX3 X rfl inX3 tyX3_ok (fun j hj => by rcases (show j = 0 ∨ j = 1 ∨ j = 2 ∨ j = 3 ∨ j = 4 ∨ j = 5 by omega) with rfl | rfl | rfl | rfl | rfl | rfl <;> rfl) kw_1_136 kw_1_57 kw_1_4 dX5_init_29 (Nat.le_of_ble_eq_true rfl) (Nat.le_of_ble_eq_true rfl) (fun q29_11 => ?_)
  show V C 22 431 [gOb x 5 [.ref q7, .int (nI 0), .int (nI 0)], gRf G q7 3 10 (va_up (va_up (va_up (va_up (va_up (fun _ => none) 0 (some (u2 0))) 1 (some (u4 0))) 2 (some (u6 0))) 3 (some (u8 0))) 4 (some (u10 0))), [], gMoT G u2 M00, [], gMoT G u4 M00, [], gMoT G u6 M00, [], gMoT G u8 M00, [], gMoT G u10 M00, gOb q29_11 3 [.null, .null, .null, .int (nI 0), .int (nI 0), .int (nI 0)]] 32 [some (.ref x), some (.int (nI 5))] [.ref q29_11, .int (nI 5), .ref q7]
  refine V_dup X dX5_init_32 rfl ?_
  refine V_callI (i := 12) (rm := { frames := 2, cells := 3, slots := 77, locals := 43 }) X Z.2 (c_X3_init (Cl C) G q29_11) mi_X3_init (Or.inl kw_1_138) rfl kw_1_59 dX5_init_33 rfl ⟨Nat.le_of_ble_eq_true rfl, Nat.le_of_ble_eq_true rfl⟩ ⟨Nat.le_of_ble_eq_true rfl, Nat.le_of_ble_eq_true rfl⟩ (Nat.le_of_ble_eq_true rfl) (fun u12 hu12 => ?_)
  have hu12 : u12 0 = q29_11 := hu12
  subst hu12
  show V C 25 508 [gOb x 5 [.ref q7, .int (nI 0), .int (nI 0)], gRf G q7 3 10 (va_up (va_up (va_up (va_up (va_up (fun _ => none) 0 (some (u2 0))) 1 (some (u4 0))) 2 (some (u6 0))) 3 (some (u8 0))) 4 (some (u10 0))), [], gMoT G u2 M00, [], gMoT G u4 M00, [], gMoT G u6 M00, [], gMoT G u8 M00, [], gMoT G u10 M00, [], gMoT G u12 M00] 36 [some (.ref x), some (.int (nI 5))] [.ref (u12 0), .int (nI 5), .ref q7]
  refine V_astO (E := "MudMoot$Moment") 3 5 X 1 0 13 0 rfl rfl rfl rfl rfl rfl (Or.inl rfl) (by decide) (by decide) dX5_init_36 ?_
  show V C 25 508 [gOb x 5 [.ref q7, .int (nI 0), .int (nI 0)], gRf G q7 3 10 (va_up (va_up (va_up (va_up (va_up (va_up (fun _ => none) 0 (some (u2 0))) 1 (some (u4 0))) 2 (some (u6 0))) 3 (some (u8 0))) 4 (some (u10 0))) 5 (some (u12 0))), [], gMoT G u2 M00, [], gMoT G u4 M00, [], gMoT G u6 M00, [], gMoT G u8 M00, [], gMoT G u10 M00, [], gMoT G u12 M00] 37 [some (.ref x), some (.int (nI 5))] []
  refine V_iincN (c := 1) X dX5_init_37 rfl (by decide) rfl ?_
  show V C 25 508 [gOb x 5 [.ref q7, .int (nI 0), .int (nI 0)], gRf G q7 3 10 (va_up (va_up (va_up (va_up (va_up (va_up (fun _ => none) 0 (some (u2 0))) 1 (some (u4 0))) 2 (some (u6 0))) 3 (some (u8 0))) 4 (some (u10 0))) 5 (some (u12 0))), [], gMoT G u2 M00, [], gMoT G u4 M00, [], gMoT G u6 M00, [], gMoT G u8 M00, [], gMoT G u10 M00, [], gMoT G u12 M00] 40 [some (.ref x), some (.int (nI 6))] []
  refine V_goto X 15 dX5_init_40 (by decide) ?_
  refine V_iload_n X dX5_init_15 rfl ?_
  refine V_aload_n X dX5_init_16 rfl ?_
  refine V_get X fl_X5_11 0 0 rfl rfl rfl dX5_init_17 ?_
  refine V_alen X (t0 := 3) 1 0 (nI 10) rfl rfl rfl rfl dX5_init_20 ?_
  refine V_icmp_geN X 43 dX5_init_21 (by decide) (by decide) (by decide) (fun z => absurd z (by decide)) (fun _ => ?_)
  refine V_aload_n X dX5_init_24 rfl ?_
  refine V_get X fl_X5_11 0 0 rfl rfl rfl dX5_init_25 ?_
  refine V_iload_n X dX5_init_28 rfl ?_
  refine V_new (ci := 3) (fs := [.null, .null, .null, .int (nI 0), .int (nI 0), .int (nI 0)]) tyX3 X rfl inX3 tyX3_ok (fun j hj => by rcases (show j = 0 ∨ j = 1 ∨ j = 2 ∨ j = 3 ∨ j = 4 ∨ j = 5 by omega) with rfl | rfl | rfl | rfl | rfl | rfl <;> rfl) kw_1_136 kw_1_57 kw_1_4 dX5_init_29 (Nat.le_of_ble_eq_true rfl) (Nat.le_of_ble_eq_true rfl) (fun q29_13 => ?_)
  show V C 26 514 [gOb x 5 [.ref q7, .int (nI 0), .int (nI 0)], gRf G q7 3 10 (va_up (va_up (va_up (va_up (va_up (va_up (fun _ => none) 0 (some (u2 0))) 1 (some (u4 0))) 2 (some (u6 0))) 3 (some (u8 0))) 4 (some (u10 0))) 5 (some (u12 0))), [], gMoT G u2 M00, [], gMoT G u4 M00, [], gMoT G u6 M00, [], gMoT G u8 M00, [], gMoT G u10 M00, [], gMoT G u12 M00, gOb q29_13 3 [.null, .null, .null, .int (nI 0), .int (nI 0), .int (nI 0)]] 32 [some (.ref x), some (.int (nI 6))] [.ref q29_13, .int (nI 6), .ref q7]
  refine V_dup X dX5_init_32 rfl ?_
  refine V_callI (i := 14) (rm := { frames := 2, cells := 3, slots := 77, locals := 43 }) X Z.2 (c_X3_init (Cl C) G q29_13) mi_X3_init (Or.inl kw_1_138) rfl kw_1_59 dX5_init_33 rfl ⟨Nat.le_of_ble_eq_true rfl, Nat.le_of_ble_eq_true rfl⟩ ⟨Nat.le_of_ble_eq_true rfl, Nat.le_of_ble_eq_true rfl⟩ (Nat.le_of_ble_eq_true rfl) (fun u14 hu14 => ?_)
  have hu14 : u14 0 = q29_13 := hu14
  subst hu14
  show V C 29 591 [gOb x 5 [.ref q7, .int (nI 0), .int (nI 0)], gRf G q7 3 10 (va_up (va_up (va_up (va_up (va_up (va_up (fun _ => none) 0 (some (u2 0))) 1 (some (u4 0))) 2 (some (u6 0))) 3 (some (u8 0))) 4 (some (u10 0))) 5 (some (u12 0))), [], gMoT G u2 M00, [], gMoT G u4 M00, [], gMoT G u6 M00, [], gMoT G u8 M00, [], gMoT G u10 M00, [], gMoT G u12 M00, [], gMoT G u14 M00] 36 [some (.ref x), some (.int (nI 6))] [.ref (u14 0), .int (nI 6), .ref q7]
  refine V_astO (E := "MudMoot$Moment") 3 6 X 1 0 15 0 rfl rfl rfl rfl rfl rfl (Or.inl rfl) (by decide) (by decide) dX5_init_36 ?_
  show V C 29 591 [gOb x 5 [.ref q7, .int (nI 0), .int (nI 0)], gRf G q7 3 10 (va_up (va_up (va_up (va_up (va_up (va_up (va_up (fun _ => none) 0 (some (u2 0))) 1 (some (u4 0))) 2 (some (u6 0))) 3 (some (u8 0))) 4 (some (u10 0))) 5 (some (u12 0))) 6 (some (u14 0))), [], gMoT G u2 M00, [], gMoT G u4 M00, [], gMoT G u6 M00, [], gMoT G u8 M00, [], gMoT G u10 M00, [], gMoT G u12 M00, [], gMoT G u14 M00] 37 [some (.ref x), some (.int (nI 6))] []
  refine V_iincN (c := 1) X dX5_init_37 rfl (by decide) rfl ?_
  show V C 29 591 [gOb x 5 [.ref q7, .int (nI 0), .int (nI 0)], gRf G q7 3 10 (va_up (va_up (va_up (va_up (va_up (va_up (va_up (fun _ => none) 0 (some (u2 0))) 1 (some (u4 0))) 2 (some (u6 0))) 3 (some (u8 0))) 4 (some (u10 0))) 5 (some (u12 0))) 6 (some (u14 0))), [], gMoT G u2 M00, [], gMoT G u4 M00, [], gMoT G u6 M00, [], gMoT G u8 M00, [], gMoT G u10 M00, [], gMoT G u12 M00, [], gMoT G u14 M00] 40 [some (.ref x), some (.int (nI 7))] []
  refine V_goto X 15 dX5_init_40 (by decide) ?_
  refine V_iload_n X dX5_init_15 rfl ?_
  refine V_aload_n X dX5_init_16 rfl ?_
  refine V_get X fl_X5_11 0 0 rfl rfl rfl dX5_init_17 ?_
  refine V_alen X (t0 := 3) 1 0 (nI 10) rfl rfl rfl rfl dX5_init_20 ?_
  refine V_icmp_geN X 43 dX5_init_21 (by decide) (by decide) (by decide) (fun z => absurd z (by decide)) (fun _ => ?_)
  refine V_aload_n X dX5_init_24 rfl ?_
  refine V_get X fl_X5_11 0 0 rfl rfl rfl dX5_init_25 ?_
  refine V_iload_n X dX5_init_28 rfl ?_
  refine V_new (ci := 3) (fs := [.null, .null, .null, .int (nI 0), .int (nI 0), .int (nI 0)]) tyX3 X rfl inX3 tyX3_ok (fun j hj => by rcases (show j = 0 ∨ j = 1 ∨ j = 2 ∨ j = 3 ∨ j = 4 ∨ j = 5 by omega) with rfl | rfl | rfl | rfl | rfl | rfl <;> rfl) kw_1_136 kw_1_57 kw_1_4 dX5_init_29 (Nat.le_of_ble_eq_true rfl) (Nat.le_of_ble_eq_true rfl) (fun q29_15 => ?_)
  show V C 30 597 [gOb x 5 [.ref q7, .int (nI 0), .int (nI 0)], gRf G q7 3 10 (va_up (va_up (va_up (va_up (va_up (va_up (va_up (fun _ => none) 0 (some (u2 0))) 1 (some (u4 0))) 2 (some (u6 0))) 3 (some (u8 0))) 4 (some (u10 0))) 5 (some (u12 0))) 6 (some (u14 0))), [], gMoT G u2 M00, [], gMoT G u4 M00, [], gMoT G u6 M00, [], gMoT G u8 M00, [], gMoT G u10 M00, [], gMoT G u12 M00, [], gMoT G u14 M00, gOb q29_15 3 [.null, .null, .null, .int (nI 0), .int (nI 0), .int (nI 0)]] 32 [some (.ref x), some (.int (nI 7))] [.ref q29_15, .int (nI 7), .ref q7]
  refine V_dup X dX5_init_32 rfl ?_
  refine V_callI (i := 16) (rm := { frames := 2, cells := 3, slots := 77, locals := 43 }) X Z.2 (c_X3_init (Cl C) G q29_15) mi_X3_init (Or.inl kw_1_138) rfl kw_1_59 dX5_init_33 rfl ⟨Nat.le_of_ble_eq_true rfl, Nat.le_of_ble_eq_true rfl⟩ ⟨Nat.le_of_ble_eq_true rfl, Nat.le_of_ble_eq_true rfl⟩ (Nat.le_of_ble_eq_true rfl) (fun u16 hu16 => ?_)
  have hu16 : u16 0 = q29_15 := hu16
  subst hu16
  show V C 33 674 [gOb x 5 [.ref q7, .int (nI 0), .int (nI 0)], gRf G q7 3 10 (va_up (va_up (va_up (va_up (va_up (va_up (va_up (fun _ => none) 0 (some (u2 0))) 1 (some (u4 0))) 2 (some (u6 0))) 3 (some (u8 0))) 4 (some (u10 0))) 5 (some (u12 0))) 6 (some (u14 0))), [], gMoT G u2 M00, [], gMoT G u4 M00, [], gMoT G u6 M00, [], gMoT G u8 M00, [], gMoT G u10 M00, [], gMoT G u12 M00, [], gMoT G u14 M00, [], gMoT G u16 M00] 36 [some (.ref x), some (.int (nI 7))] [.ref (u16 0), .int (nI 7), .ref q7]
  refine V_astO (E := "MudMoot$Moment") 3 7 X 1 0 17 0 rfl rfl rfl rfl rfl rfl (Or.inl rfl) (by decide) (by decide) dX5_init_36 ?_
  show V C 33 674 [gOb x 5 [.ref q7, .int (nI 0), .int (nI 0)], gRf G q7 3 10 (va_up (va_up (va_up (va_up (va_up (va_up (va_up (va_up (fun _ => none) 0 (some (u2 0))) 1 (some (u4 0))) 2 (some (u6 0))) 3 (some (u8 0))) 4 (some (u10 0))) 5 (some (u12 0))) 6 (some (u14 0))) 7 (some (u16 0))), [], gMoT G u2 M00, [], gMoT G u4 M00, [], gMoT G u6 M00, [], gMoT G u8 M00, [], gMoT G u10 M00, [], gMoT G u12 M00, [], gMoT G u14 M00, [], gMoT G u16 M00] 37 [some (.ref x), some (.int (nI 7))] []
  refine V_iincN (c := 1) X dX5_init_37 rfl (by decide) rfl ?_
  show V C 33 674 [gOb x 5 [.ref q7, .int (nI 0), .int (nI 0)], gRf G q7 3 10 (va_up (va_up (va_up (va_up (va_up (va_up (va_up (va_up (fun _ => none) 0 (some (u2 0))) 1 (some (u4 0))) 2 (some (u6 0))) 3 (some (u8 0))) 4 (some (u10 0))) 5 (some (u12 0))) 6 (some (u14 0))) 7 (some (u16 0))), [], gMoT G u2 M00, [], gMoT G u4 M00, [], gMoT G u6 M00, [], gMoT G u8 M00, [], gMoT G u10 M00, [], gMoT G u12 M00, [], gMoT G u14 M00, [], gMoT G u16 M00] 40 [some (.ref x), some (.int (nI 8))] []
  refine V_goto X 15 dX5_init_40 (by decide) ?_
  refine V_iload_n X dX5_init_15 rfl ?_
  refine V_aload_n X dX5_init_16 rfl ?_
  refine V_get X fl_X5_11 0 0 rfl rfl rfl dX5_init_17 ?_
  refine V_alen X (t0 := 3) 1 0 (nI 10) rfl rfl rfl rfl dX5_init_20 ?_
  refine V_icmp_geN X 43 dX5_init_21 (by decide) (by decide) (by decide) (fun z => absurd z (by decide)) (fun _ => ?_)
  refine V_aload_n X dX5_init_24 rfl ?_
  refine V_get X fl_X5_11 0 0 rfl rfl rfl dX5_init_25 ?_
  refine V_iload_n X dX5_init_28 rfl ?_
  refine V_new (ci := 3) (fs := [.null, .null, .null, .int (nI 0), .int (nI 0), .int (nI 0)]) tyX3 X rfl inX3 tyX3_ok (fun j hj => by rcases (show j = 0 ∨ j = 1 ∨ j = 2 ∨ j = 3 ∨ j = 4 ∨ j = 5 by omega) with rfl | rfl | rfl | rfl | rfl | rfl <;> rfl) kw_1_136 kw_1_57 kw_1_4 dX5_init_29 (Nat.le_of_ble_eq_true rfl) (Nat.le_of_ble_eq_true rfl) (fun q29_17 => ?_)
  show V C 34 680 [gOb x 5 [.ref q7, .int (nI 0), .int (nI 0)], gRf G q7 3 10 (va_up (va_up (va_up (va_up (va_up (va_up (va_up (va_up (fun _ => none) 0 (some (u2 0))) 1 (some (u4 0))) 2 (some (u6 0))) 3 (some (u8 0))) 4 (some (u10 0))) 5 (some (u12 0))) 6 (some (u14 0))) 7 (some (u16 0))), [], gMoT G u2 M00, [], gMoT G u4 M00, [], gMoT G u6 M00, [], gMoT G u8 M00, [], gMoT G u10 M00, [], gMoT G u12 M00, [], gMoT G u14 M00, [], gMoT G u16 M00, gOb q29_17 3 [.null, .null, .null, .int (nI 0), .int (nI 0), .int (nI 0)]] 32 [some (.ref x), some (.int (nI 8))] [.ref q29_17, .int (nI 8), .ref q7]
  refine V_dup X dX5_init_32 rfl ?_
  refine V_callI (i := 18) (rm := { frames := 2, cells := 3, slots := 77, locals := 43 }) X Z.2 (c_X3_init (Cl C) G q29_17) mi_X3_init (Or.inl kw_1_138) rfl kw_1_59 dX5_init_33 rfl ⟨Nat.le_of_ble_eq_true rfl, Nat.le_of_ble_eq_true rfl⟩ ⟨Nat.le_of_ble_eq_true rfl, Nat.le_of_ble_eq_true rfl⟩ (Nat.le_of_ble_eq_true rfl) (fun u18 hu18 => ?_)
  have hu18 : u18 0 = q29_17 := hu18
  subst hu18
  show V C 37 757 [gOb x 5 [.ref q7, .int (nI 0), .int (nI 0)], gRf G q7 3 10 (va_up (va_up (va_up (va_up (va_up (va_up (va_up (va_up (fun _ => none) 0 (some (u2 0))) 1 (some (u4 0))) 2 (some (u6 0))) 3 (some (u8 0))) 4 (some (u10 0))) 5 (some (u12 0))) 6 (some (u14 0))) 7 (some (u16 0))), [], gMoT G u2 M00, [], gMoT G u4 M00, [], gMoT G u6 M00, [], gMoT G u8 M00, [], gMoT G u10 M00, [], gMoT G u12 M00, [], gMoT G u14 M00, [], gMoT G u16 M00, [], gMoT G u18 M00] 36 [some (.ref x), some (.int (nI 8))] [.ref (u18 0), .int (nI 8), .ref q7]
  refine V_astO (E := "MudMoot$Moment") 3 8 X 1 0 19 0 rfl rfl rfl rfl rfl rfl (Or.inl rfl) (by decide) (by decide) dX5_init_36 ?_
  show V C 37 757 [gOb x 5 [.ref q7, .int (nI 0), .int (nI 0)], gRf G q7 3 10 (va_up (va_up (va_up (va_up (va_up (va_up (va_up (va_up (va_up (fun _ => none) 0 (some (u2 0))) 1 (some (u4 0))) 2 (some (u6 0))) 3 (some (u8 0))) 4 (some (u10 0))) 5 (some (u12 0))) 6 (some (u14 0))) 7 (some (u16 0))) 8 (some (u18 0))), [], gMoT G u2 M00, [], gMoT G u4 M00, [], gMoT G u6 M00, [], gMoT G u8 M00, [], gMoT G u10 M00, [], gMoT G u12 M00, [], gMoT G u14 M00, [], gMoT G u16 M00, [], gMoT G u18 M00] 37 [some (.ref x), some (.int (nI 8))] []
  refine V_iincN (c := 1) X dX5_init_37 rfl (by decide) rfl ?_
  show V C 37 757 [gOb x 5 [.ref q7, .int (nI 0), .int (nI 0)], gRf G q7 3 10 (va_up (va_up (va_up (va_up (va_up (va_up (va_up (va_up (va_up (fun _ => none) 0 (some (u2 0))) 1 (some (u4 0))) 2 (some (u6 0))) 3 (some (u8 0))) 4 (some (u10 0))) 5 (some (u12 0))) 6 (some (u14 0))) 7 (some (u16 0))) 8 (some (u18 0))), [], gMoT G u2 M00, [], gMoT G u4 M00, [], gMoT G u6 M00, [], gMoT G u8 M00, [], gMoT G u10 M00, [], gMoT G u12 M00, [], gMoT G u14 M00, [], gMoT G u16 M00, [], gMoT G u18 M00] 40 [some (.ref x), some (.int (nI 9))] []
  refine V_goto X 15 dX5_init_40 (by decide) ?_
  refine V_iload_n X dX5_init_15 rfl ?_
  refine V_aload_n X dX5_init_16 rfl ?_
  refine V_get X fl_X5_11 0 0 rfl rfl rfl dX5_init_17 ?_
  refine V_alen X (t0 := 3) 1 0 (nI 10) rfl rfl rfl rfl dX5_init_20 ?_
  refine V_icmp_geN X 43 dX5_init_21 (by decide) (by decide) (by decide) (fun z => absurd z (by decide)) (fun _ => ?_)
  refine V_aload_n X dX5_init_24 rfl ?_
  refine V_get X fl_X5_11 0 0 rfl rfl rfl dX5_init_25 ?_
  refine V_iload_n X dX5_init_28 rfl ?_
  refine V_new (ci := 3) (fs := [.null, .null, .null, .int (nI 0), .int (nI 0), .int (nI 0)]) tyX3 X rfl inX3 tyX3_ok (fun j hj => by rcases (show j = 0 ∨ j = 1 ∨ j = 2 ∨ j = 3 ∨ j = 4 ∨ j = 5 by omega) with rfl | rfl | rfl | rfl | rfl | rfl <;> rfl) kw_1_136 kw_1_57 kw_1_4 dX5_init_29 (Nat.le_of_ble_eq_true rfl) (Nat.le_of_ble_eq_true rfl) (fun q29_19 => ?_)
  show V C 38 763 [gOb x 5 [.ref q7, .int (nI 0), .int (nI 0)], gRf G q7 3 10 (va_up (va_up (va_up (va_up (va_up (va_up (va_up (va_up (va_up (fun _ => none) 0 (some (u2 0))) 1 (some (u4 0))) 2 (some (u6 0))) 3 (some (u8 0))) 4 (some (u10 0))) 5 (some (u12 0))) 6 (some (u14 0))) 7 (some (u16 0))) 8 (some (u18 0))), [], gMoT G u2 M00, [], gMoT G u4 M00, [], gMoT G u6 M00, [], gMoT G u8 M00, [], gMoT G u10 M00, [], gMoT G u12 M00, [], gMoT G u14 M00, [], gMoT G u16 M00, [], gMoT G u18 M00, gOb q29_19 3 [.null, .null, .null, .int (nI 0), .int (nI 0), .int (nI 0)]] 32 [some (.ref x), some (.int (nI 9))] [.ref q29_19, .int (nI 9), .ref q7]
  refine V_dup X dX5_init_32 rfl ?_
  refine V_callI (i := 20) (rm := { frames := 2, cells := 3, slots := 77, locals := 43 }) X Z.2 (c_X3_init (Cl C) G q29_19) mi_X3_init (Or.inl kw_1_138) rfl kw_1_59 dX5_init_33 rfl ⟨Nat.le_of_ble_eq_true rfl, Nat.le_of_ble_eq_true rfl⟩ ⟨Nat.le_of_ble_eq_true rfl, Nat.le_of_ble_eq_true rfl⟩ (Nat.le_of_ble_eq_true rfl) (fun u20 hu20 => ?_)
  have hu20 : u20 0 = q29_19 := hu20
  subst hu20
  show V C 41 840 [gOb x 5 [.ref q7, .int (nI 0), .int (nI 0)], gRf G q7 3 10 (va_up (va_up (va_up (va_up (va_up (va_up (va_up (va_up (va_up (fun _ => none) 0 (some (u2 0))) 1 (some (u4 0))) 2 (some (u6 0))) 3 (some (u8 0))) 4 (some (u10 0))) 5 (some (u12 0))) 6 (some (u14 0))) 7 (some (u16 0))) 8 (some (u18 0))), [], gMoT G u2 M00, [], gMoT G u4 M00, [], gMoT G u6 M00, [], gMoT G u8 M00, [], gMoT G u10 M00, [], gMoT G u12 M00, [], gMoT G u14 M00, [], gMoT G u16 M00, [], gMoT G u18 M00, [], gMoT G u20 M00] 36 [some (.ref x), some (.int (nI 9))] [.ref (u20 0), .int (nI 9), .ref q7]
  refine V_astO (E := "MudMoot$Moment") 3 9 X 1 0 21 0 rfl rfl rfl rfl rfl rfl (Or.inl rfl) (by decide) (by decide) dX5_init_36 ?_
  show V C 41 840 [gOb x 5 [.ref q7, .int (nI 0), .int (nI 0)], gRf G q7 3 10 (va_up (va_up (va_up (va_up (va_up (va_up (va_up (va_up (va_up (va_up (fun _ => none) 0 (some (u2 0))) 1 (some (u4 0))) 2 (some (u6 0))) 3 (some (u8 0))) 4 (some (u10 0))) 5 (some (u12 0))) 6 (some (u14 0))) 7 (some (u16 0))) 8 (some (u18 0))) 9 (some (u20 0))), [], gMoT G u2 M00, [], gMoT G u4 M00, [], gMoT G u6 M00, [], gMoT G u8 M00, [], gMoT G u10 M00, [], gMoT G u12 M00, [], gMoT G u14 M00, [], gMoT G u16 M00, [], gMoT G u18 M00, [], gMoT G u20 M00] 37 [some (.ref x), some (.int (nI 9))] []
  refine V_iincN (c := 1) X dX5_init_37 rfl (by decide) rfl ?_
  show V C 41 840 [gOb x 5 [.ref q7, .int (nI 0), .int (nI 0)], gRf G q7 3 10 (va_up (va_up (va_up (va_up (va_up (va_up (va_up (va_up (va_up (va_up (fun _ => none) 0 (some (u2 0))) 1 (some (u4 0))) 2 (some (u6 0))) 3 (some (u8 0))) 4 (some (u10 0))) 5 (some (u12 0))) 6 (some (u14 0))) 7 (some (u16 0))) 8 (some (u18 0))) 9 (some (u20 0))), [], gMoT G u2 M00, [], gMoT G u4 M00, [], gMoT G u6 M00, [], gMoT G u8 M00, [], gMoT G u10 M00, [], gMoT G u12 M00, [], gMoT G u14 M00, [], gMoT G u16 M00, [], gMoT G u18 M00, [], gMoT G u20 M00] 40 [some (.ref x), some (.int (nI 10))] []
  refine V_goto X 15 dX5_init_40 (by decide) ?_
  refine V_iload_n X dX5_init_15 rfl ?_
  refine V_aload_n X dX5_init_16 rfl ?_
  refine V_get X fl_X5_11 0 0 rfl rfl rfl dX5_init_17 ?_
  refine V_alen X (t0 := 3) 1 0 (nI 10) rfl rfl rfl rfl dX5_init_20 ?_
  refine V_icmp_geN X 43 dX5_init_21 (by decide) (by decide) (by decide) (fun _ => ?_) (fun z => absurd z (by decide))
  refine V_arrq (fun j => some ((fun j => [u2, u4, u6, u8, u10, u12, u14, u16, u18, u20].getD j (fun _ => 0)) j 0)) 1 0 rfl rfl (fun j hj => by rcases (show j = 0 ∨ j = 1 ∨ j = 2 ∨ j = 3 ∨ j = 4 ∨ j = 5 ∨ j = 6 ∨ j = 7 ∨ j = 8 ∨ j = 9 by omega) with rfl | rfl | rfl | rfl | rfl | rfl | rfl | rfl | rfl | rfl <;> rfl) ?_
  show V C 41 840 [gOb x 5 [.ref q7, .int (nI 0), .int (nI 0)], gRf G q7 3 10 (fun j => some ((fun j => [u2, u4, u6, u8, u10, u12, u14, u16, u18, u20].getD j (fun _ => 0)) j 0)), [], gMoT G u2 M00, [], gMoT G u4 M00, [], gMoT G u6 M00, [], gMoT G u8 M00, [], gMoT G u10 M00, [], gMoT G u12 M00, [], gMoT G u14 M00, [], gMoT G u16 M00, [], gMoT G u18 M00, [], gMoT G u20 M00] 43 [some (.ref x), some (.int (nI 10))] []
  refine V_sel (gs' := [gOb x 5 [.ref q7, .int (nI 0), .int (nI 0)], gRf G q7 3 10 (fun j => some ((fun j => [u2, u4, u6, u8, u10, u12, u14, u16, u18, u20].getD j (fun _ => 0)) j 0)), gMoT G u2 M00, gMoT G u4 M00, gMoT G u6 M00, gMoT G u8 M00, gMoT G u10 M00, gMoT G u12 M00, gMoT G u14 M00, gMoT G u16 M00, gMoT G u18 M00, gMoT G u20 M00]) [0, 1, 3, 5, 7, 9, 11, 13, 15, 17, 19, 21] rfl (by decide) ?_
  exact V_aret X Y ⟨(fun j => [x, q7].getD j 0), (fun j => [u2, u4, u6, u8, u10, u12, u14, u16, u18, u20].getD j (fun _ => 0))⟩ rfl (Nat.le_of_ble_eq_true rfl) (Nat.le_of_ble_eq_true rfl) rfl dX5_init_43
set_option maxHeartbeats 800000 in
set_option maxRecDepth 100000 in
theorem c_X6_init (l : Launch) (G : mvG) (x : Nat) : KA l yX6_init cX6_init 1 { frames := 3, cells := 9, slots := 201, locals := 63 } G [.ref x] [gOb x 6 [.null, .int (nI 0), .null, .null, .int (nI 0), .int (nI 0), .int (nI 0), .int (nI 0), .int (nI 0), .null]] (fun (u : (Nat → Nat) × (Nat → Nat) × (Nat → Nat)) => u.1 0 = x) (fun (u : (Nat → Nat) × (Nat → Nat) × (Nat → Nat)) => [gRead G u.1 (u.2.1 0) (u.2.2 0) (nF (fun _ => 0)) (nF (fun _ => 0)) (nI 0) (nI 0) (nI 0) (nI 0) (nI 0) (nI 0), gRoll G u.2.1 (nF (fun _ => 0)) (nF (fun _ => 0)) (nI 0) (nI 1), gMoT G u.2.2 M00]) := by
  refine KA.mk (by decide +kernel) rfl [some (.ref x)] (Nat.le_of_ble_eq_true rfl) rfl (fun C X Y Z hC => ?_)
  subst hC
  refine V_aload_n X dX6_init_0 rfl ?_
  refine V_objInit X kw_1_30 kw_1_23 kw_1_24 dX6_init_1 (Nat.le_of_ble_eq_true rfl) (Nat.le_of_ble_eq_true rfl) ?_
  show V C 0 0 [gOb x 6 [.null, .int (nI 0), .null, .null, .int (nI 0), .int (nI 0), .int (nI 0), .int (nI 0), .int (nI 0), .null]] 4 [some (.ref x)] []
  refine V_aload_n X dX6_init_4 rfl ?_
  refine V_bipush X (nI 100) dX6_init_5 (by decide) ?_
  refine V_newa (aty := .char) (ty := .char) (f := nF (fun _ => 0)) 2 X rfl rfl (fun _ _ h => h) kw_1_54 rfl (by decide) (Nat.le_of_ble_eq_true rfl) (fun _ => rfl) dX6_init_7 (Nat.le_of_ble_eq_true rfl) (Nat.le_of_ble_eq_true rfl) (fun q7 => ?_)
  show V C 1 100 [gOb x 6 [.null, .int (nI 0), .null, .null, .int (nI 0), .int (nI 0), .int (nI 0), .int (nI 0), .int (nI 0), .null], gAr G q7 2 100 (nF (fun _ => 0))] 9 [some (.ref x)] [.ref q7, .ref x]
  refine V_putF X Z fl_X6_9 rfl kw_1_92 0 0 rfl rfl rfl rfl (Nat.le_of_ble_eq_true rfl) dX6_init_9 ?_
  show V C 1 100 [gOb x 6 [.ref q7, .int (nI 0), .null, .null, .int (nI 0), .int (nI 0), .int (nI 0), .int (nI 0), .int (nI 0), .null], gAr G q7 2 100 (nF (fun _ => 0))] 12 [some (.ref x)] []
  refine V_aload_n X dX6_init_12 rfl ?_
  refine V_new (ci := 7) (fs := [.null, .null, .int (nI 0), .int (nI 0)]) tyX7 X rfl inX7 tyX7_ok (fun j hj => by rcases (show j = 0 ∨ j = 1 ∨ j = 2 ∨ j = 3 by omega) with rfl | rfl | rfl | rfl <;> rfl) kw_1_31 kw_1_32 kw_1_3 dX6_init_13 (Nat.le_of_ble_eq_true rfl) (Nat.le_of_ble_eq_true rfl) (fun q13_1 => ?_)
  show V C 2 104 [gOb x 6 [.ref q7, .int (nI 0), .null, .null, .int (nI 0), .int (nI 0), .int (nI 0), .int (nI 0), .int (nI 0), .null], gAr G q7 2 100 (nF (fun _ => 0)), gOb q13_1 7 [.null, .null, .int (nI 0), .int (nI 0)]] 16 [some (.ref x)] [.ref q13_1, .ref x]
  refine V_dup X dX6_init_16 rfl ?_
  refine V_callI (i := 2) (rm := { frames := 1, cells := 2, slots := 10, locals := 12 }) X Z.2 (c_X7_init (Cl C) G q13_1) mi_X7_init (Or.inr ⟨_, kw_1_33⟩) rfl kw_1_34 dX6_init_17 rfl ⟨Nat.le_of_ble_eq_true rfl, Nat.le_of_ble_eq_true rfl⟩ ⟨Nat.le_of_ble_eq_true rfl, Nat.le_of_ble_eq_true rfl⟩ (Nat.le_of_ble_eq_true rfl) (fun u2 hu2 => ?_)
  have hu2 : u2 0 = q13_1 := hu2
  subst hu2
  show V C 4 114 [gOb x 6 [.ref q7, .int (nI 0), .null, .null, .int (nI 0), .int (nI 0), .int (nI 0), .int (nI 0), .int (nI 0), .null], gAr G q7 2 100 (nF (fun _ => 0)), [], gRoll G u2 (nF (fun _ => 0)) (nF (fun _ => 0)) (nI 0) (nI 1)] 20 [some (.ref x)] [.ref (u2 0), .ref x]
  refine V_putF X Z fl_X6_18 rfl kw_1_95 0 0 rfl rfl rfl rfl (Nat.le_of_ble_eq_true rfl) dX6_init_20 ?_
  show V C 4 114 [gOb x 6 [.ref q7, .int (nI 0), .ref (u2 0), .null, .int (nI 0), .int (nI 0), .int (nI 0), .int (nI 0), .int (nI 0), .null], gAr G q7 2 100 (nF (fun _ => 0)), [], gRoll G u2 (nF (fun _ => 0)) (nF (fun _ => 0)) (nI 0) (nI 1)] 23 [some (.ref x)] []
  refine V_aload_n X dX6_init_23 rfl ?_
  refine V_new (ci := 3) (fs := [.null, .null, .null, .int (nI 0), .int (nI 0), .int (nI 0)]) tyX3 X rfl inX3 tyX3_ok (fun j hj => by rcases (show j = 0 ∨ j = 1 ∨ j = 2 ∨ j = 3 ∨ j = 4 ∨ j = 5 by omega) with rfl | rfl | rfl | rfl | rfl | rfl <;> rfl) kw_1_56 kw_1_57 kw_1_4 dX6_init_24 (Nat.le_of_ble_eq_true rfl) (Nat.le_of_ble_eq_true rfl) (fun q24_3 => ?_)
  show V C 5 120 [gOb x 6 [.ref q7, .int (nI 0), .ref (u2 0), .null, .int (nI 0), .int (nI 0), .int (nI 0), .int (nI 0), .int (nI 0), .null], gAr G q7 2 100 (nF (fun _ => 0)), [], gRoll G u2 (nF (fun _ => 0)) (nF (fun _ => 0)) (nI 0) (nI 1), gOb q24_3 3 [.null, .null, .null, .int (nI 0), .int (nI 0), .int (nI 0)]] 27 [some (.ref x)] [.ref q24_3, .ref x]
  refine V_dup X dX6_init_27 rfl ?_
  refine V_callI (i := 4) (rm := { frames := 2, cells := 3, slots := 77, locals := 43 }) X Z.2 (c_X3_init (Cl C) G q24_3) mi_X3_init (Or.inl kw_1_58) rfl kw_1_59 dX6_init_28 rfl ⟨Nat.le_of_ble_eq_true rfl, Nat.le_of_ble_eq_true rfl⟩ ⟨Nat.le_of_ble_eq_true rfl, Nat.le_of_ble_eq_true rfl⟩ (Nat.le_of_ble_eq_true rfl) (fun u4 hu4 => ?_)
  have hu4 : u4 0 = q24_3 := hu4
  subst hu4
  show V C 8 197 [gOb x 6 [.ref q7, .int (nI 0), .ref (u2 0), .null, .int (nI 0), .int (nI 0), .int (nI 0), .int (nI 0), .int (nI 0), .null], gAr G q7 2 100 (nF (fun _ => 0)), [], gRoll G u2 (nF (fun _ => 0)) (nF (fun _ => 0)) (nI 0) (nI 1), [], gMoT G u4 M00] 31 [some (.ref x)] [.ref (u4 0), .ref x]
  refine V_putF X Z fl_X6_25 rfl kw_1_97 0 0 rfl rfl rfl rfl (Nat.le_of_ble_eq_true rfl) dX6_init_31 ?_
  show V C 8 197 [gOb x 6 [.ref q7, .int (nI 0), .ref (u2 0), .ref (u4 0), .int (nI 0), .int (nI 0), .int (nI 0), .int (nI 0), .int (nI 0), .null], gAr G q7 2 100 (nF (fun _ => 0)), [], gRoll G u2 (nF (fun _ => 0)) (nF (fun _ => 0)) (nI 0) (nI 1), [], gMoT G u4 M00] 34 [some (.ref x)] []
  refine V_aload_n X dX6_init_34 rfl ?_
  refine V_iconst X (nI 4) dX6_init_35 (by decide) ?_
  refine V_newa (aty := .int) (ty := .int) (f := nF (fun _ => 0)) 0 X rfl rfl (fun _ _ h => h) kw_1_55 rfl (by decide) (Nat.le_of_ble_eq_true rfl) (fun _ => rfl) dX6_init_36 (Nat.le_of_ble_eq_true rfl) (Nat.le_of_ble_eq_true rfl) (fun q36 => ?_)
  show V C 9 201 [gOb x 6 [.ref q7, .int (nI 0), .ref (u2 0), .ref (u4 0), .int (nI 0), .int (nI 0), .int (nI 0), .int (nI 0), .int (nI 0), .null], gAr G q7 2 100 (nF (fun _ => 0)), [], gRoll G u2 (nF (fun _ => 0)) (nF (fun _ => 0)) (nI 0) (nI 1), [], gMoT G u4 M00, gAr G q36 0 4 (nF (fun _ => 0))] 38 [some (.ref x)] [.ref q36, .ref x]
  refine V_putF X Z fl_X6_29 rfl kw_1_104 0 0 rfl rfl rfl rfl (Nat.le_of_ble_eq_true rfl) dX6_init_38 ?_
  show V C 9 201 [gOb x 6 [.ref q7, .int (nI 0), .ref (u2 0), .ref (u4 0), .int (nI 0), .int (nI 0), .int (nI 0), .int (nI 0), .int (nI 0), .ref q36], gAr G q7 2 100 (nF (fun _ => 0)), [], gRoll G u2 (nF (fun _ => 0)) (nF (fun _ => 0)) (nI 0) (nI 1), [], gMoT G u4 M00, gAr G q36 0 4 (nF (fun _ => 0))] 41 [some (.ref x)] []
  refine V_sel (gs' := [gOb x 6 [.ref q7, .int (nI 0), .ref (u2 0), .ref (u4 0), .int (nI 0), .int (nI 0), .int (nI 0), .int (nI 0), .int (nI 0), .ref q36], gAr G q7 2 100 (nF (fun _ => 0)), gAr G q36 0 4 (nF (fun _ => 0)), gRoll G u2 (nF (fun _ => 0)) (nF (fun _ => 0)) (nI 0) (nI 1), gMoT G u4 M00]) [0, 1, 6, 3, 5] rfl (by decide) ?_
  exact V_aret X Y ⟨(fun j => [x, q7, q36].getD j 0), u2, u4⟩ rfl (Nat.le_of_ble_eq_true rfl) (Nat.le_of_ble_eq_true rfl) rfl dX6_init_41
theorem psm_empty {b q : Nat} {D B : Nat → Nat} {P : PS} (h : (b = 1 ∧ prs0 (fun _ => 0) 0 (fun _ => 0) (fun _ => 0) = .inr (D 2, P) ∧ PSM D B P ∧ P.2.2.1 ≤ 5 ∧ P.2.2.2.2.1 ≤ 1 ∧ D 2 ≤ 100) ∨ (b = 0 ∧ prs0 (fun _ => 0) 0 (fun _ => 0) (fun _ => 0) = .inl q)) : PSM D B (fun _ => 0, fun _ => 0, 0, 1, 0, fun _ => 0, fun _ => 0) := by
  have e : prs0 (fun _ => 0) 0 (fun _ => 0) (fun _ => 0) = .inr (0, (fun _ => 0, fun _ => 0, 0, 1, 0, fun _ => 0, fun _ => 0)) := rfl
  rcases h with ⟨-, h, h2, -⟩ | ⟨-, h⟩
  · rw [e] at h
    have h3 := Sum.inr.inj h
    rw [Prod.mk.injEq] at h3
    rw [h3.2]
    exact h2
  · rw [e] at h
    cases h
set_option maxHeartbeats 800000 in
set_option maxRecDepth 100000 in
theorem c_X12_init (l : Launch) (G : mvG) (x : Nat) : KA l yX12_init cX12_init 1 { frames := 6, cells := 10, slots := 788, locals := 129 } G [.ref x] [gOb x 12 [.long (lN 0), .null, .int (nI 0), .null, .null, .null, .null, .null, .int (nI 0), .null, .null, .null, .int (nI 0), .int (nI 0), .int (nI 0), .int (nI 0), .int (nI 0), .null]] (fun (u : (Nat → Nat) × (Nat → Nat) × (Nat → Nat) × Nat × Nat × Nat × Int × (Nat → Nat)) => u.1 0 = x ∧ PSM u.2.1 u.2.2.1 (fun _ => 0, fun _ => 0, 0, 1, 0, fun _ => 0, fun _ => 0) ∧ u.2.2.2.2.2.2.2 0 = 0 ∧ u.2.2.2.2.2.2.2 1 = 0) (fun (u : (Nat → Nat) × (Nat → Nat) × (Nat → Nat) × Nat × Nat × Nat × Int × (Nat → Nat)) => [gMod G u.1 (nF (fun _ => 0)) (nF u.2.1) (nF u.2.1) (nF u.2.2.1) (nF u.2.2.1) (nF (fun _ => 0)) (nF (fun _ => 0)) (nF u.2.2.2.2.2.2.2) (nF (fun _ => 0)) (nF (fun _ => 0)) (lN 0) (nI 0) (nI 0) (nI 0) (nI u.2.2.2.1) (nI u.2.2.2.2.2.1) (nI u.2.2.2.2.1) (iI u.2.2.2.2.2.2.1)]) := by
  refine KA.mk (by decide +kernel) rfl [some (.ref x)] (Nat.le_of_ble_eq_true rfl) rfl (fun C X Y Z hC => ?_)
  subst hC
  refine V_aload_n X dX12_init_0 rfl ?_
  refine V_objInit X kw_3_216 kw_1_23 kw_1_24 dX12_init_1 (Nat.le_of_ble_eq_true rfl) (Nat.le_of_ble_eq_true rfl) ?_
  show V C 0 0 [gOb x 12 [.long (lN 0), .null, .int (nI 0), .null, .null, .null, .null, .null, .int (nI 0), .null, .null, .null, .int (nI 0), .int (nI 0), .int (nI 0), .int (nI 0), .int (nI 0), .null]] 4 [some (.ref x)] []
  refine V_aload_n X dX12_init_4 rfl ?_
  refine V_bipush X (nI 100) dX12_init_5 (by decide) ?_
  refine V_newa (aty := .int) (ty := .int) (f := nF (fun _ => 0)) 0 X rfl rfl (fun _ _ h => h) kw_1_55 rfl (by decide) (Nat.le_of_ble_eq_true rfl) (fun _ => rfl) dX12_init_7 (Nat.le_of_ble_eq_true rfl) (Nat.le_of_ble_eq_true rfl) (fun q7 => ?_)
  show V C 1 100 [gOb x 12 [.long (lN 0), .null, .int (nI 0), .null, .null, .null, .null, .null, .int (nI 0), .null, .null, .null, .int (nI 0), .int (nI 0), .int (nI 0), .int (nI 0), .int (nI 0), .null], gAr G q7 0 100 (nF (fun _ => 0))] 9 [some (.ref x)] [.ref q7, .ref x]
  refine V_putF X Z fl_X12_7 rfl kw_4_11 0 0 rfl rfl rfl rfl (Nat.le_of_ble_eq_true rfl) dX12_init_9 ?_
  show V C 1 100 [gOb x 12 [.long (lN 0), .ref q7, .int (nI 0), .null, .null, .null, .null, .null, .int (nI 0), .null, .null, .null, .int (nI 0), .int (nI 0), .int (nI 0), .int (nI 0), .int (nI 0), .null], gAr G q7 0 100 (nF (fun _ => 0))] 12 [some (.ref x)] []
  refine V_aload_n X dX12_init_12 rfl ?_
  refine V_bipush X (nI 14) dX12_init_13 (by decide) ?_
  refine V_newa (aty := .int) (ty := .int) (f := nF (fun _ => 0)) 0 X rfl rfl (fun _ _ h => h) kw_1_55 rfl (by decide) (Nat.le_of_ble_eq_true rfl) (fun _ => rfl) dX12_init_15 (Nat.le_of_ble_eq_true rfl) (Nat.le_of_ble_eq_true rfl) (fun q15 => ?_)
  show V C 2 114 [gOb x 12 [.long (lN 0), .ref q7, .int (nI 0), .null, .null, .null, .null, .null, .int (nI 0), .null, .null, .null, .int (nI 0), .int (nI 0), .int (nI 0), .int (nI 0), .int (nI 0), .null], gAr G q7 0 100 (nF (fun _ => 0)), gAr G q15 0 14 (nF (fun _ => 0))] 17 [some (.ref x)] [.ref q15, .ref x]
  refine V_putF X Z fl_X12_13 rfl kw_4_13 0 0 rfl rfl rfl rfl (Nat.le_of_ble_eq_true rfl) dX12_init_17 ?_
  show V C 2 114 [gOb x 12 [.long (lN 0), .ref q7, .int (nI 0), .ref q15, .null, .null, .null, .null, .int (nI 0), .null, .null, .null, .int (nI 0), .int (nI 0), .int (nI 0), .int (nI 0), .int (nI 0), .null], gAr G q7 0 100 (nF (fun _ => 0)), gAr G q15 0 14 (nF (fun _ => 0))] 20 [some (.ref x)] []
  refine V_aload_n X dX12_init_20 rfl ?_
  refine V_bipush X (nI 14) dX12_init_21 (by decide) ?_
  refine V_newa (aty := .int) (ty := .int) (f := nF (fun _ => 0)) 0 X rfl rfl (fun _ _ h => h) kw_1_55 rfl (by decide) (Nat.le_of_ble_eq_true rfl) (fun _ => rfl) dX12_init_23 (Nat.le_of_ble_eq_true rfl) (Nat.le_of_ble_eq_true rfl) (fun q23 => ?_)
  show V C 3 128 [gOb x 12 [.long (lN 0), .ref q7, .int (nI 0), .ref q15, .null, .null, .null, .null, .int (nI 0), .null, .null, .null, .int (nI 0), .int (nI 0), .int (nI 0), .int (nI 0), .int (nI 0), .null], gAr G q7 0 100 (nF (fun _ => 0)), gAr G q15 0 14 (nF (fun _ => 0)), gAr G q23 0 14 (nF (fun _ => 0))] 25 [some (.ref x)] [.ref q23, .ref x]
  refine V_putF X Z fl_X12_16 rfl kw_4_14 0 0 rfl rfl rfl rfl (Nat.le_of_ble_eq_true rfl) dX12_init_25 ?_
  show V C 3 128 [gOb x 12 [.long (lN 0), .ref q7, .int (nI 0), .ref q15, .ref q23, .null, .null, .null, .int (nI 0), .null, .null, .null, .int (nI 0), .int (nI 0), .int (nI 0), .int (nI 0), .int (nI 0), .null], gAr G q7 0 100 (nF (fun _ => 0)), gAr G q15 0 14 (nF (fun _ => 0)), gAr G q23 0 14 (nF (fun _ => 0))] 28 [some (.ref x)] []
  refine V_aload_n X dX12_init_28 rfl ?_
  refine V_bipush X (nI 44) dX12_init_29 (by decide) ?_
  refine V_newa (aty := .int) (ty := .int) (f := nF (fun _ => 0)) 0 X rfl rfl (fun _ _ h => h) kw_1_55 rfl (by decide) (Nat.le_of_ble_eq_true rfl) (fun _ => rfl) dX12_init_31 (Nat.le_of_ble_eq_true rfl) (Nat.le_of_ble_eq_true rfl) (fun q31 => ?_)
  show V C 4 172 [gOb x 12 [.long (lN 0), .ref q7, .int (nI 0), .ref q15, .ref q23, .null, .null, .null, .int (nI 0), .null, .null, .null, .int (nI 0), .int (nI 0), .int (nI 0), .int (nI 0), .int (nI 0), .null], gAr G q7 0 100 (nF (fun _ => 0)), gAr G q15 0 14 (nF (fun _ => 0)), gAr G q23 0 14 (nF (fun _ => 0)), gAr G q31 0 44 (nF (fun _ => 0))] 33 [some (.ref x)] [.ref q31, .ref x]
  refine V_putF X Z fl_X12_19 rfl kw_4_15 0 0 rfl rfl rfl rfl (Nat.le_of_ble_eq_true rfl) dX12_init_33 ?_
  show V C 4 172 [gOb x 12 [.long (lN 0), .ref q7, .int (nI 0), .ref q15, .ref q23, .ref q31, .null, .null, .int (nI 0), .null, .null, .null, .int (nI 0), .int (nI 0), .int (nI 0), .int (nI 0), .int (nI 0), .null], gAr G q7 0 100 (nF (fun _ => 0)), gAr G q15 0 14 (nF (fun _ => 0)), gAr G q23 0 14 (nF (fun _ => 0)), gAr G q31 0 44 (nF (fun _ => 0))] 36 [some (.ref x)] []
  refine V_aload_n X dX12_init_36 rfl ?_
  refine V_bipush X (nI 44) dX12_init_37 (by decide) ?_
  refine V_newa (aty := .int) (ty := .int) (f := nF (fun _ => 0)) 0 X rfl rfl (fun _ _ h => h) kw_1_55 rfl (by decide) (Nat.le_of_ble_eq_true rfl) (fun _ => rfl) dX12_init_39 (Nat.le_of_ble_eq_true rfl) (Nat.le_of_ble_eq_true rfl) (fun q39 => ?_)
  show V C 5 216 [gOb x 12 [.long (lN 0), .ref q7, .int (nI 0), .ref q15, .ref q23, .ref q31, .null, .null, .int (nI 0), .null, .null, .null, .int (nI 0), .int (nI 0), .int (nI 0), .int (nI 0), .int (nI 0), .null], gAr G q7 0 100 (nF (fun _ => 0)), gAr G q15 0 14 (nF (fun _ => 0)), gAr G q23 0 14 (nF (fun _ => 0)), gAr G q31 0 44 (nF (fun _ => 0)), gAr G q39 0 44 (nF (fun _ => 0))] 41 [some (.ref x)] [.ref q39, .ref x]
  refine V_putF X Z fl_X12_22 rfl kw_4_16 0 0 rfl rfl rfl rfl (Nat.le_of_ble_eq_true rfl) dX12_init_41 ?_
  show V C 5 216 [gOb x 12 [.long (lN 0), .ref q7, .int (nI 0), .ref q15, .ref q23, .ref q31, .ref q39, .null, .int (nI 0), .null, .null, .null, .int (nI 0), .int (nI 0), .int (nI 0), .int (nI 0), .int (nI 0), .null], gAr G q7 0 100 (nF (fun _ => 0)), gAr G q15 0 14 (nF (fun _ => 0)), gAr G q23 0 14 (nF (fun _ => 0)), gAr G q31 0 44 (nF (fun _ => 0)), gAr G q39 0 44 (nF (fun _ => 0))] 44 [some (.ref x)] []
  refine V_aload_n X dX12_init_44 rfl ?_
  refine V_sipush X (nI 440) dX12_init_45 (by decide) ?_
  refine V_newa (aty := .int) (ty := .int) (f := nF (fun _ => 0)) 0 X rfl rfl (fun _ _ h => h) kw_1_55 rfl (by decide) (Nat.le_of_ble_eq_true rfl) (fun _ => rfl) dX12_init_48 (Nat.le_of_ble_eq_true rfl) (Nat.le_of_ble_eq_true rfl) (fun q48 => ?_)
  show V C 6 656 [gOb x 12 [.long (lN 0), .ref q7, .int (nI 0), .ref q15, .ref q23, .ref q31, .ref q39, .null, .int (nI 0), .null, .null, .null, .int (nI 0), .int (nI 0), .int (nI 0), .int (nI 0), .int (nI 0), .null], gAr G q7 0 100 (nF (fun _ => 0)), gAr G q15 0 14 (nF (fun _ => 0)), gAr G q23 0 14 (nF (fun _ => 0)), gAr G q31 0 44 (nF (fun _ => 0)), gAr G q39 0 44 (nF (fun _ => 0)), gAr G q48 0 440 (nF (fun _ => 0))] 50 [some (.ref x)] [.ref q48, .ref x]
  refine V_putF X Z fl_X12_25 rfl kw_4_17 0 0 rfl rfl rfl rfl (Nat.le_of_ble_eq_true rfl) dX12_init_50 ?_
  show V C 6 656 [gOb x 12 [.long (lN 0), .ref q7, .int (nI 0), .ref q15, .ref q23, .ref q31, .ref q39, .ref q48, .int (nI 0), .null, .null, .null, .int (nI 0), .int (nI 0), .int (nI 0), .int (nI 0), .int (nI 0), .null], gAr G q7 0 100 (nF (fun _ => 0)), gAr G q15 0 14 (nF (fun _ => 0)), gAr G q23 0 14 (nF (fun _ => 0)), gAr G q31 0 44 (nF (fun _ => 0)), gAr G q39 0 44 (nF (fun _ => 0)), gAr G q48 0 440 (nF (fun _ => 0))] 53 [some (.ref x)] []
  refine V_aload_n X dX12_init_53 rfl ?_
  refine V_bipush X (nI 88) dX12_init_54 (by decide) ?_
  refine V_newa (aty := .int) (ty := .int) (f := nF (fun _ => 0)) 0 X rfl rfl (fun _ _ h => h) kw_1_55 rfl (by decide) (Nat.le_of_ble_eq_true rfl) (fun _ => rfl) dX12_init_56 (Nat.le_of_ble_eq_true rfl) (Nat.le_of_ble_eq_true rfl) (fun q56 => ?_)
  show V C 7 744 [gOb x 12 [.long (lN 0), .ref q7, .int (nI 0), .ref q15, .ref q23, .ref q31, .ref q39, .ref q48, .int (nI 0), .null, .null, .null, .int (nI 0), .int (nI 0), .int (nI 0), .int (nI 0), .int (nI 0), .null], gAr G q7 0 100 (nF (fun _ => 0)), gAr G q15 0 14 (nF (fun _ => 0)), gAr G q23 0 14 (nF (fun _ => 0)), gAr G q31 0 44 (nF (fun _ => 0)), gAr G q39 0 44 (nF (fun _ => 0)), gAr G q48 0 440 (nF (fun _ => 0)), gAr G q56 0 88 (nF (fun _ => 0))] 58 [some (.ref x)] [.ref q56, .ref x]
  refine V_putF X Z fl_X12_28 rfl kw_4_19 0 0 rfl rfl rfl rfl (Nat.le_of_ble_eq_true rfl) dX12_init_58 ?_
  show V C 7 744 [gOb x 12 [.long (lN 0), .ref q7, .int (nI 0), .ref q15, .ref q23, .ref q31, .ref q39, .ref q48, .int (nI 0), .ref q56, .null, .null, .int (nI 0), .int (nI 0), .int (nI 0), .int (nI 0), .int (nI 0), .null], gAr G q7 0 100 (nF (fun _ => 0)), gAr G q15 0 14 (nF (fun _ => 0)), gAr G q23 0 14 (nF (fun _ => 0)), gAr G q31 0 44 (nF (fun _ => 0)), gAr G q39 0 44 (nF (fun _ => 0)), gAr G q48 0 440 (nF (fun _ => 0)), gAr G q56 0 88 (nF (fun _ => 0))] 61 [some (.ref x)] []
  refine V_aload_n X dX12_init_61 rfl ?_
  refine V_iconst X (nI 2) dX12_init_62 (by decide) ?_
  refine V_newa (aty := .boolean) (ty := .boolean) (f := nF (fun _ => 0)) 1 X rfl rfl (fun _ _ h => h) kw_1_175 rfl (by decide) (Nat.le_of_ble_eq_true rfl) (fun _ => rfl) dX12_init_63 (Nat.le_of_ble_eq_true rfl) (Nat.le_of_ble_eq_true rfl) (fun q63 => ?_)
  show V C 8 746 [gOb x 12 [.long (lN 0), .ref q7, .int (nI 0), .ref q15, .ref q23, .ref q31, .ref q39, .ref q48, .int (nI 0), .ref q56, .null, .null, .int (nI 0), .int (nI 0), .int (nI 0), .int (nI 0), .int (nI 0), .null], gAr G q7 0 100 (nF (fun _ => 0)), gAr G q15 0 14 (nF (fun _ => 0)), gAr G q23 0 14 (nF (fun _ => 0)), gAr G q31 0 44 (nF (fun _ => 0)), gAr G q39 0 44 (nF (fun _ => 0)), gAr G q48 0 440 (nF (fun _ => 0)), gAr G q56 0 88 (nF (fun _ => 0)), gAr G q63 1 2 (nF (fun _ => 0))] 65 [some (.ref x)] [.ref q63, .ref x]
  refine V_putF X Z fl_X12_31 rfl kw_4_20 0 0 rfl rfl rfl rfl (Nat.le_of_ble_eq_true rfl) dX12_init_65 ?_
  show V C 8 746 [gOb x 12 [.long (lN 0), .ref q7, .int (nI 0), .ref q15, .ref q23, .ref q31, .ref q39, .ref q48, .int (nI 0), .ref q56, .ref q63, .null, .int (nI 0), .int (nI 0), .int (nI 0), .int (nI 0), .int (nI 0), .null], gAr G q7 0 100 (nF (fun _ => 0)), gAr G q15 0 14 (nF (fun _ => 0)), gAr G q23 0 14 (nF (fun _ => 0)), gAr G q31 0 44 (nF (fun _ => 0)), gAr G q39 0 44 (nF (fun _ => 0)), gAr G q48 0 440 (nF (fun _ => 0)), gAr G q56 0 88 (nF (fun _ => 0)), gAr G q63 1 2 (nF (fun _ => 0))] 68 [some (.ref x)] []
  refine V_aload_n X dX12_init_68 rfl ?_
  refine V_bipush X (nI 6) dX12_init_69 (by decide) ?_
  refine V_newa (aty := .int) (ty := .int) (f := nF (fun _ => 0)) 0 X rfl rfl (fun _ _ h => h) kw_1_55 rfl (by decide) (Nat.le_of_ble_eq_true rfl) (fun _ => rfl) dX12_init_71 (Nat.le_of_ble_eq_true rfl) (Nat.le_of_ble_eq_true rfl) (fun q71 => ?_)
  show V C 9 752 [gOb x 12 [.long (lN 0), .ref q7, .int (nI 0), .ref q15, .ref q23, .ref q31, .ref q39, .ref q48, .int (nI 0), .ref q56, .ref q63, .null, .int (nI 0), .int (nI 0), .int (nI 0), .int (nI 0), .int (nI 0), .null], gAr G q7 0 100 (nF (fun _ => 0)), gAr G q15 0 14 (nF (fun _ => 0)), gAr G q23 0 14 (nF (fun _ => 0)), gAr G q31 0 44 (nF (fun _ => 0)), gAr G q39 0 44 (nF (fun _ => 0)), gAr G q48 0 440 (nF (fun _ => 0)), gAr G q56 0 88 (nF (fun _ => 0)), gAr G q63 1 2 (nF (fun _ => 0)), gAr G q71 0 6 (nF (fun _ => 0))] 73 [some (.ref x)] [.ref q71, .ref x]
  refine V_putF X Z fl_X12_35 rfl kw_4_21 0 0 rfl rfl rfl rfl (Nat.le_of_ble_eq_true rfl) dX12_init_73 ?_
  show V C 9 752 [gOb x 12 [.long (lN 0), .ref q7, .int (nI 0), .ref q15, .ref q23, .ref q31, .ref q39, .ref q48, .int (nI 0), .ref q56, .ref q63, .ref q71, .int (nI 0), .int (nI 0), .int (nI 0), .int (nI 0), .int (nI 0), .null], gAr G q7 0 100 (nF (fun _ => 0)), gAr G q15 0 14 (nF (fun _ => 0)), gAr G q23 0 14 (nF (fun _ => 0)), gAr G q31 0 44 (nF (fun _ => 0)), gAr G q39 0 44 (nF (fun _ => 0)), gAr G q48 0 440 (nF (fun _ => 0)), gAr G q56 0 88 (nF (fun _ => 0)), gAr G q63 1 2 (nF (fun _ => 0)), gAr G q71 0 6 (nF (fun _ => 0))] 76 [some (.ref x)] []
  refine V_aload_n X dX12_init_76 rfl ?_
  refine V_bipush X (nI 36) dX12_init_77 (by decide) ?_
  refine V_newa (aty := .int) (ty := .int) (f := nF (fun _ => 0)) 0 X rfl rfl (fun _ _ h => h) kw_1_55 rfl (by decide) (Nat.le_of_ble_eq_true rfl) (fun _ => rfl) dX12_init_79 (Nat.le_of_ble_eq_true rfl) (Nat.le_of_ble_eq_true rfl) (fun q79 => ?_)
  show V C 10 788 [gOb x 12 [.long (lN 0), .ref q7, .int (nI 0), .ref q15, .ref q23, .ref q31, .ref q39, .ref q48, .int (nI 0), .ref q56, .ref q63, .ref q71, .int (nI 0), .int (nI 0), .int (nI 0), .int (nI 0), .int (nI 0), .null], gAr G q7 0 100 (nF (fun _ => 0)), gAr G q15 0 14 (nF (fun _ => 0)), gAr G q23 0 14 (nF (fun _ => 0)), gAr G q31 0 44 (nF (fun _ => 0)), gAr G q39 0 44 (nF (fun _ => 0)), gAr G q48 0 440 (nF (fun _ => 0)), gAr G q56 0 88 (nF (fun _ => 0)), gAr G q63 1 2 (nF (fun _ => 0)), gAr G q71 0 6 (nF (fun _ => 0)), gAr G q79 0 36 (nF (fun _ => 0))] 81 [some (.ref x)] [.ref q79, .ref x]
  refine V_putF X Z fl_X12_38 rfl kw_4_27 0 0 rfl rfl rfl rfl (Nat.le_of_ble_eq_true rfl) dX12_init_81 ?_
  show V C 10 788 [gOb x 12 [.long (lN 0), .ref q7, .int (nI 0), .ref q15, .ref q23, .ref q31, .ref q39, .ref q48, .int (nI 0), .ref q56, .ref q63, .ref q71, .int (nI 0), .int (nI 0), .int (nI 0), .int (nI 0), .int (nI 0), .ref q79], gAr G q7 0 100 (nF (fun _ => 0)), gAr G q15 0 14 (nF (fun _ => 0)), gAr G q23 0 14 (nF (fun _ => 0)), gAr G q31 0 44 (nF (fun _ => 0)), gAr G q39 0 44 (nF (fun _ => 0)), gAr G q48 0 440 (nF (fun _ => 0)), gAr G q56 0 88 (nF (fun _ => 0)), gAr G q63 1 2 (nF (fun _ => 0)), gAr G q71 0 6 (nF (fun _ => 0)), gAr G q79 0 36 (nF (fun _ => 0))] 84 [some (.ref x)] []
  refine V_aload_n X dX12_init_84 rfl ?_
  refine V_sel (gs' := [gOb x 12 [.long (lN 0), .ref q7, .int (nI 0), .ref q15, .ref q23, .ref q31, .ref q39, .ref q48, .int (nI 0), .ref q56, .ref q63, .ref q71, .int (nI 0), .int (nI 0), .int (nI 0), .int (nI 0), .int (nI 0), .ref q79], gAr G q7 0 100 (nF (fun _ => 0)), gAr G q15 0 14 (nF (fun _ => 0)), gAr G q23 0 14 (nF (fun _ => 0)), gAr G q31 0 44 (nF (fun _ => 0)), gAr G q39 0 44 (nF (fun _ => 0)), gAr G q48 0 440 (nF (fun _ => 0)), gAr G q56 0 88 (nF (fun _ => 0)), gAr G q63 1 2 (nF (fun _ => 0)), gAr G q71 0 6 (nF (fun _ => 0)), gAr G q79 0 36 (nF (fun _ => 0))]) [0, 1, 2, 3, 4, 5, 6, 7, 8, 9, 10] rfl (by decide) ?_
  refine V_flat (gs' := [gMod G (fun j => [x, q7, q15, q23, q31, q39, q48, q56, q63, q71, q79].getD j 0) (nF (fun _ => 0)) (nF (fun _ => 0)) (nF (fun _ => 0)) (nF (fun _ => 0)) (nF (fun _ => 0)) (nF (fun _ => 0)) (nF (fun _ => 0)) (nF (fun _ => 0)) (nF (fun _ => 0)) (nF (fun _ => 0)) (lN 0) (nI 0) (nI 0) (nI 0) (nI 0) (nI 0) (nI 0) (iI 0)]) rfl ?_
  refine V_callVR (rest := []) X (c_X12_reads (Cl C) G (fun j => [x, q7, q15, q23, q31, q39, q48, q56, q63, q71, q79].getD j 0) (fun _ => 0) (fun _ => 0) (fun _ => 0) (fun _ => 0) (fun _ => 0) (fun _ => 0) (fun _ => 0) (fun _ => 0) (fun _ => 0) (fun _ => 0) 0 0 0 0 0 0 0 0 (fun _ => 0) (fun _ => 0) (Nat.zero_le _) (fun _ => by decide)) mi_X12_reads kw_3_217 kw_3_219 kw_s_27 dX12_init_85 [0] rfl (by decide) 0 0 rfl rfl rfl rfl rfl rfl ⟨Nat.le_of_ble_eq_true rfl, Nat.le_of_ble_eq_true rfl⟩ (Nat.le_of_ble_eq_true rfl) ⟨Nat.le_of_ble_eq_true rfl, Nat.le_of_ble_eq_true rfl⟩ (fun u_ hr => ?_)
  obtain ⟨b, D, B, p, q, o, v, P⟩ := u_
  dsimp only at hr
  show V C 10 788 [gMod G (fun j => [x, q7, q15, q23, q31, q39, q48, q56, q63, q71, q79].getD j 0) (nF (fun _ => 0)) (nF (fun _ => 0)) (nF D) (nF B) (nF (fun _ => 0)) (nF (fun _ => 0)) (nF (fun _ => 0)) (nF (fun _ => 0)) (nF (fun _ => 0)) (nF (fun _ => 0)) (lN 0) (nI 0) (nI 0) (nI 0) (nI p) (nI o) (nI q) (iI v)] 88 [some (.ref x)] [.int (nI b)]
  refine V_pop X dX12_init_88 rfl ?_
  refine V_aload_n X dX12_init_89 rfl ?_
  refine V_callVR (rest := []) X (c_X12_begins (Cl C) G (fun j => [x, q7, q15, q23, q31, q39, q48, q56, q63, q71, q79].getD j 0) (fun _ => 0) (fun _ => 0) D B (fun _ => 0) (fun _ => 0) (fun _ => 0) (fun _ => 0) (fun _ => 0) (fun _ => 0) 0 0 0 0 p o q v) mi_X12_begins kw_4_6 kw_4_8 kw_s_32 dX12_init_90 [0] rfl (by decide) 0 0 rfl rfl rfl rfl rfl rfl ⟨Nat.le_of_ble_eq_true rfl, Nat.le_of_ble_eq_true rfl⟩ (Nat.le_of_ble_eq_true rfl) ⟨Nat.le_of_ble_eq_true rfl, Nat.le_of_ble_eq_true rfl⟩ (fun K hk => ?_)
  show V C 10 788 [gMod G (fun j => [x, q7, q15, q23, q31, q39, q48, q56, q63, q71, q79].getD j 0) (nF (fun _ => 0)) (nF D) (nF D) (nF B) (nF B) (nF (fun _ => 0)) (nF (fun _ => 0)) (nF K) (nF (fun _ => 0)) (nF (fun _ => 0)) (lN 0) (nI 0) (nI 0) (nI 0) (nI p) (nI o) (nI q) (iI v)] 93 [some (.ref x)] []
  exact V_aret X Y ⟨(fun j => [x, q7, q15, q23, q31, q39, q48, q56, q63, q71, q79].getD j 0), D, B, p, q, o, v, K⟩ ⟨rfl, psm_empty hr.1, hk.1, hk.2⟩ (Nat.le_of_ble_eq_true rfl) (Nat.le_of_ble_eq_true rfl) rfl dX12_init_93
