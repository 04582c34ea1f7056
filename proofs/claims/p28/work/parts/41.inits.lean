set_option maxHeartbeats 4000000 in
set_option maxRecDepth 100000 in
theorem c_Jxa1e45_init_da8c8 (l : Launch) (G : z_G) (a : Nat) : z_M l yJxa1e45_init_da8c8 cJxa1e45_init_da8c8 1 none 1 0 0 [.ref a] G (fun H => True) (fun _ => False) ((fun v H H1 => v = none ∧ H1 = H)) := by
  refine z_M.of (by decide +kernel) (Nat.le_of_ble_eq_true rfl) ?_
  intro p e s m below meth c C hP
  refine z_aload_n C dJxa1e45_init_da8c8_0 rfl ?_
  refine z_objInit C wb_37 wb_24 wb_25 dJxa1e45_init_da8c8_1 (by decide) (Nat.le_of_ble_eq_true rfl) ?_
  exact z_vret C (by omega) (by omega) dJxa1e45_init_da8c8_4 (by exact ⟨rfl, rfl⟩)

set_option maxHeartbeats 4000000 in
set_option maxRecDepth 100000 in
theorem c_Jxc12de_init_da8c8 (l : Launch) (G : z_G) (a : Nat) (m0 : Int32) (v1 : Value) (n0 : Int32) : z_M l yJxc12de_init_da8c8 cJxc12de_init_da8c8 1 none 2 0 0 [.ref a] G (fun H => va_at G.1 vwCl (a, .inr (0, [.int m0, v1, .int n0])) H) (fun q => q = a) ((fun v H H1 => v = none ∧ z_U G a (.inr (0, [.int 0, v1, .int n0])) H H1)) := by
  refine z_M.of (by decide +kernel) (Nat.le_of_ble_eq_true rfl) ?_
  intro p e s m below meth c C hP
  have hU : z_U G a _ s.heap s.heap := ⟨hP, rfl, fun _ _ => rfl⟩
  refine z_aload_n C dJxc12de_init_da8c8_0 rfl ?_
  refine z_callI (As := []) C (c_Jxa1e45_init_da8c8 _ _ a) kc_Jxa1e45_init_da8c8 wb_34 ⟨by decide, by decide⟩ (trivial) (fun _ h => h.elim) ⟨Nat.zero_le _, Nat.zero_le _⟩ (Nat.le_of_ble_eq_true rfl) dJxc12de_init_da8c8_1 (fun v H1 hq _ _ => ?_)
  obtain ⟨rfl, rfl⟩ := hq
  refine z_aload_n C dJxc12de_init_da8c8_4 rfl ?_
  refine z_iconst (v := 0) C dJxc12de_init_da8c8_5 (by decide) ?_
  refine z_put C (by first | exact hU.1 | exact hP) z_cls0 hu_Jx4a65c (by exact rfl) 0 (by decide) wb_42 rfl rfl (by rfl) (by rfl) (Nat.le_of_ble_eq_true rfl) dJxc12de_init_da8c8_6 (fun H6 hU6 => ?_)
  have hU := hU.trans hU6
  exact z_vret C (by omega) (by omega) dJxc12de_init_da8c8_9 (by exact ⟨rfl, hU⟩)

set_option maxHeartbeats 4000000 in
set_option maxRecDepth 100000 in
theorem c_X4_init (l : Launch) (G : z_G) (a : Nat) (v0 v1 v2 i : Int32) : z_M l yX4_init cX4_init 2 none 1 0 0 [.ref a, .int i] G (fun H => va_at G.1 vwCl (a, .inr (5, [.int v0, .int v1, .int v2])) H) (fun q => q = a) ((fun v H H1 => v = none ∧ z_U G a (.inr (5, [.int i, .int (x_bit i), .int v2])) H H1)) := by
  refine z_M.of (by decide +kernel) (Nat.le_of_ble_eq_true rfl) ?_
  intro p e s m below meth c C hP
  have hU : z_U G a _ s.heap s.heap := ⟨hP, rfl, fun _ _ => rfl⟩
  refine z_aload_n C dX4_init_0 rfl ?_
  refine z_objInit C wb_138 wb_24 wb_25 dX4_init_1 (by decide) (Nat.le_of_ble_eq_true rfl) ?_
  refine z_aload_n C dX4_init_4 rfl ?_
  refine z_iload_n C dX4_init_5 rfl ?_
  refine z_putF C (by first | exact hU.1 | exact hP) z_cls5 hu_X4 (by exact rfl) 0 (by decide) wb_139 rfl rfl rfl rfl rfl rfl (Nat.le_of_ble_eq_true rfl) dX4_init_6 (fun H6 hU6 => ?_)
  have hU := hU.trans hU6
  refine z_aload_n C dX4_init_9 rfl ?_
  refine z_iconst (v := 1) C dX4_init_10 (by decide) ?_
  refine z_iload_n C dX4_init_11 rfl ?_
  refine z_ishl C dX4_init_12 ?_
  refine z_putF C (by first | exact hU.1 | exact hP) z_cls5 hu_X4 (by exact rfl) 1 (by decide) wb_141 rfl rfl rfl rfl rfl rfl (Nat.le_of_ble_eq_true rfl) dX4_init_13 (fun H13 hU13 => ?_)
  have hU := hU.trans hU13
  exact z_vret C (by omega) (by omega) dX4_init_16 (by exact ⟨rfl, hU⟩)

set_option maxHeartbeats 4000000 in
set_option maxRecDepth 100000 in
theorem c_X1_init (l : Launch) (G : z_G) (a rm : Nat) (v0 v1 v3 v4 v5 i z t : Int32) (v2 : Option Nat) : z_M l yX1_init cX1_init 5 none 1 0 0 [.ref a, .int i, .int z, .ref rm, .int t] G (fun H => va_at G.1 vwCl (a, .inr (2, [.int v0, .int v1, va_rf v2, .int v3, .int v4, .int v5])) H) (fun q => q = a) ((fun v H H1 => v = none ∧ z_U G a (.inr (2, [.int i, .int z, .ref rm, .int t, .int v4, .int 0])) H H1)) := by
  refine z_M.of (by decide +kernel) (Nat.le_of_ble_eq_true rfl) ?_
  intro p e s m below meth c C hP
  have hU : z_U G a _ s.heap s.heap := ⟨hP, rfl, fun _ _ => rfl⟩
  refine z_aload_n C dX1_init_0 rfl ?_
  refine z_objInit C wb_365 wb_24 wb_25 dX1_init_1 (by decide) (Nat.le_of_ble_eq_true rfl) ?_
  refine z_aload_n C dX1_init_4 rfl ?_
  refine z_iload_n C dX1_init_5 rfl ?_
  refine z_putF C (by first | exact hU.1 | exact hP) z_cls2 hu_X1 (by exact rfl) 0 (by decide) wb_366 rfl rfl rfl rfl rfl rfl (Nat.le_of_ble_eq_true rfl) dX1_init_6 (fun H6 hU6 => ?_)
  have hU := hU.trans hU6
  refine z_aload_n C dX1_init_9 rfl ?_
  refine z_iload_n C dX1_init_10 rfl ?_
  refine z_put C (by first | exact hU.1 | exact hP) z_cls2 hu_X1 (by exact rfl) 1 (by decide) wb_368 rfl rfl (by rfl) (by rfl) (Nat.le_of_ble_eq_true rfl) dX1_init_11 (fun H11 hU11 => ?_)
  have hU := hU.trans hU11
  refine z_aload_n C dX1_init_14 rfl ?_
  refine z_aload_n C dX1_init_15 rfl ?_
  refine z_put C (by first | exact hU.1 | exact hP) z_cls2 hu_X1 (by exact rfl) 2 (by decide) wb_370 rfl rfl (by rfl) (by rfl) (Nat.le_of_ble_eq_true rfl) dX1_init_16 (fun H16 hU16 => ?_)
  have hU := hU.trans hU16
  refine z_aload_n C dX1_init_19 rfl ?_
  refine z_iload C dX1_init_20 rfl ?_
  refine z_put C (by first | exact hU.1 | exact hP) z_cls2 hu_X1 (by exact rfl) 3 (by decide) wb_373 rfl rfl (by rfl) (by rfl) (Nat.le_of_ble_eq_true rfl) dX1_init_22 (fun H22 hU22 => ?_)
  have hU := hU.trans hU22
  refine z_aload_n C dX1_init_25 rfl ?_
  refine z_iconst (v := 0) C dX1_init_26 (by decide) ?_
  refine z_put C (by first | exact hU.1 | exact hP) z_cls2 hu_X1 (by exact rfl) 5 (by decide) wb_376 rfl rfl (by rfl) (by rfl) (Nat.le_of_ble_eq_true rfl) dX1_init_27 (fun H27 hU27 => ?_)
  have hU := hU.trans hU27
  exact z_vret C (by omega) (by omega) dX1_init_30 (by exact ⟨rfl, hU⟩)

set_option maxHeartbeats 4000000 in
set_option maxRecDepth 100000 in
theorem c_X2_init (l : Launch) (G : z_G) (a rm : Nat) (v0 v1 v3 i c0 : Int32) (v2 v4 v5 : Option Nat) : z_M l yX2_init cX2_init 4 none 1 0 0 [.ref a, .int i, .int c0, .ref rm] G (fun H => va_at G.1 vwCl (a, .inr (3, [.int v0, .int v1, va_rf v2, .int v3, va_rf v4, va_rf v5])) H) (fun q => q = a) ((fun v H H1 => v = none ∧ z_U G a (.inr (3, [.int i, .int c0, .ref rm, .int v3, va_rf v4, va_rf v5])) H H1)) := by
  refine z_M.of (by decide +kernel) (Nat.le_of_ble_eq_true rfl) ?_
  intro p e s m below meth c C hP
  have hU : z_U G a _ s.heap s.heap := ⟨hP, rfl, fun _ _ => rfl⟩
  refine z_aload_n C dX2_init_0 rfl ?_
  refine z_objInit C wb_325 wb_24 wb_25 dX2_init_1 (by decide) (Nat.le_of_ble_eq_true rfl) ?_
  refine z_aload_n C dX2_init_4 rfl ?_
  refine z_iload_n C dX2_init_5 rfl ?_
  refine z_putF C (by first | exact hU.1 | exact hP) z_cls3 hu_X2 (by exact rfl) 0 (by decide) wb_326 rfl rfl rfl rfl rfl rfl (Nat.le_of_ble_eq_true rfl) dX2_init_6 (fun H6 hU6 => ?_)
  have hU := hU.trans hU6
  refine z_aload_n C dX2_init_9 rfl ?_
  refine z_iload_n C dX2_init_10 rfl ?_
  refine z_putF C (by first | exact hU.1 | exact hP) z_cls3 hu_X2 (by exact rfl) 1 (by decide) wb_328 rfl rfl rfl rfl rfl rfl (Nat.le_of_ble_eq_true rfl) dX2_init_11 (fun H11 hU11 => ?_)
  have hU := hU.trans hU11
  refine z_aload_n C dX2_init_14 rfl ?_
  refine z_aload_n C dX2_init_15 rfl ?_
  refine z_put C (by first | exact hU.1 | exact hP) z_cls3 hu_X2 (by exact rfl) 2 (by decide) wb_331 rfl rfl (by rfl) (by rfl) (Nat.le_of_ble_eq_true rfl) dX2_init_16 (fun H16 hU16 => ?_)
  have hU := hU.trans hU16
  exact z_vret C (by omega) (by omega) dX2_init_19 (by exact ⟨rfl, hU⟩)

