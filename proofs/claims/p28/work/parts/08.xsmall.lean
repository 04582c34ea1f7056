set_option maxHeartbeats 4000000 in
set_option maxRecDepth 100000 in
theorem c_X0_isAt (l : Launch) (G : z_G) (a r lo hi : Nat) (nu wk rb co un lb io ot : Int32) : z_MR l yX0_isAt cX0_isAt 2 (some .boolean) 0 [.ref a, .ref r] G (fun H => va_at G.1 vwCl (a, .inr (1, [.int nu, .ref lo, .ref hi, .int wk, .int rb, .int co, .int un, .int lb, .int io, .int ot])) H) (.int (z_b (decide (r = lo) || decide (r = hi)))) := by
  refine z_M.of (by decide +kernel) (Nat.le_of_ble_eq_true rfl) ?_
  intro p e s m below meth c C hP
  refine z_aload_n C dX0_isAt_0 rfl ?_
  refine z_aload_n C dX0_isAt_1 rfl ?_
  refine z_get C (by first | exact hU.1 | exact hP) z_cls1 hu_X0 1 (by decide) wb_262 rfl rfl dX0_isAt_2 ?_
  refine z_acmp_eq_rr C 16 dX0_isAt_5 (by decide) (fun h5 => ?_) (fun h5 => ?_)
  · refine z_iconst (v := 1) C dX0_isAt_16 (by decide) ?_
    refine z_goto C 21 dX0_isAt_17 (by decide) ?_
    exact z_bret C (by omega) (by omega) dX0_isAt_21 (by rfl) (by exact ⟨congrArg (fun z => some (Value.int z)) (by simp [z_b, Bool.or_eq_true, *]), rfl⟩)
  · refine z_aload_n C dX0_isAt_8 rfl ?_
    refine z_aload_n C dX0_isAt_9 rfl ?_
    refine z_get C (by first | exact hU.1 | exact hP) z_cls1 hu_X0 2 (by decide) wb_264 rfl rfl dX0_isAt_10 ?_
    refine z_acmp_ne_rr C 20 dX0_isAt_13 (by decide) (fun h13 => ?_) (fun h13 => ?_)
    · refine z_iconst (v := 0) C dX0_isAt_20 (by decide) ?_
      exact z_bret C (by omega) (by omega) dX0_isAt_21 (by rfl) (by exact ⟨congrArg (fun z => some (Value.int z)) (by simp [z_b, Bool.or_eq_true, *]), rfl⟩)
    · refine z_iconst (v := 1) C dX0_isAt_16 (by decide) ?_
      refine z_goto C 21 dX0_isAt_17 (by decide) ?_
      exact z_bret C (by omega) (by omega) dX0_isAt_21 (by rfl) (by exact ⟨congrArg (fun z => some (Value.int z)) (by simp [z_b, Bool.or_eq_true, *]), rfl⟩)

set_option maxHeartbeats 4000000 in
set_option maxRecDepth 100000 in
theorem c_X0_otherRoom (l : Launch) (G : z_G) (a r lo hi : Nat) (nu wk rb co un lb io ot : Int32) : z_MR l yX0_otherRoom cX0_otherRoom 2 (some (.object "EscapeRooms$Room")) 0 [.ref a, .ref r] G (fun H => va_at G.1 vwCl (a, .inr (1, [.int nu, .ref lo, .ref hi, .int wk, .int rb, .int co, .int un, .int lb, .int io, .int ot])) H) (.ref (if r = lo then hi else lo)) := by
  refine z_M.of (by decide +kernel) (Nat.le_of_ble_eq_true rfl) ?_
  intro p e s m below meth c C hP
  refine z_aload_n C dX0_otherRoom_0 rfl ?_
  refine z_aload_n C dX0_otherRoom_1 rfl ?_
  refine z_get C (by first | exact hU.1 | exact hP) z_cls1 hu_X0 1 (by decide) wb_262 rfl rfl dX0_otherRoom_2 ?_
  refine z_acmp_ne_rr C 15 dX0_otherRoom_5 (by decide) (fun h5 => ?_) (fun h5 => ?_)
  · refine z_aload_n C dX0_otherRoom_15 rfl ?_
    refine z_get C (by first | exact hU.1 | exact hP) z_cls1 hu_X0 1 (by decide) wb_262 rfl rfl dX0_otherRoom_16 ?_
    exact z_aret C (by first | exact Or.inl ⟨_, rfl⟩ | exact Or.inr ⟨_, rfl⟩) (by omega) (by omega) dX0_otherRoom_19 (by exact ⟨congrArg (fun z => some (Value.ref z)) (by simp [*]), rfl⟩)
  · refine z_aload_n C dX0_otherRoom_8 rfl ?_
    refine z_get C (by first | exact hU.1 | exact hP) z_cls1 hu_X0 2 (by decide) wb_264 rfl rfl dX0_otherRoom_9 ?_
    refine z_goto C 19 dX0_otherRoom_12 (by decide) ?_
    exact z_aret C (by first | exact Or.inl ⟨_, rfl⟩ | exact Or.inr ⟨_, rfl⟩) (by omega) (by omega) dX0_otherRoom_19 (by exact ⟨congrArg (fun z => some (Value.ref z)) (by simp [*]), rfl⟩)

set_option maxHeartbeats 4000000 in
set_option maxRecDepth 100000 in
theorem c_X0_timeBehind (l : Launch) (G : z_G) (a lo hi : Nat) (nu wk rb co un lb io ot : Int32) (t : Int32) : z_MR l yX0_timeBehind cX0_timeBehind 2 (some .int) 1 [.ref a, .int t] G (fun H => va_at G.1 vwCl (a, .inr (1, [.int nu, .ref lo, .ref hi, .int wk, .int rb, .int co, .int un, .int lb, .int io, .int ot])) H) (.int (m_later t ot + wk)) := by
  refine z_M.of (by decide +kernel) (Nat.le_of_ble_eq_true rfl) ?_
  intro p e s m below meth c C hP
  refine z_iload_n C dX0_timeBehind_0 rfl ?_
  refine z_aload_n C dX0_timeBehind_1 rfl ?_
  refine z_get C (by first | exact hU.1 | exact hP) z_cls1 hu_X0 9 (by decide) wb_282 rfl rfl dX0_timeBehind_2 ?_
  refine z_mmax C wb_419 wb_175 wb_9 wb_176 (by decide) (Nat.le_of_ble_eq_true rfl) (Nat.zero_le _) (Nat.zero_le _) dX0_timeBehind_5 ?_
  refine z_aload_n C dX0_timeBehind_8 rfl ?_
  refine z_get C (by first | exact hU.1 | exact hP) z_cls1 hu_X0 3 (by decide) wb_266 rfl rfl dX0_timeBehind_9 ?_
  refine z_iadd C dX0_timeBehind_12 ?_
  exact z_iret C (by omega) (by omega) dX0_timeBehind_13 (by exact ⟨rfl, rfl⟩)

set_option maxHeartbeats 4000000 in
set_option maxRecDepth 100000 in
theorem c_X0_isPassable (l : Launch) (G : z_G) (a lo hi : Nat) (nu wk rb co un lb io ot : Int32) (x : Int32) : z_MR l yX0_isPassable cX0_isPassable 2 (some .boolean) 0 [.ref a, .int x] G (fun H => va_at G.1 vwCl (a, .inr (1, [.int nu, .ref lo, .ref hi, .int wk, .int rb, .int co, .int un, .int lb, .int io, .int ot])) H) (.int (z_b (decide (x &&& lb = lb)))) := by
  refine z_M.of (by decide +kernel) (Nat.le_of_ble_eq_true rfl) ?_
  intro p e s m below meth c C hP
  refine z_iload_n C dX0_isPassable_0 rfl ?_
  refine z_aload_n C dX0_isPassable_1 rfl ?_
  refine z_get C (by first | exact hU.1 | exact hP) z_cls1 hu_X0 7 (by decide) wb_277 rfl rfl dX0_isPassable_2 ?_
  refine z_iand C dX0_isPassable_5 ?_
  refine z_aload_n C dX0_isPassable_6 rfl ?_
  refine z_get C (by first | exact hU.1 | exact hP) z_cls1 hu_X0 7 (by decide) wb_277 rfl rfl dX0_isPassable_7 ?_
  refine z_icmp_ne C 17 dX0_isPassable_10 (by decide) (fun h10 => ?_) (fun h10 => ?_)
  · refine z_iconst (v := 0) C dX0_isPassable_17 (by decide) ?_
    exact z_bret C (by omega) (by omega) dX0_isPassable_18 (by rfl) (by exact ⟨congrArg (fun z => some (Value.int z)) (by simp [z_b, Bool.or_eq_true, *]), rfl⟩)
  · refine z_iconst (v := 1) C dX0_isPassable_13 (by decide) ?_
    refine z_goto C 18 dX0_isPassable_14 (by decide) ?_
    exact z_bret C (by omega) (by omega) dX0_isPassable_18 (by rfl) (by exact ⟨congrArg (fun z => some (Value.int z)) (by simp [z_b, Bool.or_eq_true, *]), rfl⟩)

set_option maxHeartbeats 4000000 in
set_option maxRecDepth 100000 in
theorem c_X0_leadsOutOf (l : Launch) (G : z_G) (a lo hi : Nat) (nu wk rb co un lb io ot : Int32) (x : Int32) : z_MR l yX0_leadsOutOf cX0_leadsOutOf 3 (some .boolean) 0 [.ref a, .int x] G (fun H => va_at G.1 vwCl (a, .inr (1, [.int nu, .ref lo, .ref hi, .int wk, .int rb, .int co, .int un, .int lb, .int io, .int ot])) H) (.int (z_b (!(decide (x &&& rb = 0)) && !(decide (x &&& rb = rb))))) := by
  refine z_M.of (by decide +kernel) (Nat.le_of_ble_eq_true rfl) ?_
  intro p e s m below meth c C hP
  refine z_iload_n C dX0_leadsOutOf_0 rfl ?_
  refine z_aload_n C dX0_leadsOutOf_1 rfl ?_
  refine z_get C (by first | exact hU.1 | exact hP) z_cls1 hu_X0 4 (by decide) wb_268 rfl rfl dX0_leadsOutOf_2 ?_
  refine z_iand C dX0_leadsOutOf_5 ?_
  refine z_istore_n C dX0_leadsOutOf_6 (by decide) ?_
  refine z_iload_n C dX0_leadsOutOf_7 rfl ?_
  refine z_if_eq C 23 dX0_leadsOutOf_8 (by decide) (fun h8 => ?_) (fun h8 => ?_)
  · refine z_iconst (v := 0) C dX0_leadsOutOf_23 (by decide) ?_
    exact z_bret C (by omega) (by omega) dX0_leadsOutOf_24 (by rfl) (by exact ⟨congrArg (fun z => some (Value.int z)) (by simp [z_b, Bool.or_eq_true, *]), rfl⟩)
  · refine z_iload_n C dX0_leadsOutOf_11 rfl ?_
    refine z_aload_n C dX0_leadsOutOf_12 rfl ?_
    refine z_get C (by first | exact hU.1 | exact hP) z_cls1 hu_X0 4 (by decide) wb_268 rfl rfl dX0_leadsOutOf_13 ?_
    refine z_icmp_eq C 23 dX0_leadsOutOf_16 (by decide) (fun h16 => ?_) (fun h16 => ?_)
    · refine z_iconst (v := 0) C dX0_leadsOutOf_23 (by decide) ?_
      exact z_bret C (by omega) (by omega) dX0_leadsOutOf_24 (by rfl) (by exact ⟨congrArg (fun z => some (Value.int z)) (by simp [z_b, Bool.or_eq_true, *]), rfl⟩)
    · refine z_iconst (v := 1) C dX0_leadsOutOf_19 (by decide) ?_
      refine z_goto C 24 dX0_leadsOutOf_20 (by decide) ?_
      exact z_bret C (by omega) (by omega) dX0_leadsOutOf_24 (by rfl) (by exact ⟨congrArg (fun z => some (Value.int z)) (by simp [z_b, Bool.or_eq_true, *]), rfl⟩)

set_option maxHeartbeats 4000000 in
set_option maxRecDepth 100000 in
theorem c_X0_putLock (l : Launch) (G : z_G) (a lo hi : Nat) (nu wk rb co un lb io ot : Int32) (b c0 u : Int32) : z_M l yX0_putLock cX0_putLock 4 none 0 0 0 [.ref a, .int b, .int c0, .int u] G (fun H => va_at G.1 vwCl (a, .inr (1, [.int nu, .ref lo, .ref hi, .int wk, .int rb, .int co, .int un, .int lb, .int io, .int ot])) H) (fun q => q = a) (fun v H H1 => v = none ∧ z_U G a (.inr (1, [.int nu, .ref lo, .ref hi, .int wk, .int rb, .int c0, .int u, .int b, .int 0, .int ot])) H H1) := by
  refine z_M.of (by decide +kernel) (Nat.le_of_ble_eq_true rfl) ?_
  intro p e s m below meth c C hP
  have hU : z_U G a _ s.heap s.heap := ⟨hP, rfl, fun _ _ => rfl⟩
  refine z_aload_n C dX0_putLock_0 rfl ?_
  refine z_iload_n C dX0_putLock_1 rfl ?_
  refine z_put C (by first | exact hU.1 | exact hP) z_cls1 hu_X0 (by exact rfl) 7 (by decide) wb_277 rfl rfl (by rfl) (by rfl) (Nat.le_of_ble_eq_true rfl) dX0_putLock_2 (fun H2 hU2 => ?_)
  have hU := hU.trans hU2
  refine z_aload_n C dX0_putLock_5 rfl ?_
  refine z_iload_n C dX0_putLock_6 rfl ?_
  refine z_put C (by first | exact hU.1 | exact hP) z_cls1 hu_X0 (by exact rfl) 5 (by decide) wb_271 rfl rfl (by rfl) (by rfl) (Nat.le_of_ble_eq_true rfl) dX0_putLock_7 (fun H7 hU7 => ?_)
  have hU := hU.trans hU7
  refine z_aload_n C dX0_putLock_10 rfl ?_
  refine z_iload_n C dX0_putLock_11 rfl ?_
  refine z_put C (by first | exact hU.1 | exact hP) z_cls1 hu_X0 (by exact rfl) 6 (by decide) wb_274 rfl rfl (by rfl) (by rfl) (Nat.le_of_ble_eq_true rfl) dX0_putLock_12 (fun H12 hU12 => ?_)
  have hU := hU.trans hU12
  refine z_aload_n C dX0_putLock_15 rfl ?_
  refine z_iconst (v := 0) C dX0_putLock_16 (by decide) ?_
  refine z_put C (by first | exact hU.1 | exact hP) z_cls1 hu_X0 (by exact rfl) 8 (by decide) wb_280 rfl rfl (by rfl) (by rfl) (Nat.le_of_ble_eq_true rfl) dX0_putLock_17 (fun H17 hU17 => ?_)
  have hU := hU.trans hU17
  exact z_vret C (by omega) (by omega) dX0_putLock_20 (by exact ⟨rfl, hU⟩)

set_option maxHeartbeats 4000000 in
set_option maxRecDepth 100000 in
theorem c_X0_openFrom (l : Launch) (G : z_G) (a lo hi : Nat) (nu wk rb co un lb io ot : Int32) (t : Int32) : z_M l yX0_openFrom cX0_openFrom 2 none 0 0 0 [.ref a, .int t] G (fun H => va_at G.1 vwCl (a, .inr (1, [.int nu, .ref lo, .ref hi, .int wk, .int rb, .int co, .int un, .int lb, .int io, .int ot])) H) (fun q => q = a) (fun v H H1 => v = none ∧ z_U G a (.inr (1, [.int nu, .ref lo, .ref hi, .int wk, .int rb, .int co, .int un, .int lb, .int 1, .int t])) H H1) := by
  refine z_M.of (by decide +kernel) (Nat.le_of_ble_eq_true rfl) ?_
  intro p e s m below meth c C hP
  have hU : z_U G a _ s.heap s.heap := ⟨hP, rfl, fun _ _ => rfl⟩
  refine z_aload_n C dX0_openFrom_0 rfl ?_
  refine z_iconst (v := 1) C dX0_openFrom_1 (by decide) ?_
  refine z_put C (by first | exact hU.1 | exact hP) z_cls1 hu_X0 (by exact rfl) 8 (by decide) wb_280 rfl rfl (by rfl) (by rfl) (Nat.le_of_ble_eq_true rfl) dX0_openFrom_2 (fun H2 hU2 => ?_)
  have hU := hU.trans hU2
  refine z_aload_n C dX0_openFrom_5 rfl ?_
  refine z_iload_n C dX0_openFrom_6 rfl ?_
  refine z_put C (by first | exact hU.1 | exact hP) z_cls1 hu_X0 (by exact rfl) 9 (by decide) wb_282 rfl rfl (by rfl) (by rfl) (Nat.le_of_ble_eq_true rfl) dX0_openFrom_7 (fun H7 hU7 => ?_)
  have hU := hU.trans hU7
  exact z_vret C (by omega) (by omega) dX0_openFrom_10 (by exact ⟨rfl, hU⟩)

set_option maxHeartbeats 4000000 in
set_option maxRecDepth 100000 in
theorem c_X1_isInPlay (l : Launch) (G : z_G) (a rm : Nat) (nu sz ti hn st : Int32) : z_MR l yX1_isInPlay cX1_isInPlay 1 (some .boolean) 0 [.ref a] G (fun H => va_at G.1 vwCl (a, .inr (2, [.int nu, .int sz, .ref rm, .int ti, .int hn, .int st])) H) (.int (z_b (decide (st = 0)))) := by
  refine z_M.of (by decide +kernel) (Nat.le_of_ble_eq_true rfl) ?_
  intro p e s m below meth c C hP
  refine z_aload_n C dX1_isInPlay_0 rfl ?_
  refine z_get C (by first | exact hU.1 | exact hP) z_cls2 hu_X1 5 (by decide) wb_376 rfl rfl dX1_isInPlay_1 ?_
  refine z_if_ne C 11 dX1_isInPlay_4 (by decide) (fun h4 => ?_) (fun h4 => ?_)
  · refine z_iconst (v := 0) C dX1_isInPlay_11 (by decide) ?_
    exact z_bret C (by omega) (by omega) dX1_isInPlay_12 (by rfl) (by exact ⟨congrArg (fun z => some (Value.int z)) (by simp [z_b, Bool.or_eq_true, *]), rfl⟩)
  · refine z_iconst (v := 1) C dX1_isInPlay_7 (by decide) ?_
    refine z_goto C 12 dX1_isInPlay_8 (by decide) ?_
    exact z_bret C (by omega) (by omega) dX1_isInPlay_12 (by rfl) (by exact ⟨congrArg (fun z => some (Value.int z)) (by simp [z_b, Bool.or_eq_true, *]), rfl⟩)

set_option maxHeartbeats 4000000 in
set_option maxRecDepth 100000 in
theorem c_X2_state (l : Launch) (G : z_G) (a : Nat) (nu co lf : Int32) (rm ho ul : Option Nat) : z_MR l yX2_state cX2_state 1 (some .int) 0 [.ref a] G (fun H => va_at G.1 vwCl (a, .inr (3, [.int nu, .int co, va_rf rm, .int lf, va_rf ho, va_rf ul])) H) (.int (if rm = none then (if ho = none then 2 else 1) else 0)) := by
  refine z_M.of (by decide +kernel) (Nat.le_of_ble_eq_true rfl) ?_
  intro p e s m below meth c C hP
  refine z_aload_n C dX2_state_0 rfl ?_
  refine z_get C (by first | exact hU.1 | exact hP) z_cls3 hu_X2 2 (by decide) wb_331 rfl rfl dX2_state_1 ?_
  refine z_ifnull C 9 dX2_state_4 (by decide) (fun h4 => ?_) (fun a4 h4 => ?_)
  · refine z_aload_n C dX2_state_9 rfl ?_
    refine z_get C (by first | exact hU.1 | exact hP) z_cls3 hu_X2 4 (by decide) wb_335 rfl rfl dX2_state_10 ?_
    refine z_ifnull C 20 dX2_state_13 (by decide) (fun h13 => ?_) (fun a13 h13 => ?_)
    · refine z_iconst (v := 2) C dX2_state_20 (by decide) ?_
      exact z_iret C (by omega) (by omega) dX2_state_21 (by exact ⟨congrArg (fun z => some (Value.int z)) (by simp [*]), rfl⟩)
    · refine z_iconst (v := 1) C dX2_state_16 (by decide) ?_
      refine z_goto C 21 dX2_state_17 (by decide) ?_
      exact z_iret C (by omega) (by omega) dX2_state_21 (by exact ⟨congrArg (fun z => some (Value.int z)) (by simp [*]), rfl⟩)
  · refine z_iconst (v := 0) C dX2_state_7 (by decide) ?_
    exact z_iret C (by omega) (by omega) dX2_state_8 (by exact ⟨congrArg (fun z => some (Value.int z)) (by simp [*]), rfl⟩)

set_option maxHeartbeats 4000000 in
set_option maxRecDepth 100000 in
theorem c_X2_layDown (l : Launch) (G : z_G) (a : Nat) (nu co lf : Int32) (rm ho ul : Option Nat) (r : Nat) (t : Int32) : z_M l yX2_layDown cX2_layDown 3 none 0 0 0 [.ref a, .ref r, .int t] G (fun H => va_at G.1 vwCl (a, .inr (3, [.int nu, .int co, va_rf rm, .int lf, va_rf ho, va_rf ul])) H) (fun q => q = a) (fun v H H1 => v = none ∧ z_U G a (.inr (3, [.int nu, .int co, .ref r, .int t, va_rf none, va_rf ul])) H H1) := by
  refine z_M.of (by decide +kernel) (Nat.le_of_ble_eq_true rfl) ?_
  intro p e s m below meth c C hP
  have hU : z_U G a _ s.heap s.heap := ⟨hP, rfl, fun _ _ => rfl⟩
  refine z_aload_n C dX2_layDown_0 rfl ?_
  refine z_aload_n C dX2_layDown_1 rfl ?_
  refine z_put C (by first | exact hU.1 | exact hP) z_cls3 hu_X2 (by exact rfl) 2 (by decide) wb_331 rfl rfl (by rfl) (by rfl) (Nat.le_of_ble_eq_true rfl) dX2_layDown_2 (fun H2 hU2 => ?_)
  have hU := hU.trans hU2
  refine z_aload_n C dX2_layDown_5 rfl ?_
  refine z_iload_n C dX2_layDown_6 rfl ?_
  refine z_put C (by first | exact hU.1 | exact hP) z_cls3 hu_X2 (by exact rfl) 3 (by decide) wb_333 rfl rfl (by rfl) (by rfl) (Nat.le_of_ble_eq_true rfl) dX2_layDown_7 (fun H7 hU7 => ?_)
  have hU := hU.trans hU7
  refine z_aload_n C dX2_layDown_10 rfl ?_
  refine z_nullq C dX2_layDown_11 ?_
  refine z_put C (by first | exact hU.1 | exact hP) z_cls3 hu_X2 (by exact rfl) 4 (by decide) wb_335 rfl rfl (by rfl) (by rfl) (Nat.le_of_ble_eq_true rfl) dX2_layDown_12 (fun H12 hU12 => ?_)
  have hU := hU.trans hU12
  exact z_vret C (by omega) (by omega) dX2_layDown_15 (by exact ⟨rfl, hU⟩)

set_option maxHeartbeats 4000000 in
set_option maxRecDepth 100000 in
theorem c_X2_giveTo (l : Launch) (G : z_G) (a : Nat) (nu co lf : Int32) (rm ho ul : Option Nat) (g : Nat) : z_M l yX2_giveTo cX2_giveTo 2 none 0 0 0 [.ref a, .ref g] G (fun H => va_at G.1 vwCl (a, .inr (3, [.int nu, .int co, va_rf rm, .int lf, va_rf ho, va_rf ul])) H) (fun q => q = a) (fun v H H1 => v = none ∧ z_U G a (.inr (3, [.int nu, .int co, va_rf none, .int lf, .ref g, va_rf ul])) H H1) := by
  refine z_M.of (by decide +kernel) (Nat.le_of_ble_eq_true rfl) ?_
  intro p e s m below meth c C hP
  have hU : z_U G a _ s.heap s.heap := ⟨hP, rfl, fun _ _ => rfl⟩
  refine z_aload_n C dX2_giveTo_0 rfl ?_
  refine z_nullq C dX2_giveTo_1 ?_
  refine z_put C (by first | exact hU.1 | exact hP) z_cls3 hu_X2 (by exact rfl) 2 (by decide) wb_331 rfl rfl (by rfl) (by rfl) (Nat.le_of_ble_eq_true rfl) dX2_giveTo_2 (fun H2 hU2 => ?_)
  have hU := hU.trans hU2
  refine z_aload_n C dX2_giveTo_5 rfl ?_
  refine z_aload_n C dX2_giveTo_6 rfl ?_
  refine z_put C (by first | exact hU.1 | exact hP) z_cls3 hu_X2 (by exact rfl) 4 (by decide) wb_335 rfl rfl (by rfl) (by rfl) (Nat.le_of_ble_eq_true rfl) dX2_giveTo_7 (fun H7 hU7 => ?_)
  have hU := hU.trans hU7
  exact z_vret C (by omega) (by omega) dX2_giveTo_10 (by exact ⟨rfl, hU⟩)

set_option maxHeartbeats 4000000 in
set_option maxRecDepth 100000 in
theorem c_X2_useUp (l : Launch) (G : z_G) (a : Nat) (nu co lf : Int32) (rm ho ul : Option Nat) (d : Nat) : z_M l yX2_useUp cX2_useUp 2 none 0 0 0 [.ref a, .ref d] G (fun H => va_at G.1 vwCl (a, .inr (3, [.int nu, .int co, va_rf rm, .int lf, va_rf ho, va_rf ul])) H) (fun q => q = a) (fun v H H1 => v = none ∧ z_U G a (.inr (3, [.int nu, .int co, va_rf rm, .int lf, va_rf none, .ref d])) H H1) := by
  refine z_M.of (by decide +kernel) (Nat.le_of_ble_eq_true rfl) ?_
  intro p e s m below meth c C hP
  have hU : z_U G a _ s.heap s.heap := ⟨hP, rfl, fun _ _ => rfl⟩
  refine z_aload_n C dX2_useUp_0 rfl ?_
  refine z_nullq C dX2_useUp_1 ?_
  refine z_put C (by first | exact hU.1 | exact hP) z_cls3 hu_X2 (by exact rfl) 4 (by decide) wb_335 rfl rfl (by rfl) (by rfl) (Nat.le_of_ble_eq_true rfl) dX2_useUp_2 (fun H2 hU2 => ?_)
  have hU := hU.trans hU2
  refine z_aload_n C dX2_useUp_5 rfl ?_
  refine z_aload_n C dX2_useUp_6 rfl ?_
  refine z_put C (by first | exact hU.1 | exact hP) z_cls3 hu_X2 (by exact rfl) 5 (by decide) wb_337 rfl rfl (by rfl) (by rfl) (Nat.le_of_ble_eq_true rfl) dX2_useUp_7 (fun H7 hU7 => ?_)
  have hU := hU.trans hU7
  exact z_vret C (by omega) (by omega) dX2_useUp_10 (by exact ⟨rfl, hU⟩)

set_option maxHeartbeats 4000000 in
set_option maxRecDepth 100000 in
theorem c_X2_isWithin (l : Launch) (G : z_G) (a gr : Nat) (bt : Int32) (nu co lf : Int32) (rm ho ul : Option Nat) (x : Int32) : z_MR l yX2_isWithin cX2_isWithin 3 (some .boolean) 0 [.ref a, .ref gr, .int x] G (fun H => va_at G.1 vwCl (a, .inr (3, [.int nu, .int co, va_rf rm, .int lf, va_rf ho, va_rf ul])) H ∧ ∀ r, rm = some r → ∃ n1 a1, va_at G.1 vwCl (r, .inr (5, [.int n1, .int bt, .int a1])) H) (.int (z_b (if rm = none then decide (ho = some gr) else !(decide (bt &&& x = 0))))) := by
  refine z_M.of (by decide +kernel) (Nat.le_of_ble_eq_true rfl) ?_
  intro p e s m below meth c C hP
  obtain ⟨hP, hr⟩ := hP
  refine z_aload_n C dX2_isWithin_0 rfl ?_
  refine z_get C (by first | exact hP | exact hroom) z_cls3 hu_X2 2 (by decide) wb_331 rfl rfl dX2_isWithin_1 ?_
  refine z_ifnull C 25 dX2_isWithin_4 (by decide) (fun h4 => ?_) (fun a4 h4 => ?_)
  · refine z_aload_n C dX2_isWithin_25 rfl ?_
    refine z_get C (by first | exact hP | exact hroom) z_cls3 hu_X2 4 (by decide) wb_335 rfl rfl dX2_isWithin_26 ?_
    refine z_aload_n C dX2_isWithin_29 rfl ?_
    refine z_acmp_ne_rq C 37 dX2_isWithin_30 (by decide) (fun h30 => ?_) (fun h30 => ?_)
    · refine z_iconst (v := 0) C dX2_isWithin_37 (by decide) ?_
      exact z_bret C (by omega) (by omega) dX2_isWithin_38 (by rfl) (by exact ⟨congrArg (fun z => some (Value.int z)) (by simp [z_b, Bool.or_eq_true, *]), rfl⟩)
    · refine z_iconst (v := 1) C dX2_isWithin_33 (by decide) ?_
      refine z_goto C 38 dX2_isWithin_34 (by decide) ?_
      exact z_bret C (by omega) (by omega) dX2_isWithin_38 (by rfl) (by exact ⟨congrArg (fun z => some (Value.int z)) (by simp [z_b, Bool.or_eq_true, *]), rfl⟩)
  · subst h4
    obtain ⟨n1, a1, hroom⟩ := hr a4 rfl
    refine z_aload_n C dX2_isWithin_7 rfl ?_
    refine z_get C (by first | exact hP | exact hroom) z_cls3 hu_X2 2 (by decide) wb_331 rfl rfl dX2_isWithin_8 ?_
    refine z_get C (by first | exact hP | exact hroom) z_cls5 hu_X4 1 (by decide) wb_144 rfl rfl dX2_isWithin_11 ?_
    refine z_iload_n C dX2_isWithin_14 rfl ?_
    refine z_iand C dX2_isWithin_15 ?_
    refine z_if_eq C 23 dX2_isWithin_16 (by decide) (fun h16 => ?_) (fun h16 => ?_)
    · refine z_iconst (v := 0) C dX2_isWithin_23 (by decide) ?_
      exact z_bret C (by omega) (by omega) dX2_isWithin_24 (by rfl) (by exact ⟨congrArg (fun z => some (Value.int z)) (by simp [z_b, Bool.or_eq_true, *]), rfl⟩)
    · refine z_iconst (v := 1) C dX2_isWithin_19 (by decide) ?_
      refine z_goto C 24 dX2_isWithin_20 (by decide) ?_
      exact z_bret C (by omega) (by omega) dX2_isWithin_24 (by rfl) (by exact ⟨congrArg (fun z => some (Value.int z)) (by simp [z_b, Bool.or_eq_true, *]), rfl⟩)

set_option maxHeartbeats 4000000 in
set_option maxRecDepth 100000 in
theorem c_X0_speedsUp (l : Launch) (G : z_G) (a f t lo hi : Nat) (nu wk rb co un lb io ot : Int32) (nf bf af nt bt at0 : Int32) : z_M l yX0_speedsUp cX0_speedsUp 3 (some .boolean) 2 0 0 [.ref a, .ref f, .ref t] G (fun H => va_at G.1 vwCl (a, .inr (1, [.int nu, .ref lo, .ref hi, .int wk, .int rb, .int co, .int un, .int lb, .int io, .int ot])) H ∧ va_at G.1 vwCl (f, .inr (5, [.int nf, .int bf, .int af])) H ∧ va_at G.1 vwCl (t, .inr (5, [.int nt, .int bt, .int at0])) H) (fun q => q = t) (fun v H H1 => if af = 1000000 ∨ ¬ m_later af ot + wk < at0 then v = some (.int (z_b false)) ∧ H1 = H else v = some (.int (z_b true)) ∧ z_U G t (.inr (5, [.int nt, .int bt, .int (m_later af ot + wk)])) H H1) := by
  refine z_M.of (by decide +kernel) (Nat.le_of_ble_eq_true rfl) ?_
  intro p e s m below meth c C hP
  obtain ⟨hP, hf, ht⟩ := hP
  refine z_aload_n C dX0_speedsUp_0 rfl ?_
  refine z_get C (by first | exact hP | exact hf | exact ht) z_cls5 hu_X4 2 (by decide) wb_146 rfl rfl dX0_speedsUp_1 ?_
  refine z_ldc C wb_580 dX0_speedsUp_4 ?_
  refine z_icmp_eq C 24 dX0_speedsUp_6 (by decide) (fun h6 => ?_) (fun h6 => ?_)
  · refine z_iconst (v := 0) C dX0_speedsUp_24 (by decide) ?_
    exact z_bret C (by omega) (by omega) dX0_speedsUp_25 (by rfl) (by simp [z_b, *])
  · refine z_aload_n C dX0_speedsUp_9 rfl ?_
    refine z_aload_n C dX0_speedsUp_10 rfl ?_
    refine z_get C (by first | exact hP | exact hf | exact ht) z_cls5 hu_X4 2 (by decide) wb_146 rfl rfl dX0_speedsUp_11 ?_
    refine z_callVR (As := [.int _]) C (c_X0_timeBehind _ _ a lo hi nu wk rb co un lb io ot _) kc_X0_timeBehind wb_581 ⟨by decide, by decide⟩ hP rfl hP ⟨Nat.zero_le _, Nat.zero_le _⟩ (Nat.le_of_ble_eq_true rfl) dX0_speedsUp_14 ?_
    refine z_aload_n C dX0_speedsUp_17 rfl ?_
    refine z_get C (by first | exact hP | exact hf | exact ht) z_cls5 hu_X4 2 (by decide) wb_146 rfl rfl dX0_speedsUp_18 ?_
    refine z_icmp_lt C 26 dX0_speedsUp_21 (by decide) (fun h21 => ?_) (fun h21 => ?_)
    · refine z_aload_n C dX0_speedsUp_26 rfl ?_
      refine z_aload_n C dX0_speedsUp_27 rfl ?_
      refine z_aload_n C dX0_speedsUp_28 rfl ?_
      refine z_get C (by first | exact hP | exact hf | exact ht) z_cls5 hu_X4 2 (by decide) wb_146 rfl rfl dX0_speedsUp_29 ?_
      refine z_callVR (As := [.int _]) C (c_X0_timeBehind _ _ a lo hi nu wk rb co un lb io ot _) kc_X0_timeBehind wb_581 ⟨by decide, by decide⟩ hP rfl hP ⟨Nat.zero_le _, Nat.zero_le _⟩ (Nat.le_of_ble_eq_true rfl) dX0_speedsUp_32 ?_
      refine z_put C (by first | exact hP | exact hf | exact ht) z_cls5 hu_X4 (by exact rfl) 2 (by decide) wb_146 rfl rfl (by rfl) (by rfl) (Nat.le_of_ble_eq_true rfl) dX0_speedsUp_35 (fun H35 hU35 => ?_)
      refine z_iconst (v := 1) C dX0_speedsUp_38 (by decide) ?_
      exact z_bret C (by omega) (by omega) dX0_speedsUp_39 (by rfl) (by simp [z_b, *]; exact hU35)
    · refine z_iconst (v := 0) C dX0_speedsUp_24 (by decide) ?_
      exact z_bret C (by omega) (by omega) dX0_speedsUp_25 (by rfl) (by simp [z_b, *])

