def nf_0 : List Value := [.int 0, .null, .int 0]
theorem nw_0 : ∀ j, j < 3 → defaultValue (tyJx4a65c j) = vp_V nf_0 j := fun j hj => match j, hj with
  | 0, _ => rfl
  | 1, _ => rfl
  | 2, _ => rfl
  | k + 3, hj => absurd hj (by omega)
def nf_1 : List Value := [.int 0, .null, .null, .int 0, .int 0, .int 0, .int 0, .int 0, .int 0, .int 0]
theorem nw_1 : ∀ j, j < 10 → defaultValue (tyX0 j) = vp_V nf_1 j := fun j hj => match j, hj with
  | 0, _ => rfl
  | 1, _ => rfl
  | 2, _ => rfl
  | 3, _ => rfl
  | 4, _ => rfl
  | 5, _ => rfl
  | 6, _ => rfl
  | 7, _ => rfl
  | 8, _ => rfl
  | 9, _ => rfl
  | k + 10, hj => absurd hj (by omega)
def nf_2 : List Value := [.int 0, .int 0, .null, .int 0, .int 0, .int 0]
theorem nw_2 : ∀ j, j < 6 → defaultValue (tyX1 j) = vp_V nf_2 j := fun j hj => match j, hj with
  | 0, _ => rfl
  | 1, _ => rfl
  | 2, _ => rfl
  | 3, _ => rfl
  | 4, _ => rfl
  | 5, _ => rfl
  | k + 6, hj => absurd hj (by omega)
def nf_3 : List Value := [.int 0, .int 0, .null, .int 0, .null, .null]
theorem nw_3 : ∀ j, j < 6 → defaultValue (tyX2 j) = vp_V nf_3 j := fun j hj => match j, hj with
  | 0, _ => rfl
  | 1, _ => rfl
  | 2, _ => rfl
  | 3, _ => rfl
  | 4, _ => rfl
  | 5, _ => rfl
  | k + 6, hj => absurd hj (by omega)
def nf_4 : List Value := [.null, .null, .null, .null, .null, .int 0, .int 0, .int 0, .int 0, .long 0]
theorem nw_4 : ∀ j, j < 10 → defaultValue (tyX3 j) = vp_V nf_4 j := fun j hj => match j, hj with
  | 0, _ => rfl
  | 1, _ => rfl
  | 2, _ => rfl
  | 3, _ => rfl
  | 4, _ => rfl
  | 5, _ => rfl
  | 6, _ => rfl
  | 7, _ => rfl
  | 8, _ => rfl
  | 9, _ => rfl
  | k + 10, hj => absurd hj (by omega)
def nf_5 : List Value := [.int 0, .int 0, .int 0]
theorem nw_5 : ∀ j, j < 3 → defaultValue (tyX4 j) = vp_V nf_5 j := fun j hj => match j, hj with
  | 0, _ => rfl
  | 1, _ => rfl
  | 2, _ => rfl
  | k + 3, hj => absurd hj (by omega)
def nf_6 : List Value := [.null, .null, .null, .null, .null, .null, .int 0, .int 0, .int 0, .int 0]
theorem nw_6 : ∀ j, j < 10 → defaultValue (tyX5 j) = vp_V nf_6 j := fun j hj => match j, hj with
  | 0, _ => rfl
  | 1, _ => rfl
  | 2, _ => rfl
  | 3, _ => rfl
  | 4, _ => rfl
  | 5, _ => rfl
  | 6, _ => rfl
  | 7, _ => rfl
  | 8, _ => rfl
  | 9, _ => rfl
  | k + 10, hj => absurd hj (by omega)
theorem z_Es.ne {G : z_G} {H : Heap} (h : z_Es G H) : G.2 6 < H.size ∧ G.2 5 < H.size := by
  obtain ⟨⟨cell, c1, -⟩, c3⟩ := h
  exact ⟨(Array.getElem?_eq_some_iff.mp c1).1, c3.lt⟩
set_option maxHeartbeats 4000000 in
set_option maxRecDepth 100000 in
theorem c_Jx4a65c_init_da8c8 (l : Launch) (G : z_G) (a : Nat) (m0 n0 : Int32) (v1 : Option Nat) (hne : G.2 6 ≠ a) : z_M l yJx4a65c_init_da8c8 cJx4a65c_init_da8c8 1 none 3 0 0 [.ref a] G (fun H => va_at G.1 vwCl (a, .inr (0, [.int m0, va_rf v1, .int n0])) H ∧ z_Es G H) (fun q => q = a) (fun v H H1 => v = none ∧ z_U G a (.inr (0, [.int 0, .ref (G.2 5), .int n0])) H H1) := by
  refine z_M.of (by decide +kernel) (Nat.le_of_ble_eq_true rfl) ?_
  intro p e s m below meth c C hP
  refine z_aload_n C dJx4a65c_init_da8c8_0 rfl ?_
  refine z_callI (As := []) C (c_Jxc12de_init_da8c8 _ _ a _ _ _) kc_Jxc12de_init_da8c8 wb_31 ⟨by decide, by decide⟩ (hP.1) (fun _ h => h) ⟨Nat.zero_le _, Nat.zero_le _⟩ (Nat.le_of_ble_eq_true rfl) dJx4a65c_init_da8c8_1 (fun v H1 hq _ _ => ?_)
  obtain ⟨rfl, hU⟩ := hq
  refine z_aload_n C dJx4a65c_init_da8c8_4 rfl ?_
  refine z_gets C hP.2 hne wb_38 dJx4a65c_init_da8c8_5 ?_
  refine z_put C (by first | exact hU.1 | exact hP.1) z_cls0 hu_Jx4a65c (by exact rfl) 1 (by decide) wb_40 rfl rfl (by rfl) (by rfl) (Nat.le_of_ble_eq_true rfl) dJx4a65c_init_da8c8_8 (fun H8 hU8 => ?_)
  have hU := hU.trans hU8
  exact z_vret C (by omega) (by omega) dJx4a65c_init_da8c8_11 (by exact ⟨rfl, hU⟩)

set_option maxHeartbeats 4000000 in
set_option maxRecDepth 100000 in
theorem c_X0_init (l : Launch) (G : z_G) (a lo hi : Nat) (v0 v3 v4 v5 v6 v7 v8 v9 i w nl bl tl nh bh th : Int32) (v1 v2 : Option Nat) (hlo : lo ≠ a) (hhi : hi ≠ a) : z_M l yX0_init cX0_init 5 none 1 0 0 [.ref a, .int i, .ref lo, .ref hi, .int w] G (fun H => va_at G.1 vwCl (a, .inr (1, [.int v0, va_rf v1, va_rf v2, .int v3, .int v4, .int v5, .int v6, .int v7, .int v8, .int v9])) H ∧ va_at G.1 vwCl (lo, .inr (5, [.int nl, .int bl, .int tl])) H ∧ va_at G.1 vwCl (hi, .inr (5, [.int nh, .int bh, .int th])) H) (fun q => q = a) (fun v H H1 => v = none ∧ z_U G a (.inr (1, [.int i, .ref lo, .ref hi, .int w, .int (bl ||| bh), .int (-6), .int v6, .int v7, .int 1, .int v9])) H H1) := by
  refine z_M.of (by decide +kernel) (Nat.le_of_ble_eq_true rfl) ?_
  intro p e s m below meth c C hP
  obtain ⟨hP, hL, hR⟩ := hP
  have hU : z_U G a _ s.heap s.heap := ⟨hP, rfl, fun _ _ => rfl⟩
  refine z_aload_n C dX0_init_0 rfl ?_
  refine z_objInit C wb_258 wb_24 wb_25 dX0_init_1 (by decide) (Nat.le_of_ble_eq_true rfl) ?_
  refine z_aload_n C dX0_init_4 rfl ?_
  refine z_iload_n C dX0_init_5 rfl ?_
  refine z_putF C (by first | exact hU.1 | exact z_at_keep hU hL hlo | exact z_at_keep hU hR hhi) z_cls1 hu_X0 (by exact rfl) 0 (by decide) wb_259 rfl rfl rfl rfl rfl rfl (Nat.le_of_ble_eq_true rfl) dX0_init_6 (fun H6 hU6 => ?_)
  have hU := hU.trans hU6
  refine z_aload_n C dX0_init_9 rfl ?_
  refine z_aload_n C dX0_init_10 rfl ?_
  refine z_putF C (by first | exact hU.1 | exact z_at_keep hU hL hlo | exact z_at_keep hU hR hhi) z_cls1 hu_X0 (by exact rfl) 1 (by decide) wb_262 rfl rfl rfl rfl rfl rfl (Nat.le_of_ble_eq_true rfl) dX0_init_11 (fun H11 hU11 => ?_)
  have hU := hU.trans hU11
  refine z_aload_n C dX0_init_14 rfl ?_
  refine z_aload_n C dX0_init_15 rfl ?_
  refine z_putF C (by first | exact hU.1 | exact z_at_keep hU hL hlo | exact z_at_keep hU hR hhi) z_cls1 hu_X0 (by exact rfl) 2 (by decide) wb_264 rfl rfl rfl rfl rfl rfl (Nat.le_of_ble_eq_true rfl) dX0_init_16 (fun H16 hU16 => ?_)
  have hU := hU.trans hU16
  refine z_aload_n C dX0_init_19 rfl ?_
  refine z_iload C dX0_init_20 rfl ?_
  refine z_putF C (by first | exact hU.1 | exact z_at_keep hU hL hlo | exact z_at_keep hU hR hhi) z_cls1 hu_X0 (by exact rfl) 3 (by decide) wb_266 rfl rfl rfl rfl rfl rfl (Nat.le_of_ble_eq_true rfl) dX0_init_22 (fun H22 hU22 => ?_)
  have hU := hU.trans hU22
  refine z_aload_n C dX0_init_25 rfl ?_
  refine z_aload_n C dX0_init_26 rfl ?_
  refine z_get C (by first | exact hU.1 | exact z_at_keep hU hL hlo | exact z_at_keep hU hR hhi) z_cls5 hu_X4 1 (by decide) wb_142 rfl rfl dX0_init_27 ?_
  refine z_aload_n C dX0_init_30 rfl ?_
  refine z_get C (by first | exact hU.1 | exact z_at_keep hU hL hlo | exact z_at_keep hU hR hhi) z_cls5 hu_X4 1 (by decide) wb_142 rfl rfl dX0_init_31 ?_
  refine z_ior C dX0_init_34 ?_
  refine z_putF C (by first | exact hU.1 | exact z_at_keep hU hL hlo | exact z_at_keep hU hR hhi) z_cls1 hu_X0 (by exact rfl) 4 (by decide) wb_268 rfl rfl rfl rfl rfl rfl (Nat.le_of_ble_eq_true rfl) dX0_init_35 (fun H35 hU35 => ?_)
  have hU := hU.trans hU35
  refine z_aload_n C dX0_init_38 rfl ?_
  refine z_bipush (v := (-6)) C dX0_init_39 (by decide) ?_
  refine z_put C (by first | exact hU.1 | exact z_at_keep hU hL hlo | exact z_at_keep hU hR hhi) z_cls1 hu_X0 (by exact rfl) 5 (by decide) wb_271 rfl rfl (by rfl) (by rfl) (Nat.le_of_ble_eq_true rfl) dX0_init_41 (fun H41 hU41 => ?_)
  have hU := hU.trans hU41
  refine z_aload_n C dX0_init_44 rfl ?_
  refine z_iconst (v := 1) C dX0_init_45 (by decide) ?_
  refine z_put C (by first | exact hU.1 | exact z_at_keep hU hL hlo | exact z_at_keep hU hR hhi) z_cls1 hu_X0 (by exact rfl) 8 (by decide) wb_280 rfl rfl (by rfl) (by rfl) (Nat.le_of_ble_eq_true rfl) dX0_init_46 (fun H46 hU46 => ?_)
  have hU := hU.trans hU46
  exact z_vret C (by omega) (by omega) dX0_init_49 (by exact ⟨rfl, hU⟩)

set_option maxHeartbeats 4000000 in
set_option maxRecDepth 100000 in
theorem c_X3_init (l : Launch) (G : z_G) (a sz : Nat) : z_M l yX3_init cX3_init 1 none 1 2 2048 [.ref a] G (fun H => H.size = sz ∧ va_at G.1 vwCl (a, .inr (4, nf_4)) H) (fun q => q = a ∨ sz ≤ q) (fun v H H1 => v = none ∧ H1.size = sz + 2 ∧ va_at G.1 vwCl (a, .inr (4, [.ref sz, .ref (sz + 1), .null, .null, .null, .int 0, .int 0, .int 0, .int 0, .long 0])) H1 ∧ va_at G.1 vwCl (sz, .inl (G.2 0, 1024, .inl (fun _ => 0))) H1 ∧ va_at G.1 vwCl (sz + 1, .inl (G.2 1, 1024, .inr (.inl (fun _ => 0)))) H1) := by
  refine z_M.of (by decide +kernel) (Nat.le_of_ble_eq_true rfl) ?_
  intro p e s m below meth c C hP
  obtain ⟨rfl, hO⟩ := hP
  have hlt := hO.lt
  have hlt : a < s.heap.size := hlt
  refine z_aload_n C dX3_init_0 rfl ?_
  refine z_objInit C wb_57 wb_24 wb_25 dX3_init_1 (by decide) (Nat.le_of_ble_eq_true rfl) ?_
  refine z_aload_n C dX3_init_4 rfl ?_
  refine z_sipush (v := 1024) C dX3_init_5 (by decide) ?_
  refine z_newaI C wb_92 1024 (by decide) (by decide) (Nat.le_of_ble_eq_true rfl) (Nat.le_of_ble_eq_true rfl) (Nat.le_of_ble_eq_true rfl) dX3_init_8 (fun q8 H8 hN8 => ?_)
  obtain rfl : q8 = s.heap.size := hN8.1
  have hO8 := z_at_new hN8 hO
  refine z_putF C (by first | exact hO17 | exact hO8 | exact hO) z_cls4 hu_X3 (by exact Or.inl rfl) 0 (by decide) wb_58 rfl rfl rfl rfl rfl rfl (Nat.le_of_ble_eq_true rfl) dX3_init_10 (fun H10 hU10 => ?_)
  have hR8 := z_at_keep hU10 hN8.2.1 (Nat.ne_of_gt hlt)
  refine z_aload_n C dX3_init_13 rfl ?_
  refine z_sipush (v := 1024) C dX3_init_14 (by decide) ?_
  refine z_newaJ C wb_93 1024 (by decide) (by decide) (Nat.le_of_ble_eq_true rfl) (Nat.le_of_ble_eq_true rfl) (Nat.le_of_ble_eq_true rfl) dX3_init_17 (fun q17 H17 hN17 => ?_)
  obtain rfl : q17 = s.heap.size + 1 := by rw [hN17.1, hU10.2.1, hN8.2.2.1]
  have hO17 := z_at_new hN17 hU10.1
  have hR17 := z_at_new hN17 hR8
  refine z_putF C (by first | exact hO17 | exact hO8 | exact hO) z_cls4 hu_X3 (by exact Or.inl rfl) 1 (by decide) wb_59 rfl rfl rfl rfl rfl rfl (Nat.le_of_ble_eq_true rfl) dX3_init_19 (fun H19 hU19 => ?_)
  exact z_vret C (by omega) (by omega) dX3_init_22 (by exact ⟨rfl, by rw [hU19.2.1, hN17.2.2.1, hU10.2.1, hN8.2.2.1], hU19.1, z_at_keep hU19 hR17 (Nat.ne_of_gt hlt), z_at_keep hU19 hN17.2.1 (Nat.ne_of_gt (Nat.lt_succ_of_lt hlt))⟩)

/-- the object under construction: j lists are there -/
def y_5 (G : z_G) (a sz j : Nat) (fs : List Value) (H : Heap) : Prop := H.size = sz + j ∧ va_at G.1 vwCl (a, .inr (6, fs)) H ∧ z_Es G H ∧ ∀ i, i < j → va_at G.1 vwCl (sz + i, .inr (0, [.int 0, .ref (G.2 5), .int 0])) H
theorem y_5.step {G : z_G} {a sz j q : Nat} {fs fs2 : List Value} {e : va_E} {H H1 H2 H3 : Heap} (h : y_5 G a sz j fs H) (ha : a < sz) (h6 : G.2 6 < sz ∧ G.2 5 < sz) (hne : G.2 6 ≠ a ∧ G.2 5 ≠ a) (hq : q = sz + j) (hN : z_N G q e H H1) (hU : z_U G q (.inr (0, [.int 0, .ref (G.2 5), .int 0])) H1 H2) (hU2 : z_U G a (.inr (6, fs2)) H2 H3) : y_5 G a sz (j + 1) fs2 H3 := by
  subst hq
  have hb : ∀ b, b < sz + j → b ≠ a → H3[b]? = H[b]? := fun b hb hba => (hU2.2.2 b hba).trans ((hU.2.2 b (by omega)).trans (hN.2.2.2 b (by rw [h.1]; exact hb)))
  refine ⟨by rw [hU2.2.1, hU.2.1, hN.2.2.1, h.1]; omega, hU2.1, h.2.2.1.kept (hb _ (by omega) hne.1) (hb _ (by omega) hne.2), fun i hi => ?_⟩
  by_cases z : i = j
  · subst z
    exact z_at_keep hU2 hU.1 (by omega)
  · exact (h.2.2.2 i (by omega)).kept (hb _ (by omega) (by omega))
/-- where the class's cells lie at the start -/
def x_ad0 (G : z_G) (a sz : Nat) (_ i : Nat) : Nat := if i = 0 then a else if i ≤ 4 then sz + (i - 1) else if i ≤ 8 then G.2 5 else sz + (i - 5)
def m_M0 : m_S := (fun k => if k = 1 then -6 else if k = 20 then 5 else if k = 21 then 5 else 0, fun _ _ => 0)
def x_T0 : x_T := (fun _ => 0, fun _ => none, fun _ => 0, 0, fun _ => 0, fun _ => 0)
theorem x_in_0 {k i : Nat} (h : x_in 0 0 0 0 k i) : k = 4 ∧ i < 12 ∧ ¬ (5 ≤ i ∧ i ≤ 8) := by
  unfold x_in at h
  omega

theorem x_ad0_inj {G : z_G} {a sz : Nat} (ha : a < sz) : x_inj (x_ad0 G a sz) 0 0 0 0 := by
  intro k i k2 i2 h1 h2 h3
  obtain ⟨rfl, b1, b2⟩ := x_in_0 h1
  obtain ⟨rfl, c1, c2⟩ := x_in_0 h2
  refine ⟨rfl, ?_⟩
  unfold x_ad0 at h3
  repeat' split at h3
  all_goals omega

set_option maxHeartbeats 4000000 in
set_option maxRecDepth 100000 in
theorem c_X5_init (l : Launch) (G : z_G) (a sz : Nat) (hne : G.2 6 ≠ a ∧ G.2 5 ≠ a) : z_M l yX5_init cX5_init 1 none 4 7 2070 [.ref a] G (fun H => H.size = sz ∧ va_at G.1 vwCl (a, .inr (6, nf_6)) H ∧ z_Es G H) (fun q => q = a ∨ sz ≤ q) (fun v H H1 => v = none ∧ x_R G (x_ad0 G a sz) 0 0 0 0 m_M0 x_T0 H1) := by
  refine z_M.of (by decide +kernel) (Nat.le_of_ble_eq_true rfl) ?_
  intro p e s m below meth c C hP
  obtain ⟨rfl, hO, hE⟩ := hP
  have hlt := hO.lt
  have hlt : a < s.heap.size := hlt
  have h6 := hE.ne
  have hY : y_5 G a s.heap.size 0 nf_6 s.heap := ⟨rfl, hO, hE, fun i hi => absurd hi (by omega)⟩
  refine z_aload_n C dX5_init_0 rfl ?_
  refine z_objInit C wb_23 wb_24 wb_25 dX5_init_1 (by decide) (Nat.le_of_ble_eq_true rfl) ?_
  refine z_aload_n C dX5_init_4 rfl ?_
  refine z_new (fs := nf_0) C z_cls0 hu_Jx4a65c wb_26 wb_27 wb_4 nw_0 (Nat.le_of_ble_eq_true rfl) (Nat.le_of_ble_eq_true rfl) dX5_init_5 (fun q5 H5 hN5 => ?_)
  obtain rfl : q5 = s.heap.size + 0 := hN5.1.trans hY.1
  refine z_dup C dX5_init_8 rfl ?_
  have hE5 : z_Es G H5 := hY.2.2.1.kept (hN5.2.2.2 _ (by rw [hY.1]; omega)) (hN5.2.2.2 _ (by rw [hY.1]; omega))
  refine z_callI (As := []) C (c_Jx4a65c_init_da8c8 _ _ _ 0 0 none (by omega)) kc_Jx4a65c_init_da8c8 wb_28 ⟨by decide, by decide⟩ ⟨hN5.2.1, hE5⟩ (fun z hz => by rw [hz]; exact Or.inr (by omega)) ⟨Nat.le_of_ble_eq_true rfl, Nat.le_of_ble_eq_true rfl⟩ (Nat.le_of_ble_eq_true rfl) dX5_init_9 (fun v H9 hq _ _ => ?_)
  obtain ⟨rfl, hU9⟩ := hq
  have hO9 := z_at_keep hU9 (z_at_new hN5 hY.2.1) (by omega)
  refine z_putF C (by first | exact hU.1 | exact hO53 | exact hO42 | exact hO31 | exact hO20 | exact hO9) z_cls6 hu_X5 (by exact Or.inl rfl) 0 (by decide) wb_94 rfl rfl rfl rfl rfl rfl (Nat.le_of_ble_eq_true rfl) dX5_init_12 (fun H12 hU12 => ?_)
  have hY := hY.step hlt h6 hne rfl hN5 hU9 hU12
  refine z_aload_n C dX5_init_15 rfl ?_
  refine z_new (fs := nf_0) C z_cls0 hu_Jx4a65c wb_26 wb_27 wb_4 nw_0 (Nat.le_of_ble_eq_true rfl) (Nat.le_of_ble_eq_true rfl) dX5_init_16 (fun q16 H16 hN16 => ?_)
  obtain rfl : q16 = s.heap.size + 1 := hN16.1.trans hY.1
  refine z_dup C dX5_init_19 rfl ?_
  have hE16 : z_Es G H16 := hY.2.2.1.kept (hN16.2.2.2 _ (by rw [hY.1]; omega)) (hN16.2.2.2 _ (by rw [hY.1]; omega))
  refine z_callI (As := []) C (c_Jx4a65c_init_da8c8 _ _ _ 0 0 none (by omega)) kc_Jx4a65c_init_da8c8 wb_28 ⟨by decide, by decide⟩ ⟨hN16.2.1, hE16⟩ (fun z hz => by rw [hz]; exact Or.inr (by omega)) ⟨Nat.le_of_ble_eq_true rfl, Nat.le_of_ble_eq_true rfl⟩ (Nat.le_of_ble_eq_true rfl) dX5_init_20 (fun v H20 hq _ _ => ?_)
  obtain ⟨rfl, hU20⟩ := hq
  have hO20 := z_at_keep hU20 (z_at_new hN16 hY.2.1) (by omega)
  refine z_putF C (by first | exact hU.1 | exact hO53 | exact hO42 | exact hO31 | exact hO20 | exact hO9) z_cls6 hu_X5 (by exact Or.inl rfl) 1 (by decide) wb_95 rfl rfl rfl rfl rfl rfl (Nat.le_of_ble_eq_true rfl) dX5_init_23 (fun H23 hU23 => ?_)
  have hY := hY.step hlt h6 hne rfl hN16 hU20 hU23
  refine z_aload_n C dX5_init_26 rfl ?_
  refine z_new (fs := nf_0) C z_cls0 hu_Jx4a65c wb_26 wb_27 wb_4 nw_0 (Nat.le_of_ble_eq_true rfl) (Nat.le_of_ble_eq_true rfl) dX5_init_27 (fun q27 H27 hN27 => ?_)
  obtain rfl : q27 = s.heap.size + 2 := hN27.1.trans hY.1
  refine z_dup C dX5_init_30 rfl ?_
  have hE27 : z_Es G H27 := hY.2.2.1.kept (hN27.2.2.2 _ (by rw [hY.1]; omega)) (hN27.2.2.2 _ (by rw [hY.1]; omega))
  refine z_callI (As := []) C (c_Jx4a65c_init_da8c8 _ _ _ 0 0 none (by omega)) kc_Jx4a65c_init_da8c8 wb_28 ⟨by decide, by decide⟩ ⟨hN27.2.1, hE27⟩ (fun z hz => by rw [hz]; exact Or.inr (by omega)) ⟨Nat.le_of_ble_eq_true rfl, Nat.le_of_ble_eq_true rfl⟩ (Nat.le_of_ble_eq_true rfl) dX5_init_31 (fun v H31 hq _ _ => ?_)
  obtain ⟨rfl, hU31⟩ := hq
  have hO31 := z_at_keep hU31 (z_at_new hN27 hY.2.1) (by omega)
  refine z_putF C (by first | exact hU.1 | exact hO53 | exact hO42 | exact hO31 | exact hO20 | exact hO9) z_cls6 hu_X5 (by exact Or.inl rfl) 2 (by decide) wb_96 rfl rfl rfl rfl rfl rfl (Nat.le_of_ble_eq_true rfl) dX5_init_34 (fun H34 hU34 => ?_)
  have hY := hY.step hlt h6 hne rfl hN27 hU31 hU34
  refine z_aload_n C dX5_init_37 rfl ?_
  refine z_new (fs := nf_0) C z_cls0 hu_Jx4a65c wb_26 wb_27 wb_4 nw_0 (Nat.le_of_ble_eq_true rfl) (Nat.le_of_ble_eq_true rfl) dX5_init_38 (fun q38 H38 hN38 => ?_)
  obtain rfl : q38 = s.heap.size + 3 := hN38.1.trans hY.1
  refine z_dup C dX5_init_41 rfl ?_
  have hE38 : z_Es G H38 := hY.2.2.1.kept (hN38.2.2.2 _ (by rw [hY.1]; omega)) (hN38.2.2.2 _ (by rw [hY.1]; omega))
  refine z_callI (As := []) C (c_Jx4a65c_init_da8c8 _ _ _ 0 0 none (by omega)) kc_Jx4a65c_init_da8c8 wb_28 ⟨by decide, by decide⟩ ⟨hN38.2.1, hE38⟩ (fun z hz => by rw [hz]; exact Or.inr (by omega)) ⟨Nat.le_of_ble_eq_true rfl, Nat.le_of_ble_eq_true rfl⟩ (Nat.le_of_ble_eq_true rfl) dX5_init_42 (fun v H42 hq _ _ => ?_)
  obtain ⟨rfl, hU42⟩ := hq
  have hO42 := z_at_keep hU42 (z_at_new hN38 hY.2.1) (by omega)
  refine z_putF C (by first | exact hU.1 | exact hO53 | exact hO42 | exact hO31 | exact hO20 | exact hO9) z_cls6 hu_X5 (by exact Or.inl rfl) 3 (by decide) wb_97 rfl rfl rfl rfl rfl rfl (Nat.le_of_ble_eq_true rfl) dX5_init_45 (fun H45 hU45 => ?_)
  have hY := hY.step hlt h6 hne rfl hN38 hU42 hU45
  refine z_aload_n C dX5_init_48 rfl ?_
  refine z_new (fs := nf_4) C z_cls4 hu_X3 wb_52 wb_53 wb_5 nw_4 (Nat.le_of_ble_eq_true rfl) (Nat.le_of_ble_eq_true rfl) dX5_init_49 (fun q49 H49 hN49 => ?_)
  obtain rfl : q49 = s.heap.size + 4 := hN49.1.trans hY.1
  refine z_dup C dX5_init_52 rfl ?_
  refine z_callI (As := []) C (c_X3_init _ _ _ _) kc_X3_init wb_54 ⟨by decide, by decide⟩ ⟨rfl, hN49.2.1⟩ (fun z hz => Or.inr (by have := hN49.2.2.1; have := hY.1; omega)) ⟨Nat.le_of_ble_eq_true rfl, Nat.le_of_ble_eq_true rfl⟩ (Nat.le_of_ble_eq_true rfl) dX5_init_53 (fun v H53 hq _ hfr53 => ?_)
  obtain ⟨rfl, hz53, hS53, hi53, hj53⟩ := hq
  have e53 : H49.size = s.heap.size + 5 := by rw [hN49.2.2.1, hY.1]
  rw [e53] at hz53 hS53 hi53 hj53
  have hk53 : ∀ b, b < s.heap.size + 4 → H53[b]? = H45[b]? := fun b hb => (hfr53 b (by omega) (by omega)).trans (hN49.2.2.2 b (by rw [hY.1]; exact hb))
  have hO53 := hY.2.1.kept (hk53 a (by omega))
  refine z_putF C (by first | exact hU.1 | exact hO53 | exact hO42 | exact hO31 | exact hO20 | exact hO9) z_cls6 hu_X5 (by exact Or.inl rfl) 4 (by decide) wb_98 rfl rfl rfl rfl rfl rfl (Nat.le_of_ble_eq_true rfl) dX5_init_56 (fun H56 hU56 => ?_)
  have hU := hU56
  refine z_aload_n C dX5_init_59 rfl ?_
  refine z_nullq C dX5_init_60 ?_
  refine z_put C (by first | exact hU.1 | exact hO53 | exact hO42 | exact hO31 | exact hO20 | exact hO9) z_cls6 hu_X5 (by exact Or.inl rfl) 5 (by decide) wb_99 rfl rfl (by rfl) (by rfl) (Nat.le_of_ble_eq_true rfl) dX5_init_61 (fun H61 hU61 => ?_)
  have hU := hU.trans hU61
  refine z_aload_n C dX5_init_64 rfl ?_
  refine z_iconst (v := 5) C dX5_init_65 (by decide) ?_
  refine z_put C (by first | exact hU.1 | exact hO53 | exact hO42 | exact hO31 | exact hO20 | exact hO9) z_cls6 hu_X5 (by exact Or.inl rfl) 7 (by decide) wb_101 rfl rfl (by rfl) (by rfl) (Nat.le_of_ble_eq_true rfl) dX5_init_66 (fun H66 hU66 => ?_)
  have hU := hU.trans hU66
  refine z_aload_n C dX5_init_69 rfl ?_
  refine z_iconst (v := 5) C dX5_init_70 (by decide) ?_
  refine z_put C (by first | exact hU.1 | exact hO53 | exact hO42 | exact hO31 | exact hO20 | exact hO9) z_cls6 hu_X5 (by exact Or.inl rfl) 8 (by decide) wb_102 rfl rfl (by rfl) (by rfl) (Nat.le_of_ble_eq_true rfl) dX5_init_71 (fun H71 hU71 => ?_)
  have hU := hU.trans hU71
  have hk74 : ∀ b, b ≠ a → H71[b]? = H53[b]? := hU.2.2
  have hl74 : ∀ i, i < 4 → va_at G.1 vwCl (s.heap.size + i, .inr (0, [.int 0, .ref (G.2 5), .int 0])) H71 := fun i hi => (hY.2.2.2 i hi).kept ((hk74 _ (by omega)).trans (hk53 _ (by omega)))
  exact z_vret C (by omega) (by omega) dX5_init_74 (by exact ⟨rfl, ⟨⟨hU.1, hS53.kept (hk74 _ (by omega)), hi53.kept (hk74 _ (by omega)), hj53.kept (hk74 _ (by omega))⟩, ⟨fun i hi => absurd hi (by omega), fun i hi => absurd hi (by omega), fun i hi => absurd hi (by omega), fun i hi => absurd hi (by omega)⟩, ⟨⟨_, hl74 0 (by omega), Or.inl ⟨rfl, rfl⟩⟩, ⟨_, hl74 1 (by omega), Or.inl ⟨rfl, rfl⟩⟩, ⟨_, hl74 2 (by omega), Or.inl ⟨rfl, rfl⟩⟩, ⟨_, hl74 3 (by omega), Or.inl ⟨rfl, rfl⟩⟩⟩, x_ad0_inj hlt⟩⟩)

/-- the reference under construction: j arrays are there -/
def y_sl (i : Nat) : Nat := if i ≤ 5 then i + 3 else if i ≤ 9 then i + 4 else if i ≤ 14 then i + 5 else if i ≤ 19 then i + 8 else i + 10
def y_px (k : Nat) : Nat := if k ≤ 8 then k - 3 else if k ≤ 13 then k - 4 else if k ≤ 19 then k - 5 else if k ≤ 27 then k - 8 else k - 10
def y_c (G : z_G) (i : Nat) : va_E := .inl (if m_isZ (y_sl i) then G.2 2 else G.2 0, m_len (y_sl i), .inl (fun _ => 0))
def y_6 (G : z_G) (a sz j : Nat) (fs : List Value) (H : Heap) : Prop := H.size = sz + j ∧ va_at G.1 vwCl (a, .inr (7, fs)) H ∧ ∀ i, i < j → va_at G.1 vwCl (sz + i, y_c G i) H
theorem y_6.put {G : z_G} {a sz j : Nat} {fs fs2 : List Value} {H H1 : Heap} (h : y_6 G a sz j fs H) (ha : a < sz) (hU : z_U G a (.inr (7, fs2)) H H1) : y_6 G a sz j fs2 H1 :=
  ⟨hU.2.1.trans h.1, hU.1, fun i hi => z_at_keep hU (h.2.2 i hi) (by omega)⟩
theorem y_6.new {G : z_G} {a sz j q : Nat} {fs : List Value} {e : va_E} {H H1 : Heap} (h : y_6 G a sz j fs H) (he : e = y_c G j) (hq : q = sz + j) (hN : z_N G q e H H1) : y_6 G a sz (j + 1) fs H1 := by
  subst he hq
  refine ⟨by rw [hN.2.2.1, h.1]; rfl, z_at_new hN h.2.1, fun i hi => ?_⟩
  by_cases z : i = j
  · subst z; exact hN.2.1
  · exact z_at_new hN (h.2.2 i (by omega))
def m_ad0 (a sz k : Nat) : Nat := if k = 0 then a else sz + y_px k
theorem y_isI : ∀ k, k < 32 → m_isI k = true → k ≠ 0 ∧ y_px k < 22 ∧ y_sl (y_px k) = k ∧ m_isZ k = false := by decide +kernel
theorem y_isZ : ∀ k, k < 32 → m_isZ k = true → k ≠ 0 ∧ y_px k < 22 ∧ y_sl (y_px k) = k := by decide +kernel
theorem y_lt {k : Nat} (h : m_is k = true) : k < 32 := by
  simp [m_is, m_isI, m_isZ] at h
  omega
theorem y_px_inv {k : Nat} (h : m_is k = true) (h0 : k ≠ 0) : y_sl (y_px k) = k := by
  have h1 : m_isI k = true ∨ m_isZ k = true := by
    unfold m_is at h
    simp only [Bool.or_eq_true] at h
    rcases h with (h | h) | h
    · exact absurd (Nat.eq_of_beq_eq_true h) h0
    · exact Or.inl h
    · exact Or.inr h
  rcases h1 with q | q
  · exact (y_isI k (y_lt h) q).2.2.1
  · exact (y_isZ k (y_lt h) q).2.2
theorem y_6.done {G : z_G} {a sz : Nat} {H : Heap} (ha : a < sz) (h : y_6 G a sz 22 (m_fs m_M0 (m_ad0 a sz)) H) : m_R G (m_ad0 a sz) m_M0 H := by
  refine ⟨h.2.1, fun k hk => ?_, fun k hk => ?_, fun j k hj hk he => ?_⟩
  · obtain ⟨h0, h1, h2, h3⟩ := y_isI k (y_lt (m_is_I hk)) hk
    have h4 := h.2.2 _ h1
    unfold y_c at h4
    rw [h2, if_neg (by rw [h3]; decide)] at h4
    unfold m_ad0
    rw [if_neg h0]
    exact h4
  · obtain ⟨h0, h1, h2⟩ := y_isZ k (y_lt (m_is_Z hk)) hk
    have h4 := h.2.2 _ h1
    unfold y_c at h4
    rw [h2, if_pos hk] at h4
    unfold m_ad0
    rw [if_neg h0]
    exact h4
  · unfold m_ad0 at he
    by_cases c1 : j = 0
    · by_cases c2 : k = 0
      · rw [c1, c2]
      · rw [if_pos c1, if_neg c2] at he; omega
    · by_cases c2 : k = 0
      · rw [if_neg c1, if_pos c2] at he; omega
      · rw [if_neg c1, if_neg c2] at he
        rw [← y_px_inv hj c1, ← y_px_inv hk c2, show y_px j = y_px k by omega]

theorem y_fs (a sz : Nat) : [.int 0, .int (-6), .int 0, .ref (sz + 0), .ref (sz + 1), .ref (sz + 2), .ref (sz + 3), .ref (sz + 4), .ref (sz + 5), .int 0, .ref (sz + 6), .ref (sz + 7), .ref (sz + 8), .ref (sz + 9), .int 0, .ref (sz + 10), .ref (sz + 11), .ref (sz + 12), .ref (sz + 13), .ref (sz + 14), .int 5, .int 5, .int 0, .ref (sz + 15), .ref (sz + 16), .ref (sz + 17), .ref (sz + 18), .ref (sz + 19), .int 0, .int 0, .ref (sz + 20), .ref (sz + 21)] = m_fs m_M0 (m_ad0 a sz) := by
  simp [m_fs, m_M0, m_ad0, y_px]
